/-! Standing, Past, Pieces -/
def am_isSt (k : Nat) : Bool := [20, 25, 28, 31, 34, 37, 40, 43, 46, 49, 52, 71, 74].contains k
theorem st_cases {k : Nat} (h : am_isSt k = true) : k = 20 ∨ k = 25 ∨ k = 28 ∨ k = 31 ∨ k = 34 ∨ k = 37 ∨ k = 40 ∨ k = 43 ∨ k = 46 ∨ k = 49 ∨ k = 52 ∨ k = 71 ∨ k = 74 := by
  simpa [am_isSt] using h
theorem st_all {k : Nat} (h : am_isSt k = true) (n : Nat) (sw : Bool) : am_isob (am_sh n) k 3 = true ∧ am_Rf sw k 3 = some (k + 1) ∧ am_Rf sw k 4 = some (k + 2) ∧ (∀ j, am_rd (am_sh n) (k + 1) j = am_bnd j 4) ∧ (∀ j, am_rd (am_sh n) (k + 2) j = am_bnd j 24) ∧ (∀ j, am_inb (am_sh n) (k + 1) 8 j = am_bnd j 4) ∧ (∀ j, am_inb (am_sh n) (k + 2) 8 j = am_bnd j 24) ∧ 0 < k ∧ am_len (am_sh n) (k + 1) 8 = 4 ∧ am_len (am_sh n) (k + 2) 8 = 24 ∧ ((am_sh n)[k + 1]?).map Prod.fst = some 8 ∧ ((am_sh n)[k + 2]?).map Prod.fst = some 8 := by
  rcases st_cases h with rfl | rfl | rfl | rfl | rfl | rfl | rfl | rfl | rfl | rfl | rfl | rfl | rfl <;> exact ⟨rfl, rfl, rfl, fun j => Bool.or_false _, fun j => Bool.or_false _, fun j => rfl, fun j => rfl, by decide, rfl, rfl, rfl, rfl⟩
theorem up_s {α : Type} (f : Nat → Nat → α) (k j : Nat) (v : α) : am_up f k j v k j = v := if_pos ⟨rfl, rfl⟩
theorem up_n {α : Type} {f : Nat → Nat → α} {k j a b : Nat} {v : α} (h : a ≠ k ∨ b ≠ j) : am_up f k j v a b = f a b := if_neg (fun q => h.elim (fun z => z q.1) (fun z => z q.2))
theorem row_s {α : Type} (f : Nat → Nat → α) (k : Nat) (g : Nat → α) (b : Nat) : am_row f k g k b = g b := if_pos rfl
theorem row_n {α : Type} {f : Nat → Nat → α} {k a b : Nat} {g : Nat → α} (h : a ≠ k) : am_row f k g a b = f a b := if_neg h
/-- a client's yards out of a row -/
def am_yds (h : Nat → Int32) (c : Nat) : Int32 := nI 0 + h (c * 4) + h (c * 4 + 1) + h (c * 4 + 2) + h (c * 4 + 3)
def am_pos (x : Int32) : Nat := if x ≤ nI 0 then 0 else 1
def am_pat (h : Nat → Int32) (c : Nat) : Nat := am_pos (h (c * 4)) + am_pos (h (c * 4 + 1)) + am_pos (h (c * 4 + 2)) + am_pos (h (c * 4 + 3)) - 1
def am_lose (h : Nat → Int32) (c : Nat) : Nat → Int32 := fun j => if c * 4 ≤ j ∧ j < c * 4 + 4 then nI 0 else h j
section
variable {k c n d : Nat} {I : Nat → Nat → Int32} {J : Nat → Nat → Int64} {sw : Bool} {Q : am_Post}
theorem c3_isDressed (hk : am_isSt k = true) : am_call (d + 1) m3_isDressed [.ref k, .int (nI c)] (am_sh n, I, J, am_Rf sw) Q ↔ Q (some (.int (am_bi (am_isb (I k 2) c)))) (am_sh n, I, J, am_Rf sw) := by
  obtain ⟨h1, h2, h3, h4, h5, h6, h7, h8, -⟩ := st_all hk n sw
  simp (disch := omega) only [e3_isDressed, s3_isDressed_0, s3_isDressed_1, s3_isDressed_4, s3_isDressed_5, s3_isDressed_6, s3_isDressed_7, s3_isDressed_8, s3_isDressed_9, s3_isDressed_12, s3_isDressed_13, s3_isDressed_16, s3_isDressed_17, am_k1_int, am_k1_ref, am_k1_none, am_cats_nil, am_cats_int, am_cats_ref, am_cats_long, Option.toList_some, Option.toList_none, List.singleton_append, List.nil_append, List.cons_append, true_and, and_true, if_true, if_false, va_rf, ↓reduceIte, Nat.reduceAdd, Nat.reduceMul, Nat.reduceSub, Nat.reduceLT, Nat.reduceLeDiff, Nat.reduceEqDiff, Nat.zero_le, Nat.add_zero, Nat.le_refl, nI_add, mul_nI, lt_nI, le_nI, eq_nI, bnd_nI, ci_nI, decide_eq_true_eq, decide_true, decide_false, Bool.true_or, Bool.or_true, Bool.or_false, Bool.false_or, not_true_eq_false, not_false_eq_true, Bool.false_eq_true, false_and, and_false, and_self, h1, ret_0, ret_1, ite_bi]
  rfl
theorem c3_heldOf {e : Nat} (hk : am_isSt k = true) (hc : c < 6) (he : e < 4) : am_call (d + 1) m3_heldOf [.ref k, .int (nI c), .int (nI e)] (am_sh n, I, J, am_Rf sw) Q ↔ Q (some (.int (I (k + 2) (c * 4 + e)))) (am_sh n, I, J, am_Rf sw) := by
  obtain ⟨h1, h2, h3, h4, h5, h6, h7, h8, -⟩ := st_all hk n sw
  have hce : c * 4 + e < 24 := by omega
  simp (disch := omega) only [e3_heldOf, s3_heldOf_0, s3_heldOf_1, s3_heldOf_4, s3_heldOf_5, s3_heldOf_6, s3_heldOf_7, s3_heldOf_8, s3_heldOf_9, s3_heldOf_10, am_k1_int, am_k1_ref, am_k1_none, am_cats_nil, am_cats_int, am_cats_ref, am_cats_long, Option.toList_some, Option.toList_none, List.singleton_append, List.nil_append, List.cons_append, true_and, and_true, if_true, if_false, va_rf, ↓reduceIte, Nat.reduceAdd, Nat.reduceMul, Nat.reduceSub, Nat.reduceLT, Nat.reduceLeDiff, Nat.reduceEqDiff, Nat.zero_le, Nat.add_zero, Nat.le_refl, nI_add, mul_nI, lt_nI, le_nI, eq_nI, bnd_nI, ci_nI, decide_eq_true_eq, decide_true, decide_false, Bool.true_or, Bool.or_true, Bool.or_false, Bool.false_or, not_true_eq_false, not_false_eq_true, Bool.false_eq_true, false_and, and_false, and_self, h1, h2, h3, h5, hce]
set_option maxRecDepth 100000 in
theorem c3_heldBy (hk : am_isSt k = true) (hc : c < 6) : am_call (d + 2) m3_heldBy [.ref k, .int (nI c)] (am_sh n, I, J, am_Rf sw) Q ↔ Q (some (.int (am_yds (I (k + 2)) c))) (am_sh n, I, J, am_Rf sw) := by
  obtain ⟨h1, -⟩ := st_all hk n sw
  simp (disch := omega) only [e3_heldBy, s3_heldBy_0, s3_heldBy_1, s3_heldBy_2, s3_heldBy_3, s3_heldBy_4, s3_heldBy_5, s3_heldBy_6, s3_heldBy_9, s3_heldBy_10, s3_heldBy_11, s3_heldBy_12, s3_heldBy_13, s3_heldBy_16, s3_heldBy_17, s3_heldBy_18, s3_heldBy_21, s3_heldBy_24, s3_heldBy_25, am_k1_int, am_k1_ref, am_k1_none, am_cats_nil, am_cats_int, am_cats_ref, am_cats_long, Option.toList_some, Option.toList_none, List.singleton_append, List.nil_append, List.cons_append, true_and, and_true, if_true, if_false, va_rf, ↓reduceIte, Nat.reduceAdd, Nat.reduceMul, Nat.reduceSub, Nat.reduceLT, Nat.reduceLeDiff, Nat.reduceEqDiff, Nat.zero_le, Nat.add_zero, Nat.le_refl, nI_add, mul_nI, lt_nI, le_nI, eq_nI, bnd_nI, ci_nI, decide_eq_true_eq, decide_true, decide_false, Bool.true_or, Bool.or_true, Bool.or_false, Bool.false_or, not_true_eq_false, not_false_eq_true, Bool.false_eq_true, false_and, and_false, and_self, h1, c3_heldOf hk hc]
  rfl
theorem cJ9_max0 {M : am_Mem} : am_call (d + 1) mJ9_max [.int (nI 0 - nI 1), .int (nI 0)] M Q ↔ Q (some (.int (nI 0))) M := by
  have h : nI 0 - nI 1 < nI 0 := by decide
  simp (disch := omega) only [eJ9_max, sJ9_max_0, sJ9_max_1, sJ9_max_2, sJ9_max_5, sJ9_max_6, sJ9_max_9, sJ9_max_10, am_k1_int, am_k1_ref, am_k1_none, am_cats_nil, am_cats_int, am_cats_ref, am_cats_long, Option.toList_some, Option.toList_none, List.singleton_append, List.nil_append, List.cons_append, true_and, and_true, if_true, if_false, va_rf, ↓reduceIte, Nat.reduceAdd, Nat.reduceMul, Nat.reduceSub, Nat.reduceLT, Nat.reduceLeDiff, Nat.reduceEqDiff, Nat.zero_le, Nat.add_zero, Nat.le_refl, nI_add, mul_nI, lt_nI, le_nI, eq_nI, bnd_nI, ci_nI, decide_eq_true_eq, decide_true, decide_false, Bool.true_or, Bool.or_true, Bool.or_false, Bool.false_or, not_true_eq_false, not_false_eq_true, Bool.false_eq_true, false_and, and_false, and_self, h]
set_option maxRecDepth 100000 in
set_option maxHeartbeats 4000000 in
theorem c3_patchesOf (hk : am_isSt k = true) (hc : c < 6) : am_call (d + 2) m3_patchesOf [.ref k, .int (nI c)] (am_sh n, I, J, am_Rf sw) Q ↔ Q (some (.int (nI (am_pat (I (k + 2)) c)))) (am_sh n, I, J, am_Rf sw) := by
  obtain ⟨h1, -⟩ := st_all hk n sw
  by_cases g0 : I (k + 2) (c * 4) ≤ nI 0 <;> by_cases g1 : I (k + 2) (c * 4 + 1) ≤ nI 0 <;> by_cases g2 : I (k + 2) (c * 4 + 2) ≤ nI 0 <;> by_cases g3 : I (k + 2) (c * 4 + 3) ≤ nI 0 <;> simp (disch := omega) only [e3_patchesOf, s3_patchesOf_0, s3_patchesOf_1, s3_patchesOf_2, s3_patchesOf_3, s3_patchesOf_4, s3_patchesOf_5, s3_patchesOf_6, s3_patchesOf_9, s3_patchesOf_10, s3_patchesOf_11, s3_patchesOf_12, s3_patchesOf_15, s3_patchesOf_18, s3_patchesOf_21, s3_patchesOf_24, s3_patchesOf_27, s3_patchesOf_28, s3_patchesOf_29, s3_patchesOf_30, s3_patchesOf_31, s3_patchesOf_34, am_k1_int, am_k1_ref, am_k1_none, am_cats_nil, am_cats_int, am_cats_ref, am_cats_long, Option.toList_some, Option.toList_none, List.singleton_append, List.nil_append, List.cons_append, true_and, and_true, if_true, if_false, va_rf, ↓reduceIte, Nat.reduceAdd, Nat.reduceMul, Nat.reduceSub, Nat.reduceLT, Nat.reduceLeDiff, Nat.reduceEqDiff, Nat.zero_le, Nat.add_zero, Nat.le_refl, nI_add, mul_nI, lt_nI, le_nI, eq_nI, bnd_nI, ci_nI, decide_eq_true_eq, decide_true, decide_false, Bool.true_or, Bool.or_true, Bool.or_false, Bool.false_or, not_true_eq_false, not_false_eq_true, Bool.false_eq_true, false_and, and_false, and_self, h1, c3_heldOf hk hc, g0, g1, g2, g3, sub_nI, cJ9_max, cJ9_max0, am_pat, am_pos] <;> rfl
theorem c3_cut {x : Int32} {w : Nat} (hk : am_isSt k = true) (hc : c < 6) (hw : w < 4) (hI : I k 0 = nI w) : am_call (d + 1) m3_cut [.ref k, .int (nI c), .int x] (am_sh n, I, J, am_Rf sw) Q ↔ Q none (am_sh n, am_up (am_up (am_up I (k + 2) (c * 4 + w) (I (k + 2) (c * 4 + w) + x)) (k + 1) w (I (k + 1) w - x)) k 1 (I k 1 + x), J, am_Rf sw) := by
  obtain ⟨h1, h2, h3, h4, h5, h6, h7, h8, -⟩ := st_all hk n sw
  have hce : c * 4 + w < 24 := by omega
  have z1 : 0 < k + 1 := by omega
  have z2 : 0 < k + 2 := by omega
  simp (disch := omega) only [e3_cut, s3_cut_0, s3_cut_1, s3_cut_4, s3_cut_5, s3_cut_6, s3_cut_7, s3_cut_8, s3_cut_11, s3_cut_12, s3_cut_13, s3_cut_14, s3_cut_15, s3_cut_16, s3_cut_17, s3_cut_18, s3_cut_21, s3_cut_22, s3_cut_25, s3_cut_26, s3_cut_27, s3_cut_28, s3_cut_29, s3_cut_30, s3_cut_31, s3_cut_32, s3_cut_35, s3_cut_36, s3_cut_37, s3_cut_40, am_k1_int, am_k1_ref, am_k1_none, am_cats_nil, am_cats_int, am_cats_ref, am_cats_long, Option.toList_some, Option.toList_none, List.singleton_append, List.nil_append, List.cons_append, true_and, and_true, if_true, if_false, va_rf, ↓reduceIte, Nat.reduceAdd, Nat.reduceMul, Nat.reduceSub, Nat.reduceLT, Nat.reduceLeDiff, Nat.reduceEqDiff, Nat.zero_le, Nat.add_zero, Nat.le_refl, nI_add, mul_nI, lt_nI, le_nI, eq_nI, bnd_nI, ci_nI, decide_eq_true_eq, decide_true, decide_false, Bool.true_or, Bool.or_true, Bool.or_false, Bool.false_or, not_true_eq_false, not_false_eq_true, Bool.false_eq_true, false_and, and_false, and_self, h1, h2, h3, h4, h5, h6, h7, h8, hce, hI, hw, z1, z2, up_s, up_n, Value.category]
theorem c3_sew {x : Int32} (hk : am_isSt k = true) : am_call (d + 1) m3_sew [.ref k, .int (nI c), .int x] (am_sh n, I, J, am_Rf sw) Q ↔ Q none (am_sh n, am_up (am_up I k 2 (I k 2 ||| nI 1 <<< (nI c &&& 31))) k 1 (I k 1 + x), J, am_Rf sw) := by
  obtain ⟨h1, h2, h3, h4, h5, h6, h7, h8, -⟩ := st_all hk n sw
  simp (disch := omega) only [e3_sew, s3_sew_0, s3_sew_1, s3_sew_2, s3_sew_5, s3_sew_6, s3_sew_7, s3_sew_8, s3_sew_9, s3_sew_12, s3_sew_13, s3_sew_14, s3_sew_17, s3_sew_18, s3_sew_19, s3_sew_22, am_k1_int, am_k1_ref, am_k1_none, am_cats_nil, am_cats_int, am_cats_ref, am_cats_long, Option.toList_some, Option.toList_none, List.singleton_append, List.nil_append, List.cons_append, true_and, and_true, if_true, if_false, va_rf, ↓reduceIte, Nat.reduceAdd, Nat.reduceMul, Nat.reduceSub, Nat.reduceLT, Nat.reduceLeDiff, Nat.reduceEqDiff, Nat.zero_le, Nat.add_zero, Nat.le_refl, nI_add, mul_nI, lt_nI, le_nI, eq_nI, bnd_nI, ci_nI, decide_eq_true_eq, decide_true, decide_false, Bool.true_or, Bool.or_true, Bool.or_false, Bool.false_or, not_true_eq_false, not_false_eq_true, Bool.false_eq_true, false_and, and_false, and_self, h1, h2, h3, h8, up_s, up_n, Value.category]
set_option maxRecDepth 100000 in
theorem c3_loseAll (hk : am_isSt k = true) (hc : c < 6) : am_call (d + 1) m3_loseAll [.ref k, .int (nI c)] (am_sh n, I, J, am_Rf sw) Q ↔ Q none (am_sh n, am_row I (k + 2) (am_lose (I (k + 2)) c), J, am_Rf sw) := by
  obtain ⟨h1, h2, h3, h4, h5, h6, h7, h8, -⟩ := st_all hk n sw
  have z2 : 0 < k + 2 := by omega
  have e0 : c * 4 < 24 := by omega
  have e1 : c * 4 + 1 < 24 := by omega
  have e2 : c * 4 + 2 < 24 := by omega
  have e3 : c * 4 + 3 < 24 := by omega
  simp (disch := omega) only [e3_loseAll, s3_loseAll_0, s3_loseAll_1, s3_loseAll_2, s3_loseAll_3, s3_loseAll_4, s3_loseAll_7, s3_loseAll_8, s3_loseAll_11, s3_loseAll_12, s3_loseAll_13, s3_loseAll_14, s3_loseAll_15, s3_loseAll_16, s3_loseAll_17, s3_loseAll_18, s3_loseAll_21, s3_loseAll_24, am_k1_int, am_k1_ref, am_k1_none, am_cats_nil, am_cats_int, am_cats_ref, am_cats_long, Option.toList_some, Option.toList_none, List.singleton_append, List.nil_append, List.cons_append, true_and, and_true, if_true, if_false, va_rf, ↓reduceIte, Nat.reduceAdd, Nat.reduceMul, Nat.reduceSub, Nat.reduceLT, Nat.reduceLeDiff, Nat.reduceEqDiff, Nat.zero_le, Nat.add_zero, Nat.le_refl, nI_add, mul_nI, lt_nI, le_nI, eq_nI, bnd_nI, ci_nI, decide_eq_true_eq, decide_true, decide_false, Bool.true_or, Bool.or_true, Bool.or_false, Bool.false_or, not_true_eq_false, not_false_eq_true, Bool.false_eq_true, false_and, and_false, and_self, h1, h2, h3, h7, h8, z2, e0, e1, e2, e3]
  have e : am_up (am_up (am_up (am_up I (k + 2) (c * 4) (nI 0)) (k + 2) (c * 4 + 1) (nI 0)) (k + 2) (c * 4 + 2) (nI 0)) (k + 2) (c * 4 + 3) (nI 0) = am_row I (k + 2) (am_lose (I (k + 2)) c) := by
    funext a b
    unfold am_row am_lose am_up
    by_cases ha : a = k + 2
    · subst ha
      by_cases hb : c * 4 ≤ b ∧ b < c * 4 + 4
      · rcases (show b = c * 4 ∨ b = c * 4 + 1 ∨ b = c * 4 + 2 ∨ b = c * 4 + 3 by omega) with h | h | h | h <;> simp [h]
      · simp [hb, show ¬ b = c * 4 by omega, show ¬ b = c * 4 + 1 by omega, show ¬ b = c * 4 + 2 by omega, show ¬ b = c * 4 + 3 by omega]
    · simp [ha]
  rw [e]
/-- one standing becomes another -/
def am_bec (I : Nat → Nat → Int32) (k o : Nat) : Nat → Nat → Int32 := fun a j => if a = k then (if j < 3 then I o j else I k j) else if a = k + 1 then (if j < 4 then I (o + 1) j else I (k + 1) j) else if a = k + 2 then (if j < 24 then I (o + 2) j else I (k + 2) j) else I a j
theorem st_apart {k o : Nat} (hk : am_isSt k = true) (ho : am_isSt o = true) (h : k ≠ o) : k + 2 < o ∨ o + 2 < k := by
  have h1 := st_cases hk
  have h2 := st_cases ho
  omega
set_option maxRecDepth 100000 in
theorem c3_become {o : Nat} (hk : am_isSt k = true) (ho : am_isSt o = true) (hko : k ≠ o) : am_call (d + 1) m3_become [.ref k, .ref o] (am_sh n, I, J, am_Rf sw) Q ↔ Q none (am_sh n, am_bec I k o, J, am_Rf sw) := by
  obtain ⟨h1, h2, h3, h4, h5, h6, h7, h8, h9, h10, h11, h12⟩ := st_all hk n sw
  obtain ⟨k1, k2, k3, k4, k5, k6, k7, k8, k9, k10, k11, k12⟩ := st_all ho n sw
  have hap := st_apart hk ho hko
  have z1 : 0 < k + 1 := by omega
  have z2 : 0 < k + 2 := by omega
  have p0 : ¬ nI 0 < 0 := by decide
  have p4 : ¬ nI 4 < 0 := by decide
  have p24 : ¬ nI 24 < 0 := by decide
  simp (disch := omega) only [e3_become, s3_become_0, s3_become_1, s3_become_2, s3_become_5, s3_become_8, s3_become_9, s3_become_10, s3_become_13, s3_become_16, s3_become_17, s3_become_18, s3_become_21, s3_become_24, s3_become_25, s3_become_28, s3_become_29, s3_become_30, s3_become_33, s3_become_34, s3_become_35, s3_become_38, s3_become_39, s3_become_42, s3_become_43, s3_become_44, s3_become_47, s3_become_48, s3_become_50, s3_become_53, am_k1_int, am_k1_ref, am_k1_none, am_cats_nil, am_cats_int, am_cats_ref, am_cats_long, Option.toList_some, Option.toList_none, List.singleton_append, List.nil_append, List.cons_append, true_and, and_true, if_true, if_false, va_rf, ↓reduceIte, Nat.reduceAdd, Nat.reduceMul, Nat.reduceSub, Nat.reduceLT, Nat.reduceLeDiff, Nat.reduceEqDiff, Nat.zero_le, Nat.add_zero, Nat.le_refl, nI_add, mul_nI, lt_nI, le_nI, eq_nI, bnd_nI, ci_nI, decide_eq_true_eq, decide_true, decide_false, Bool.true_or, Bool.or_true, Bool.or_false, Bool.false_or, not_true_eq_false, not_false_eq_true, Bool.false_eq_true, false_and, and_false, and_self, h1, h2, h3, h8, h9, h10, h11, h12, k1, k2, k3, k9, k10, k11, k12, z1, z2, up_s, up_n, am_cpok, p0, p4, p24, Nat.zero_add]
  have e : ∀ X Y, X = am_bec I k o → (Q none (am_sh n, X, J, am_Rf sw) ↔ Y) → (Q none (am_sh n, am_bec I k o, J, am_Rf sw) ↔ Y) := fun X Y h g => h ▸ g
  refine (iff_of_eq (congrArg (fun X => Q none (am_sh n, X, J, am_Rf sw)) ?_))
  funext a b
  unfold am_bec am_row va_cpy am_up
  by_cases a0 : a = k
  · subst a0
    by_cases b3 : b < 3
    · rcases (show b = 0 ∨ b = 1 ∨ b = 2 by omega) with rfl | rfl | rfl <;> simp
    · simp [b3, show ¬ b = 0 by omega, show ¬ b = 1 by omega, show ¬ b = 2 by omega]
  · by_cases a1 : a = k + 1
    · subst a1
      by_cases b4 : b < 4
      · simp [b4, show ¬ o + 1 = k by omega]
      · simp [b4]
    · by_cases a2 : a = k + 2
      · subst a2
        by_cases b4 : b < 24
        · simp [b4, show ¬ o + 2 = k by omega, show ¬ o + 2 = k + 1 by omega]
        · simp [b4]
      · simp [a0, a1, a2]
end
