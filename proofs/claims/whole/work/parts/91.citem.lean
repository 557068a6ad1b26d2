/-! the class reads an item -/
def ar_Tc (T : Nat) (tn : Nat → Nat) (I : Nat → Nat → Int32) : Prop := I T 0 = nI (tn 0) ∧ I T 4 = nI (tn 1) ∧ I T 9 = nI (tn 2) ∧ I T 10 = nI (tn 3) ∧ I T 11 = nI (tn 5 % 2) ∧ I T 12 = nI (tn 5 / 2 % 2) ∧ (∀ e, e < tn 0 → I (T + 1) e = nI (tn (6 + e)) ∧ I (T + 2) e = nI (tn (10 + e)) ∧ I (T + 3) e = nI (tn (14 + e))) ∧ (∀ c, c < tn 1 → I (T + 4) c = nI (tn (18 + c)) ∧ I (T + 5) c = nI (tn (24 + c)) ∧ I (T + 6) c = nI (tn (30 + c)) ∧ I (T + 7) c = nI (tn (36 + c)))
def ar_ip (T ln : Nat) (I I' : Nat → Nat → Int32) (r : Bool × Nat × Nat × (Nat → Nat)) : Prop := (∀ a, a ≠ 2 → (a < T ∨ T + 7 < a) → I' a = I a) ∧ I' 2 1 = nI ln ∧ (r.1 = false → I' 2 3 = nI r.2.1) ∧ (r.1 = true → I' 2 2 = nI r.2.2.1 ∧ ar_Tc T r.2.2.2 I')
theorem uf_s (f : Nat → Nat) (k v : Nat) : am_uf f k v k = v := if_pos rfl
theorem uf_n {f : Nat → Nat} {k v j : Nat} (h : j ≠ k) : am_uf f k v j = f j := if_neg h
theorem rf_T {T : Nat} (hT : T = 4 ∨ T = 12) (sw : Bool) (n : Nat) : (am_Rf sw T 1 = some (T + 1) ∧ am_Rf sw T 2 = some (T + 2) ∧ am_Rf sw T 3 = some (T + 3) ∧ am_Rf sw T 5 = some (T + 4) ∧ am_Rf sw T 6 = some (T + 5) ∧ am_Rf sw T 7 = some (T + 6) ∧ am_Rf sw T 8 = some (T + 7)) ∧ ((∀ j, am_inb (am_sh n) (T + 1) 8 j = am_bnd j 4) ∧ (∀ j, am_inb (am_sh n) (T + 2) 8 j = am_bnd j 4) ∧ (∀ j, am_inb (am_sh n) (T + 3) 8 j = am_bnd j 4)) ∧ ((∀ j, am_inb (am_sh n) (T + 4) 8 j = am_bnd j 6) ∧ (∀ j, am_inb (am_sh n) (T + 5) 8 j = am_bnd j 6) ∧ (∀ j, am_inb (am_sh n) (T + 6) 8 j = am_bnd j 6) ∧ (∀ j, am_inb (am_sh n) (T + 7) 8 j = am_bnd j 6)) := by
  rcases hT with rfl | rfl <;> exact ⟨⟨rfl, rfl, rfl, rfl, rfl, rfl, rfl⟩, ⟨fun j => rfl, fun j => rfl, fun j => rfl⟩, ⟨fun j => rfl, fun j => rfl, fun j => rfl, fun j => rfl⟩⟩
section
variable {tx : Nat → Nat} {ln v p st : Nat} {tn : Nat → Nat}
theorem im_full (h : am_fu v tn = true) : am_im tx ln v p st tn = (false, st, p, tn) := if_pos h
theorem im_f {s : Nat} {r : Nat × (Nat → Nat)} (h : am_fu v tn = false) (h2 : am_ns tx ln (am_ls v tn) p st tn = (false, s, r)) : am_im tx ln v p st tn = (false, s, p, tn) := by
  unfold am_im
  rw [h, h2, if_neg (by decide), if_neg Bool.false_ne_true]
theorem im_t {s p' : Nat} {tn' : Nat → Nat} (h : am_fu v tn = false) (h2 : am_ns tx ln (am_ls v tn) p st tn = (true, s, p', tn')) (h3 : am_kk tx ln p' = 3) : am_im tx ln v p st tn = (true, am_sp tx ln p', am_pn tx ln p', am_uf (am_fin2 v tn') 4 (tn 4 + 1)) := by
  unfold am_im
  rw [h, h2, if_neg (by decide), if_pos rfl, if_pos h3]
theorem im_e {s p' : Nat} {tn' : Nat → Nat} (h : am_fu v tn = false) (h2 : am_ns tx ln (am_ls v tn) p st tn = (true, s, p', tn')) (h3 : ¬ am_kk tx ln p' = 3) : am_im tx ln v p st tn = (false, am_sp tx ln p', p, tn) := by
  unfold am_im
  rw [h, h2, if_neg (by decide), if_pos rfl, if_neg h3]
end
section
variable {n d T : Nat} {J : Nat → Nat → Int64} {sw : Bool} {Q : am_Post} {tx : Nat → Nat} {ln p st : Nat} {tn : Nat → Nat} {I : Nat → Nat → Int32}
theorem L_up {a j : Nat} {v : Int32} {I1 : Nat → Nat → Int32} (hL : ar_L tx ln I) (h1 : ∀ a, a ≠ 2 → I1 a = I a) (h2 : I1 2 1 = nI ln) (ha : a ≠ 2) (ha3 : a ≠ 3) : ar_L tx ln (am_up I1 a j v) := ⟨hL.1, by rw [am_up_ne (by omega)]; exact h2, hL.2.2.1, fun i hi => by rw [am_up_ne (by omega), h1 3 (by omega)]; exact hL.2.2.2 i hi⟩
theorem up_at {α : Type} {f : Nat → Nat → α} {a k j : Nat} {v : α} : am_up f a k v a j = if j = k then v else f a j := by
  by_cases h : j = k
  · rw [if_pos h, h, up_s]
  · rw [if_neg h, up_n (Or.inr h)]
set_option maxHeartbeats 4000000 in
theorem c5_readDawn (hT : T = 4 ∨ T = 12) (h04 : tn 0 ≤ 4) (hL : ar_L tx ln I) (hp : p ≤ ln) (h2 : I 2 2 = nI p) (h3 : I 2 3 = nI st) (hTc : ar_Tc T tn I) (hq : ∀ I', ar_ip T ln I I' (am_im tx ln 100 p st tn) → Q (some (.int (am_bi (am_im tx ln 100 p st tn).1))) (am_sh n, I', J, am_Rf sw)) : am_call (d + 4) m5_readDawn [.ref T, .ref 2] (am_sh n, I, J, am_Rf sw) Q := by
  obtain ⟨⟨r1, r2, r3, -⟩, ⟨b1, b2, b3⟩, -⟩ := rf_T hT sw n
  have hoT := ob_T hT n
  obtain ⟨k, hk⟩ : ∃ k, k = tn 0 := ⟨_, rfl⟩
  have hT0 : I T 0 = nI k := by rw [hk]; exact hTc.1
  have zT : 0 < T := by omega
  have zT1 : 0 < T + 1 := by omega
  have zT2 : 0 < T + 2 := by omega
  have zT3 : 0 < T + 3 := by omega
  have els : am_ls 100 tn = [(6 + k, 1, 40), (10 + k, 0, 2), (14 + k, 1, 60)] := by rw [hk]; rfl
  have efu : am_fu 100 tn = decide (k = 4) := by rw [hk]; rfl
  by_cases hk4 : k = 4
  · have hge : 4 ≤ k := by omega
    have eim := im_full (tx := tx) (ln := ln) (p := p) (st := st) (v := 100) (tn := tn) (by rw [efu]; simpa using hk4)
    rw [eim] at hq
    have hfin := hq I ⟨fun _ _ _ => rfl, hL.2.1, fun _ => h3, fun h => Bool.noConfusion h⟩
    simp (disch := omega) only [e5_readDawn, s5_readDawn_0, s5_readDawn_1, s5_readDawn_4, s5_readDawn_5, s5_readDawn_6, s5_readDawn_7, s5_readDawn_10, s5_readDawn_11, s5_readDawn_12, s5_readDawn_14, s5_readDawn_17, s5_readDawn_20, s5_readDawn_21, s5_readDawn_22, s5_readDawn_23, s5_readDawn_26, s5_readDawn_27, s5_readDawn_28, s5_readDawn_31, s5_readDawn_32, s5_readDawn_33, s5_readDawn_34, s5_readDawn_35, s5_readDawn_38, s5_readDawn_41, s5_readDawn_42, s5_readDawn_43, s5_readDawn_44, s5_readDawn_47, s5_readDawn_48, s5_readDawn_49, s5_readDawn_52, s5_readDawn_53, s5_readDawn_54, s5_readDawn_55, s5_readDawn_57, s5_readDawn_60, s5_readDawn_63, s5_readDawn_64, s5_readDawn_65, s5_readDawn_66, s5_readDawn_69, s5_readDawn_70, s5_readDawn_71, s5_readDawn_74, s5_readDawn_75, s5_readDawn_76, s5_readDawn_77, s5_readDawn_80, s5_readDawn_81, s5_readDawn_82, s5_readDawn_85, s5_readDawn_86, s5_readDawn_89, am_k1_int, am_k1_ref, am_k1_none, am_cats_nil, am_cats_int, am_cats_ref, am_cats_long, Option.toList_some, Option.toList_none, List.singleton_append, List.nil_append, List.cons_append, true_and, and_true, if_true, if_false, va_rf, ↓reduceIte, Nat.reduceAdd, Nat.reduceMul, Nat.reduceSub, Nat.reduceLT, Nat.reduceLeDiff, Nat.reduceEqDiff, Nat.zero_le, Nat.add_zero, Nat.le_refl, nI_add, mul_nI, lt_nI, le_nI, eq_nI, bnd_nI, ci_nI, decide_eq_true_eq, decide_true, decide_false, Bool.true_or, Bool.or_true, Bool.or_false, Bool.false_or, not_true_eq_false, not_false_eq_true, Bool.false_eq_true, Bool.false_and, Bool.true_and, Bool.and_true, Bool.and_false, Bool.not_true, Bool.not_false, false_and, and_false, and_self, hoT, hT0, hge, ret_0]
    exact hfin
  have hge : ¬ 4 ≤ k := by omega
  have hk3 : k < 4 := by omega
  have efu2 : am_fu 100 tn = false := by rw [efu]; simpa using hk4
  have hp1 := pn_le (tx := tx) hp
  have hp2 := pn_le (tx := tx) hp1.1
  have hp3 := pn_le (tx := tx) hp2.1
  simp (disch := omega) only [e5_readDawn, s5_readDawn_0, s5_readDawn_1, s5_readDawn_4, s5_readDawn_5, s5_readDawn_6, s5_readDawn_7, s5_readDawn_10, s5_readDawn_11, s5_readDawn_12, s5_readDawn_14, s5_readDawn_17, s5_readDawn_20, s5_readDawn_21, s5_readDawn_22, s5_readDawn_23, s5_readDawn_26, s5_readDawn_27, s5_readDawn_28, s5_readDawn_31, s5_readDawn_32, s5_readDawn_33, s5_readDawn_34, s5_readDawn_35, s5_readDawn_38, s5_readDawn_41, s5_readDawn_42, s5_readDawn_43, s5_readDawn_44, s5_readDawn_47, s5_readDawn_48, s5_readDawn_49, s5_readDawn_52, s5_readDawn_53, s5_readDawn_54, s5_readDawn_55, s5_readDawn_57, s5_readDawn_60, s5_readDawn_63, s5_readDawn_64, s5_readDawn_65, s5_readDawn_66, s5_readDawn_69, s5_readDawn_70, s5_readDawn_71, s5_readDawn_74, s5_readDawn_75, s5_readDawn_76, s5_readDawn_77, s5_readDawn_80, s5_readDawn_81, s5_readDawn_82, s5_readDawn_85, s5_readDawn_86, s5_readDawn_89, am_k1_int, am_k1_ref, am_k1_none, am_cats_nil, am_cats_int, am_cats_ref, am_cats_long, Option.toList_some, Option.toList_none, List.singleton_append, List.nil_append, List.cons_append, true_and, and_true, if_true, if_false, va_rf, ↓reduceIte, Nat.reduceAdd, Nat.reduceMul, Nat.reduceSub, Nat.reduceLT, Nat.reduceLeDiff, Nat.reduceEqDiff, Nat.zero_le, Nat.add_zero, Nat.le_refl, nI_add, mul_nI, lt_nI, le_nI, eq_nI, bnd_nI, ci_nI, decide_eq_true_eq, decide_true, decide_false, Bool.true_or, Bool.or_true, Bool.or_false, Bool.false_or, not_true_eq_false, not_false_eq_true, Bool.false_eq_true, Bool.false_and, Bool.true_and, Bool.and_true, Bool.and_false, Bool.not_true, Bool.not_false, false_and, and_false, and_self, hoT, hT0, hge]
  refine c5_readNumber hL hp h2 (by omega) (by omega) (fun I1 f1 f2 f3 f4 f5 => ?_)
  cases n1 : am_nb tx ln p 1 40 with
  | false =>
    have eim := im_f (st := st) (tn := tn) efu2 (by rw [els]; exact ns_f n1)
    rw [eim] at hq
    have hfin := hq I1 ⟨fun a h _ => f1 a h, f2, fun _ => f4, fun h => Bool.noConfusion h⟩
    simp (disch := omega) only [s5_readDawn_0, s5_readDawn_1, s5_readDawn_4, s5_readDawn_5, s5_readDawn_6, s5_readDawn_7, s5_readDawn_10, s5_readDawn_11, s5_readDawn_12, s5_readDawn_14, s5_readDawn_17, s5_readDawn_20, s5_readDawn_21, s5_readDawn_22, s5_readDawn_23, s5_readDawn_26, s5_readDawn_27, s5_readDawn_28, s5_readDawn_31, s5_readDawn_32, s5_readDawn_33, s5_readDawn_34, s5_readDawn_35, s5_readDawn_38, s5_readDawn_41, s5_readDawn_42, s5_readDawn_43, s5_readDawn_44, s5_readDawn_47, s5_readDawn_48, s5_readDawn_49, s5_readDawn_52, s5_readDawn_53, s5_readDawn_54, s5_readDawn_55, s5_readDawn_57, s5_readDawn_60, s5_readDawn_63, s5_readDawn_64, s5_readDawn_65, s5_readDawn_66, s5_readDawn_69, s5_readDawn_70, s5_readDawn_71, s5_readDawn_74, s5_readDawn_75, s5_readDawn_76, s5_readDawn_77, s5_readDawn_80, s5_readDawn_81, s5_readDawn_82, s5_readDawn_85, s5_readDawn_86, s5_readDawn_89, am_k1_int, am_k1_ref, am_k1_none, am_cats_nil, am_cats_int, am_cats_ref, am_cats_long, Option.toList_some, Option.toList_none, List.singleton_append, List.nil_append, List.cons_append, true_and, and_true, if_true, if_false, va_rf, ↓reduceIte, Nat.reduceAdd, Nat.reduceMul, Nat.reduceSub, Nat.reduceLT, Nat.reduceLeDiff, Nat.reduceEqDiff, Nat.zero_le, Nat.add_zero, Nat.le_refl, nI_add, mul_nI, lt_nI, le_nI, eq_nI, bnd_nI, ci_nI, decide_eq_true_eq, decide_true, decide_false, Bool.true_or, Bool.or_true, Bool.or_false, Bool.false_or, not_true_eq_false, not_false_eq_true, Bool.false_eq_true, Bool.false_and, Bool.true_and, Bool.and_true, Bool.and_false, Bool.not_true, Bool.not_false, false_and, and_false, and_self, bi_f, ite_bi2, ret_0]
    exact hfin
  | true =>
  have w1 := nb_v n1
  have g5 := f5 n1
  simp (disch := omega) only [s5_readDawn_0, s5_readDawn_1, s5_readDawn_4, s5_readDawn_5, s5_readDawn_6, s5_readDawn_7, s5_readDawn_10, s5_readDawn_11, s5_readDawn_12, s5_readDawn_14, s5_readDawn_17, s5_readDawn_20, s5_readDawn_21, s5_readDawn_22, s5_readDawn_23, s5_readDawn_26, s5_readDawn_27, s5_readDawn_28, s5_readDawn_31, s5_readDawn_32, s5_readDawn_33, s5_readDawn_34, s5_readDawn_35, s5_readDawn_38, s5_readDawn_41, s5_readDawn_42, s5_readDawn_43, s5_readDawn_44, s5_readDawn_47, s5_readDawn_48, s5_readDawn_49, s5_readDawn_52, s5_readDawn_53, s5_readDawn_54, s5_readDawn_55, s5_readDawn_57, s5_readDawn_60, s5_readDawn_63, s5_readDawn_64, s5_readDawn_65, s5_readDawn_66, s5_readDawn_69, s5_readDawn_70, s5_readDawn_71, s5_readDawn_74, s5_readDawn_75, s5_readDawn_76, s5_readDawn_77, s5_readDawn_80, s5_readDawn_81, s5_readDawn_82, s5_readDawn_85, s5_readDawn_86, s5_readDawn_89, am_k1_int, am_k1_ref, am_k1_none, am_cats_nil, am_cats_int, am_cats_ref, am_cats_long, Option.toList_some, Option.toList_none, List.singleton_append, List.nil_append, List.cons_append, true_and, and_true, if_true, if_false, va_rf, ↓reduceIte, Nat.reduceAdd, Nat.reduceMul, Nat.reduceSub, Nat.reduceLT, Nat.reduceLeDiff, Nat.reduceEqDiff, Nat.zero_le, Nat.add_zero, Nat.le_refl, nI_add, mul_nI, lt_nI, le_nI, eq_nI, bnd_nI, ci_nI, decide_eq_true_eq, decide_true, decide_false, Bool.true_or, Bool.or_true, Bool.or_false, Bool.false_or, not_true_eq_false, not_false_eq_true, Bool.false_eq_true, Bool.false_and, Bool.true_and, Bool.and_true, Bool.and_false, Bool.not_true, Bool.not_false, false_and, and_false, and_self, ob_2, rf_2_0, bi_t, ite_bi2, hoT, r1, b1, hk3, zT1, g5]
  refine c5_readNumber (L_up hL f1 f2 (by omega) (by omega)) hp1.1 (by rw [am_up_ne (by omega)]; exact f3) (by omega) (by omega) (fun I2 k1 k2 k3 k4 k5 => ?_)
  have e2 : ∀ a, a ≠ 2 → I2 a = am_up I (T + 1) k (nI (am_vv tx ln p)) a := by
    intro a ha
    rw [k1 a ha]
    funext j
    show (if a = T + 1 ∧ j = k then _ else I1 a j) = (if a = T + 1 ∧ j = k then _ else I a j)
    rw [f1 a ha]
  cases n2 : am_nb tx ln (am_pn tx ln p) 0 2 with
  | false =>
    have eim := im_f (st := st) (tn := tn) efu2 (by rw [els, ns_t n1]; exact ns_f n2)
    rw [eim] at hq
    have hfin := hq I2 ⟨fun a h h' => by rw [e2 a h, am_up_ne (by omega)], k2, fun _ => k4, fun h => Bool.noConfusion h⟩
    simp (disch := omega) only [s5_readDawn_0, s5_readDawn_1, s5_readDawn_4, s5_readDawn_5, s5_readDawn_6, s5_readDawn_7, s5_readDawn_10, s5_readDawn_11, s5_readDawn_12, s5_readDawn_14, s5_readDawn_17, s5_readDawn_20, s5_readDawn_21, s5_readDawn_22, s5_readDawn_23, s5_readDawn_26, s5_readDawn_27, s5_readDawn_28, s5_readDawn_31, s5_readDawn_32, s5_readDawn_33, s5_readDawn_34, s5_readDawn_35, s5_readDawn_38, s5_readDawn_41, s5_readDawn_42, s5_readDawn_43, s5_readDawn_44, s5_readDawn_47, s5_readDawn_48, s5_readDawn_49, s5_readDawn_52, s5_readDawn_53, s5_readDawn_54, s5_readDawn_55, s5_readDawn_57, s5_readDawn_60, s5_readDawn_63, s5_readDawn_64, s5_readDawn_65, s5_readDawn_66, s5_readDawn_69, s5_readDawn_70, s5_readDawn_71, s5_readDawn_74, s5_readDawn_75, s5_readDawn_76, s5_readDawn_77, s5_readDawn_80, s5_readDawn_81, s5_readDawn_82, s5_readDawn_85, s5_readDawn_86, s5_readDawn_89, am_k1_int, am_k1_ref, am_k1_none, am_cats_nil, am_cats_int, am_cats_ref, am_cats_long, Option.toList_some, Option.toList_none, List.singleton_append, List.nil_append, List.cons_append, true_and, and_true, if_true, if_false, va_rf, ↓reduceIte, Nat.reduceAdd, Nat.reduceMul, Nat.reduceSub, Nat.reduceLT, Nat.reduceLeDiff, Nat.reduceEqDiff, Nat.zero_le, Nat.add_zero, Nat.le_refl, nI_add, mul_nI, lt_nI, le_nI, eq_nI, bnd_nI, ci_nI, decide_eq_true_eq, decide_true, decide_false, Bool.true_or, Bool.or_true, Bool.or_false, Bool.false_or, not_true_eq_false, not_false_eq_true, Bool.false_eq_true, Bool.false_and, Bool.true_and, Bool.and_true, Bool.and_false, Bool.not_true, Bool.not_false, false_and, and_false, and_self, bi_f, ite_bi2, ret_0]
    exact hfin
  | true =>
  have w2 := nb_v n2
  have g6 := k5 n2
  simp (disch := omega) only [s5_readDawn_0, s5_readDawn_1, s5_readDawn_4, s5_readDawn_5, s5_readDawn_6, s5_readDawn_7, s5_readDawn_10, s5_readDawn_11, s5_readDawn_12, s5_readDawn_14, s5_readDawn_17, s5_readDawn_20, s5_readDawn_21, s5_readDawn_22, s5_readDawn_23, s5_readDawn_26, s5_readDawn_27, s5_readDawn_28, s5_readDawn_31, s5_readDawn_32, s5_readDawn_33, s5_readDawn_34, s5_readDawn_35, s5_readDawn_38, s5_readDawn_41, s5_readDawn_42, s5_readDawn_43, s5_readDawn_44, s5_readDawn_47, s5_readDawn_48, s5_readDawn_49, s5_readDawn_52, s5_readDawn_53, s5_readDawn_54, s5_readDawn_55, s5_readDawn_57, s5_readDawn_60, s5_readDawn_63, s5_readDawn_64, s5_readDawn_65, s5_readDawn_66, s5_readDawn_69, s5_readDawn_70, s5_readDawn_71, s5_readDawn_74, s5_readDawn_75, s5_readDawn_76, s5_readDawn_77, s5_readDawn_80, s5_readDawn_81, s5_readDawn_82, s5_readDawn_85, s5_readDawn_86, s5_readDawn_89, am_k1_int, am_k1_ref, am_k1_none, am_cats_nil, am_cats_int, am_cats_ref, am_cats_long, Option.toList_some, Option.toList_none, List.singleton_append, List.nil_append, List.cons_append, true_and, and_true, if_true, if_false, va_rf, ↓reduceIte, Nat.reduceAdd, Nat.reduceMul, Nat.reduceSub, Nat.reduceLT, Nat.reduceLeDiff, Nat.reduceEqDiff, Nat.zero_le, Nat.add_zero, Nat.le_refl, nI_add, mul_nI, lt_nI, le_nI, eq_nI, bnd_nI, ci_nI, decide_eq_true_eq, decide_true, decide_false, Bool.true_or, Bool.or_true, Bool.or_false, Bool.false_or, not_true_eq_false, not_false_eq_true, Bool.false_eq_true, Bool.false_and, Bool.true_and, Bool.and_true, Bool.and_false, Bool.not_true, Bool.not_false, false_and, and_false, and_self, ob_2, rf_2_0, bi_t, ite_bi2, hoT, r2, b2, hk3, zT2, g6]
  refine c5_readNumber (L_up (L_up hL f1 f2 (a := T + 1) (j := k) (v := nI (am_vv tx ln p)) (by omega) (by omega)) k1 k2 (by omega) (by omega)) hp2.1 (by rw [am_up_ne (by omega)]; exact k3) (by omega) (by omega) (fun I3 q1 q2 q3 q4 q5 => ?_)
  have e3 : ∀ a, a ≠ 2 → I3 a = am_up (am_up I (T + 1) k (nI (am_vv tx ln p))) (T + 2) k (nI (am_vv tx ln (am_pn tx ln p))) a := by
    intro a ha
    rw [q1 a ha]
    funext j
    show (if a = T + 2 ∧ j = k then _ else I2 a j) = (if a = T + 2 ∧ j = k then _ else am_up I (T + 1) k _ a j)
    rw [e2 a ha]
  cases n3 : am_nb tx ln (am_pn tx ln (am_pn tx ln p)) 1 60 with
  | false =>
    have eim := im_f (st := st) (tn := tn) efu2 (by rw [els, ns_t n1, ns_t n2]; exact ns_f n3)
    rw [eim] at hq
    have hfin := hq I3 ⟨fun a h h' => by rw [e3 a h, am_up_ne (by omega), am_up_ne (by omega)], q2, fun _ => q4, fun h => Bool.noConfusion h⟩
    simp (disch := omega) only [s5_readDawn_0, s5_readDawn_1, s5_readDawn_4, s5_readDawn_5, s5_readDawn_6, s5_readDawn_7, s5_readDawn_10, s5_readDawn_11, s5_readDawn_12, s5_readDawn_14, s5_readDawn_17, s5_readDawn_20, s5_readDawn_21, s5_readDawn_22, s5_readDawn_23, s5_readDawn_26, s5_readDawn_27, s5_readDawn_28, s5_readDawn_31, s5_readDawn_32, s5_readDawn_33, s5_readDawn_34, s5_readDawn_35, s5_readDawn_38, s5_readDawn_41, s5_readDawn_42, s5_readDawn_43, s5_readDawn_44, s5_readDawn_47, s5_readDawn_48, s5_readDawn_49, s5_readDawn_52, s5_readDawn_53, s5_readDawn_54, s5_readDawn_55, s5_readDawn_57, s5_readDawn_60, s5_readDawn_63, s5_readDawn_64, s5_readDawn_65, s5_readDawn_66, s5_readDawn_69, s5_readDawn_70, s5_readDawn_71, s5_readDawn_74, s5_readDawn_75, s5_readDawn_76, s5_readDawn_77, s5_readDawn_80, s5_readDawn_81, s5_readDawn_82, s5_readDawn_85, s5_readDawn_86, s5_readDawn_89, am_k1_int, am_k1_ref, am_k1_none, am_cats_nil, am_cats_int, am_cats_ref, am_cats_long, Option.toList_some, Option.toList_none, List.singleton_append, List.nil_append, List.cons_append, true_and, and_true, if_true, if_false, va_rf, ↓reduceIte, Nat.reduceAdd, Nat.reduceMul, Nat.reduceSub, Nat.reduceLT, Nat.reduceLeDiff, Nat.reduceEqDiff, Nat.zero_le, Nat.add_zero, Nat.le_refl, nI_add, mul_nI, lt_nI, le_nI, eq_nI, bnd_nI, ci_nI, decide_eq_true_eq, decide_true, decide_false, Bool.true_or, Bool.or_true, Bool.or_false, Bool.false_or, not_true_eq_false, not_false_eq_true, Bool.false_eq_true, Bool.false_and, Bool.true_and, Bool.and_true, Bool.and_false, Bool.not_true, Bool.not_false, false_and, and_false, and_self, bi_f, ite_bi2, ret_0]
    exact hfin
  | true =>
  have w3 := nb_v n3
  have g7 := q5 n3
  have hT0' : I3 T 0 = nI k := by rw [e3 T (by omega), am_up_ne (by omega), am_up_ne (by omega)]; exact hT0
  simp (disch := omega) only [s5_readDawn_0, s5_readDawn_1, s5_readDawn_4, s5_readDawn_5, s5_readDawn_6, s5_readDawn_7, s5_readDawn_10, s5_readDawn_11, s5_readDawn_12, s5_readDawn_14, s5_readDawn_17, s5_readDawn_20, s5_readDawn_21, s5_readDawn_22, s5_readDawn_23, s5_readDawn_26, s5_readDawn_27, s5_readDawn_28, s5_readDawn_31, s5_readDawn_32, s5_readDawn_33, s5_readDawn_34, s5_readDawn_35, s5_readDawn_38, s5_readDawn_41, s5_readDawn_42, s5_readDawn_43, s5_readDawn_44, s5_readDawn_47, s5_readDawn_48, s5_readDawn_49, s5_readDawn_52, s5_readDawn_53, s5_readDawn_54, s5_readDawn_55, s5_readDawn_57, s5_readDawn_60, s5_readDawn_63, s5_readDawn_64, s5_readDawn_65, s5_readDawn_66, s5_readDawn_69, s5_readDawn_70, s5_readDawn_71, s5_readDawn_74, s5_readDawn_75, s5_readDawn_76, s5_readDawn_77, s5_readDawn_80, s5_readDawn_81, s5_readDawn_82, s5_readDawn_85, s5_readDawn_86, s5_readDawn_89, am_k1_int, am_k1_ref, am_k1_none, am_cats_nil, am_cats_int, am_cats_ref, am_cats_long, Option.toList_some, Option.toList_none, List.singleton_append, List.nil_append, List.cons_append, true_and, and_true, if_true, if_false, va_rf, ↓reduceIte, Nat.reduceAdd, Nat.reduceMul, Nat.reduceSub, Nat.reduceLT, Nat.reduceLeDiff, Nat.reduceEqDiff, Nat.zero_le, Nat.add_zero, Nat.le_refl, nI_add, mul_nI, lt_nI, le_nI, eq_nI, bnd_nI, ci_nI, decide_eq_true_eq, decide_true, decide_false, Bool.true_or, Bool.or_true, Bool.or_false, Bool.false_or, not_true_eq_false, not_false_eq_true, Bool.false_eq_true, Bool.false_and, Bool.true_and, Bool.and_true, Bool.and_false, Bool.not_true, Bool.not_false, false_and, and_false, and_self, ob_2, rf_2_0, bi_t, ite_bi2, hoT, r3, b3, hk3, zT, zT3, g7, up_n, hT0', Value.category]
  have hL3 : ar_L tx ln I3 := ⟨hL.1, q2, hL.2.2.1, fun i hi => by rw [e3 3 (by omega), am_up_ne (by omega), am_up_ne (by omega)]; exact hL.2.2.2 i hi⟩
  refine c5_readItemsEnd (L_up (L_up hL3 (fun _ _ => rfl) q2 (a := T + 3) (j := k) (v := nI (am_vv tx ln (am_pn tx ln (am_pn tx ln p)))) (by omega) (by omega)) (fun _ _ => rfl) (by rw [am_up_ne (by omega)]; exact q2) (by omega) (by omega)) hp3.1 (by rw [am_up_ne (by omega), am_up_ne (by omega)]; exact q3) (fun I4 m1 m2 m3 m4 => ?_)
  have ens : am_ns tx ln (am_ls 100 tn) p st tn = (true, am_sp tx ln (am_pn tx ln (am_pn tx ln p)), am_pn tx ln (am_pn tx ln (am_pn tx ln p)), am_uf (am_uf (am_uf tn (6 + k) (am_vv tx ln p)) (10 + k) (am_vv tx ln (am_pn tx ln p))) (14 + k) (am_vv tx ln (am_pn tx ln (am_pn tx ln p)))) := by
    rw [els, ns_t n1, ns_t n2, ns_t n3]
    rfl
  have hfr : ∀ a, a ≠ 2 → (a < T ∨ T + 7 < a) → I4 a = I a := fun a h h' => by rw [m1 a h, am_up_ne (by omega), am_up_ne (by omega), e3 a h, am_up_ne (by omega), am_up_ne (by omega)]
  by_cases h59 : am_kk tx ln (am_pn tx ln (am_pn tx ln (am_pn tx ln p))) = 3
  · have eim := im_t efu2 ens h59
    rw [eim] at hq
    obtain ⟨c1, c2, c3, c4, c5, c6, c7, c8⟩ := hTc
    have rT : ∀ j, I4 T j = if j = 0 then nI (k + 1) else I T j := fun j => by
      rw [m1 T (by omega), up_at, am_up_ne (by omega), e3 T (by omega), am_up_ne (by omega), am_up_ne (by omega)]
    have rT1 : ∀ j, I4 (T + 1) j = if j = k then nI (am_vv tx ln p) else I (T + 1) j := fun j => by
      rw [m1 _ (by omega), am_up_ne (by omega), am_up_ne (by omega), e3 _ (by omega), am_up_ne (by omega), up_at]
    have rT2 : ∀ j, I4 (T + 2) j = if j = k then nI (am_vv tx ln (am_pn tx ln p)) else I (T + 2) j := fun j => by
      rw [m1 _ (by omega), am_up_ne (by omega), am_up_ne (by omega), e3 _ (by omega), up_at, am_up_ne (by omega)]
    have rT3 : ∀ j, I4 (T + 3) j = if j = k then nI (am_vv tx ln (am_pn tx ln (am_pn tx ln p))) else I (T + 3) j := fun j => by
      rw [m1 _ (by omega), am_up_ne (by omega), up_at, e3 _ (by omega), am_up_ne (by omega), am_up_ne (by omega)]
    have rTc : ∀ a, T + 4 ≤ a → a ≤ T + 7 → I4 a = I a := fun a h h' => by rw [m1 a (by omega), am_up_ne (by omega), am_up_ne (by omega), e3 a (by omega), am_up_ne (by omega), am_up_ne (by omega)]
    have hfin := hq I4 ⟨hfr, m2, fun h => Bool.noConfusion h, fun _ => ⟨m3, ?_⟩⟩
    · simp only [h59, decide_true]
      simp (disch := omega) only [s5_readDawn_0, s5_readDawn_1, s5_readDawn_4, s5_readDawn_5, s5_readDawn_6, s5_readDawn_7, s5_readDawn_10, s5_readDawn_11, s5_readDawn_12, s5_readDawn_14, s5_readDawn_17, s5_readDawn_20, s5_readDawn_21, s5_readDawn_22, s5_readDawn_23, s5_readDawn_26, s5_readDawn_27, s5_readDawn_28, s5_readDawn_31, s5_readDawn_32, s5_readDawn_33, s5_readDawn_34, s5_readDawn_35, s5_readDawn_38, s5_readDawn_41, s5_readDawn_42, s5_readDawn_43, s5_readDawn_44, s5_readDawn_47, s5_readDawn_48, s5_readDawn_49, s5_readDawn_52, s5_readDawn_53, s5_readDawn_54, s5_readDawn_55, s5_readDawn_57, s5_readDawn_60, s5_readDawn_63, s5_readDawn_64, s5_readDawn_65, s5_readDawn_66, s5_readDawn_69, s5_readDawn_70, s5_readDawn_71, s5_readDawn_74, s5_readDawn_75, s5_readDawn_76, s5_readDawn_77, s5_readDawn_80, s5_readDawn_81, s5_readDawn_82, s5_readDawn_85, s5_readDawn_86, s5_readDawn_89, am_k1_int, am_k1_ref, am_k1_none, am_cats_nil, am_cats_int, am_cats_ref, am_cats_long, Option.toList_some, Option.toList_none, List.singleton_append, List.nil_append, List.cons_append, true_and, and_true, if_true, if_false, va_rf, ↓reduceIte, Nat.reduceAdd, Nat.reduceMul, Nat.reduceSub, Nat.reduceLT, Nat.reduceLeDiff, Nat.reduceEqDiff, Nat.zero_le, Nat.add_zero, Nat.le_refl, nI_add, mul_nI, lt_nI, le_nI, eq_nI, bnd_nI, ci_nI, decide_eq_true_eq, decide_true, decide_false, Bool.true_or, Bool.or_true, Bool.or_false, Bool.false_or, not_true_eq_false, not_false_eq_true, Bool.false_eq_true, Bool.false_and, Bool.true_and, Bool.and_true, Bool.and_false, Bool.not_true, Bool.not_false, false_and, and_false, and_self, bi_ret]
      exact hfin
    · show ar_Tc T (am_uf (am_uf (am_uf (am_uf (am_uf tn (6 + k) (am_vv tx ln p)) (10 + k) (am_vv tx ln (am_pn tx ln p))) (14 + k) (am_vv tx ln (am_pn tx ln (am_pn tx ln p)))) 0 (am_uf (am_uf (am_uf tn (6 + k) (am_vv tx ln p)) (10 + k) (am_vv tx ln (am_pn tx ln p))) (14 + k) (am_vv tx ln (am_pn tx ln (am_pn tx ln p))) 0 + 1)) 4 (tn 4 + 1)) I4
      have e0 : am_uf (am_uf (am_uf tn (6 + k) (am_vv tx ln p)) (10 + k) (am_vv tx ln (am_pn tx ln p))) (14 + k) (am_vv tx ln (am_pn tx ln (am_pn tx ln p))) 0 = k := by rw [uf_n (by omega), uf_n (by omega), uf_n (by omega), hk]
      rw [e0]
      refine ⟨?_, ?_, ?_, ?_, ?_, ?_, fun e he => ?_, fun c hc => ?_⟩
      · rw [rT, if_pos rfl, uf_n (by omega), uf_s]
      · rw [rT, if_neg (by omega), c2, uf_n (by omega), uf_n (by omega), uf_n (by omega), uf_n (by omega), uf_n (by omega)]
      · rw [rT, if_neg (by omega), c3, uf_n (by omega), uf_n (by omega), uf_n (by omega), uf_n (by omega), uf_n (by omega)]
      · rw [rT, if_neg (by omega), c4, uf_n (by omega), uf_n (by omega), uf_n (by omega), uf_n (by omega), uf_n (by omega)]
      · rw [rT, if_neg (by omega), c5, uf_n (by omega), uf_n (by omega), uf_n (by omega), uf_n (by omega), uf_n (by omega)]
      · rw [rT, if_neg (by omega), c6, uf_n (by omega), uf_n (by omega), uf_n (by omega), uf_n (by omega), uf_n (by omega)]
      · rw [uf_n (by omega), uf_s] at he
        rw [rT1, rT2, rT3]
        by_cases e9 : e = k
        · subst e9
          rw [if_pos rfl, if_pos rfl, if_pos rfl]
          refine ⟨?_, ?_, ?_⟩
          · rw [uf_n (by omega), uf_n (by omega), uf_n (by omega), uf_n (by omega), uf_s]
          · rw [uf_n (by omega), uf_n (by omega), uf_n (by omega), uf_s]
          · rw [uf_n (by omega), uf_n (by omega), uf_s]
        · rw [if_neg e9, if_neg e9, if_neg e9]
          obtain ⟨y1, y2, y3⟩ := c7 e (by omega)
          refine ⟨?_, ?_, ?_⟩
          · rw [y1, uf_n (by omega), uf_n (by omega), uf_n (by omega), uf_n (by omega), uf_n (by omega)]
          · rw [y2, uf_n (by omega), uf_n (by omega), uf_n (by omega), uf_n (by omega), uf_n (by omega)]
          · rw [y3, uf_n (by omega), uf_n (by omega), uf_n (by omega), uf_n (by omega), uf_n (by omega)]
      · rw [uf_n (by omega), uf_n (by omega), uf_n (by omega), uf_n (by omega), uf_n (by omega)] at hc
        rw [rTc (T + 4) (by omega) (by omega), rTc (T + 5) (by omega) (by omega), rTc (T + 6) (by omega) (by omega), rTc (T + 7) (by omega) (by omega)]
        obtain ⟨y1, y2, y3, y4⟩ := c8 c hc
        refine ⟨?_, ?_, ?_, ?_⟩
        · rw [y1, uf_n (by omega), uf_n (by omega), uf_n (by omega), uf_n (by omega), uf_n (by omega)]
        · rw [y2, uf_n (by omega), uf_n (by omega), uf_n (by omega), uf_n (by omega), uf_n (by omega)]
        · rw [y3, uf_n (by omega), uf_n (by omega), uf_n (by omega), uf_n (by omega), uf_n (by omega)]
        · rw [y4, uf_n (by omega), uf_n (by omega), uf_n (by omega), uf_n (by omega), uf_n (by omega)]
  · have eim := im_e efu2 ens h59
    rw [eim] at hq
    have hfin := hq I4 ⟨hfr, m2, fun _ => m4, fun h => Bool.noConfusion h⟩
    simp only [h59, decide_false]
    simp (disch := omega) only [s5_readDawn_0, s5_readDawn_1, s5_readDawn_4, s5_readDawn_5, s5_readDawn_6, s5_readDawn_7, s5_readDawn_10, s5_readDawn_11, s5_readDawn_12, s5_readDawn_14, s5_readDawn_17, s5_readDawn_20, s5_readDawn_21, s5_readDawn_22, s5_readDawn_23, s5_readDawn_26, s5_readDawn_27, s5_readDawn_28, s5_readDawn_31, s5_readDawn_32, s5_readDawn_33, s5_readDawn_34, s5_readDawn_35, s5_readDawn_38, s5_readDawn_41, s5_readDawn_42, s5_readDawn_43, s5_readDawn_44, s5_readDawn_47, s5_readDawn_48, s5_readDawn_49, s5_readDawn_52, s5_readDawn_53, s5_readDawn_54, s5_readDawn_55, s5_readDawn_57, s5_readDawn_60, s5_readDawn_63, s5_readDawn_64, s5_readDawn_65, s5_readDawn_66, s5_readDawn_69, s5_readDawn_70, s5_readDawn_71, s5_readDawn_74, s5_readDawn_75, s5_readDawn_76, s5_readDawn_77, s5_readDawn_80, s5_readDawn_81, s5_readDawn_82, s5_readDawn_85, s5_readDawn_86, s5_readDawn_89, am_k1_int, am_k1_ref, am_k1_none, am_cats_nil, am_cats_int, am_cats_ref, am_cats_long, Option.toList_some, Option.toList_none, List.singleton_append, List.nil_append, List.cons_append, true_and, and_true, if_true, if_false, va_rf, ↓reduceIte, Nat.reduceAdd, Nat.reduceMul, Nat.reduceSub, Nat.reduceLT, Nat.reduceLeDiff, Nat.reduceEqDiff, Nat.zero_le, Nat.add_zero, Nat.le_refl, nI_add, mul_nI, lt_nI, le_nI, eq_nI, bnd_nI, ci_nI, decide_eq_true_eq, decide_true, decide_false, Bool.true_or, Bool.or_true, Bool.or_false, Bool.false_or, not_true_eq_false, not_false_eq_true, Bool.false_eq_true, Bool.false_and, Bool.true_and, Bool.and_true, Bool.and_false, Bool.not_true, Bool.not_false, false_and, and_false, and_self, bi_ret]
    exact hfin
end
