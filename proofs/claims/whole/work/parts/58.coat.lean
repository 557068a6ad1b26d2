/-! Told's sums; what a dawn can clothe -/
theorem wo_nI {s c : Nat} (hs : s < 64) (hc : c < 6) : nI s &&& (nI (2 ^ c) ^^^ -1) = nI (am_wo s c) := by
  have key : ∀ s, s < 64 → ∀ c, c < 6 → nI s &&& (nI (2 ^ c) ^^^ -1) = nI (s &&& (63 - 2 ^ c)) := by decide +kernel
  exact key s hs c hc
theorem wo_lt {s c : Nat} (hs : s < 64) : am_wo s c < 64 := Nat.lt_of_le_of_lt Nat.and_le_left hs
theorem andn_nI {s p : Nat} (hs : s < 64) (hp : p < 64) : nI s &&& (nI p ^^^ -1) = nI (s &&& (63 - p)) := by
  have key : ∀ s, s < 64 → ∀ p, p < 64 → nI s &&& (nI p ^^^ -1) = nI (s &&& (63 - p)) := by decide +kernel
  exact key s hs p hp
theorem pw6 {c : Nat} (h : c < 6) : 2 ^ c ≤ 32 := Nat.pow_le_pow_right (n := 2) (by decide) (show c ≤ 5 by omega)
theorem isb_eq {s c : Nat} (hs : s < 64) (hc : c < 32) : (nI s >>> (nI c &&& 31) &&& nI 1 = nI 1) = (s.testBit c = true) := by
  have := isb_nI (a := s) hc (by omega)
  unfold am_isb at this
  rw [← this, decide_eq_true_eq]
section
variable {n d T A nc : Nat} {tn f : Nat → Nat} {I : Nat → Nat → Int32} {J : Nat → Nat → Int64} {sw : Bool} {Q : am_Post}
theorem l5_sumOf {s : Nat} (hT : T = 4 ∨ T = 12) (hn : nc ≤ 6) (h4 : I T 4 = nI nc) (hs : s < 64) (hrd : ∀ j, am_rd (am_sh n) A j = am_bnd j 6) (hf : ∀ c, c < nc → I A c = nI (f c)) : ∀ (r c : Nat), c + r = nc → (am_wp d m5_sumOf 5 [some (.ref T), some (.ref A), some (.int (nI s)), some (.int (nI (am_sm f s c))), some (.int (nI c))] [] (am_sh n, I, J, am_Rf sw) Q ↔ Q (some (.int (nI (am_sm f s nc)))) (am_sh n, I, J, am_Rf sw))
  | 0, c, hm => by
    obtain rfl : c = nc := by omega
    simp (disch := omega) only [e5_sumOf, s5_sumOf_0, s5_sumOf_1, s5_sumOf_2, s5_sumOf_3, s5_sumOf_5, s5_sumOf_7, s5_sumOf_8, s5_sumOf_11, s5_sumOf_14, s5_sumOf_15, s5_sumOf_17, s5_sumOf_18, s5_sumOf_19, s5_sumOf_20, s5_sumOf_21, s5_sumOf_24, s5_sumOf_25, s5_sumOf_26, s5_sumOf_28, s5_sumOf_29, s5_sumOf_30, s5_sumOf_31, s5_sumOf_34, s5_sumOf_37, s5_sumOf_38, am_k1_int, am_k1_ref, am_k1_none, am_cats_nil, am_cats_int, am_cats_ref, am_cats_long, Option.toList_some, Option.toList_none, List.singleton_append, List.nil_append, List.cons_append, true_and, and_true, if_true, if_false, va_rf, ↓reduceIte, Nat.reduceAdd, Nat.reduceMul, Nat.reduceSub, Nat.reduceLT, Nat.reduceLeDiff, Nat.reduceEqDiff, Nat.zero_le, Nat.add_zero, Nat.le_refl, nI_add, mul_nI, lt_nI, le_nI, eq_nI, bnd_nI, ci_nI, decide_eq_true_eq, decide_true, decide_false, Bool.true_or, Bool.or_true, Bool.or_false, Bool.false_or, not_true_eq_false, not_false_eq_true, Bool.false_eq_true, Bool.false_and, Bool.true_and, Bool.and_true, Bool.and_false, Bool.not_true, Bool.not_false, false_and, and_false, and_self, ob_T hT, h4]
  | r + 1, c, hm => by
    have ih := l5_sumOf hT hn h4 hs hrd hf r (c + 1) (by omega)
    have h1 : ¬ nc ≤ c := by omega
    have hc6 : c < 6 := by omega
    have hv := hf c (by omega)
    have hb := isb_eq hs (show c < 32 by omega)
    rw [s5_sumOf_5, ← ih]
    cases hd : s.testBit c with
    | true =>
      have ee : am_sm f s (c + 1) = am_sm f s c + f c := by
        show am_sm f s c + (if s.testBit c = true then f c else 0) = _
        rw [if_pos hd]
      rw [ee]
      simp (disch := omega) only [e5_sumOf, s5_sumOf_0, s5_sumOf_1, s5_sumOf_2, s5_sumOf_3, s5_sumOf_7, s5_sumOf_8, s5_sumOf_11, s5_sumOf_14, s5_sumOf_15, s5_sumOf_17, s5_sumOf_18, s5_sumOf_19, s5_sumOf_20, s5_sumOf_21, s5_sumOf_24, s5_sumOf_25, s5_sumOf_26, s5_sumOf_28, s5_sumOf_29, s5_sumOf_30, s5_sumOf_31, s5_sumOf_34, s5_sumOf_37, s5_sumOf_38, am_k1_int, am_k1_ref, am_k1_none, am_cats_nil, am_cats_int, am_cats_ref, am_cats_long, Option.toList_some, Option.toList_none, List.singleton_append, List.nil_append, List.cons_append, true_and, and_true, if_true, if_false, va_rf, ↓reduceIte, Nat.reduceAdd, Nat.reduceMul, Nat.reduceSub, Nat.reduceLT, Nat.reduceLeDiff, Nat.reduceEqDiff, Nat.zero_le, Nat.add_zero, Nat.le_refl, nI_add, mul_nI, lt_nI, le_nI, eq_nI, bnd_nI, ci_nI, decide_eq_true_eq, decide_true, decide_false, Bool.true_or, Bool.or_true, Bool.or_false, Bool.false_or, not_true_eq_false, not_false_eq_true, Bool.false_eq_true, Bool.false_and, Bool.true_and, Bool.and_true, Bool.and_false, Bool.not_true, Bool.not_false, false_and, and_false, and_self, ob_T hT, h4, h1, hb, hd, hrd, hc6, hv]
    | false =>
      have ee : am_sm f s (c + 1) = am_sm f s c := by
        show am_sm f s c + (if s.testBit c = true then f c else 0) = _
        rw [if_neg (by rw [hd]; decide), Nat.add_zero]
      rw [ee]
      simp (disch := omega) only [e5_sumOf, s5_sumOf_0, s5_sumOf_1, s5_sumOf_2, s5_sumOf_3, s5_sumOf_7, s5_sumOf_8, s5_sumOf_11, s5_sumOf_14, s5_sumOf_15, s5_sumOf_17, s5_sumOf_18, s5_sumOf_19, s5_sumOf_20, s5_sumOf_21, s5_sumOf_24, s5_sumOf_25, s5_sumOf_26, s5_sumOf_28, s5_sumOf_29, s5_sumOf_30, s5_sumOf_31, s5_sumOf_34, s5_sumOf_37, s5_sumOf_38, am_k1_int, am_k1_ref, am_k1_none, am_cats_nil, am_cats_int, am_cats_ref, am_cats_long, Option.toList_some, Option.toList_none, List.singleton_append, List.nil_append, List.cons_append, true_and, and_true, if_true, if_false, va_rf, ↓reduceIte, Nat.reduceAdd, Nat.reduceMul, Nat.reduceSub, Nat.reduceLT, Nat.reduceLeDiff, Nat.reduceEqDiff, Nat.zero_le, Nat.add_zero, Nat.le_refl, nI_add, mul_nI, lt_nI, le_nI, eq_nI, bnd_nI, ci_nI, decide_eq_true_eq, decide_true, decide_false, Bool.true_or, Bool.or_true, Bool.or_false, Bool.false_or, not_true_eq_false, not_false_eq_true, Bool.false_eq_true, Bool.false_and, Bool.true_and, Bool.and_true, Bool.and_false, Bool.not_true, Bool.not_false, false_and, and_false, and_self, ob_T hT, h4, h1, hb, hd]
theorem c5_sumOf {s : Nat} (hT : T = 4 ∨ T = 12) (hn : nc ≤ 6) (h4 : I T 4 = nI nc) (hs : s < 64) (hrd : ∀ j, am_rd (am_sh n) A j = am_bnd j 6) (hf : ∀ c, c < nc → I A c = nI (f c)) : am_call (d + 1) m5_sumOf [.ref T, .ref A, .int (nI s)] (am_sh n, I, J, am_Rf sw) Q ↔ Q (some (.int (nI (am_sm f s nc)))) (am_sh n, I, J, am_Rf sw) := by
  rw [← l5_sumOf (d := d) (n := n) (J := J) (sw := sw) (Q := Q) hT hn h4 hs hrd hf nc 0 (by omega), e5_sumOf, s5_sumOf_0, s5_sumOf_1, s5_sumOf_2, s5_sumOf_3]
  exact Iff.rfl
theorem c5_needsOf {s : Nat} (hT : T = 4 ∨ T = 12) (hn : tn 1 ≤ 6) (hA : ar_T T tn I) (hs : s < 64) : am_call (d + 2) m5_needsOf [.ref T, .int (nI s)] (am_sh n, I, J, am_Rf sw) Q ↔ Q (some (.int (nI (am_sm (fun c => tn (24 + c)) s (tn 1))))) (am_sh n, I, J, am_Rf sw) := by
  obtain ⟨a1, a2, a3, a4, a5, a6, a7⟩ := id hA
  have b2 := fun c (h : c < tn 1) => (a7 c h).2.1
  have hc := fun Q => c5_sumOf (A := T + 5) (f := fun c => tn (24 + c)) (d := d) (n := n) (J := J) (sw := sw) (Q := Q) hT hn a3 hs (by rcases hT with rfl | rfl <;> exact fun j => Bool.or_false _) b2
  rcases id hT with rfl | rfl <;> simp only [Nat.reduceAdd] at hc <;> simp (disch := omega) only [e5_needsOf, s5_needsOf_0, s5_needsOf_1, s5_needsOf_2, s5_needsOf_5, s5_needsOf_6, s5_needsOf_9, am_k1_int, am_k1_ref, am_k1_none, am_cats_nil, am_cats_int, am_cats_ref, am_cats_long, Option.toList_some, Option.toList_none, List.singleton_append, List.nil_append, List.cons_append, true_and, and_true, if_true, if_false, va_rf, ↓reduceIte, Nat.reduceAdd, Nat.reduceMul, Nat.reduceSub, Nat.reduceLT, Nat.reduceLeDiff, Nat.reduceEqDiff, Nat.zero_le, Nat.add_zero, Nat.le_refl, nI_add, mul_nI, lt_nI, le_nI, eq_nI, bnd_nI, ci_nI, decide_eq_true_eq, decide_true, decide_false, Bool.true_or, Bool.or_true, Bool.or_false, Bool.false_or, not_true_eq_false, not_false_eq_true, Bool.false_eq_true, Bool.false_and, Bool.true_and, Bool.and_true, Bool.and_false, Bool.not_true, Bool.not_false, false_and, and_false, and_self, ob_1, rf_1_0, rf_1_1, rf_1_2, rf_1_3, rf_1_4, rf_1_5, rf_1_6, rf_1_7, rf_1_8, ob_2, rf_2_0, ib_3, rd_3, ob_4, rf_4_1, rf_4_2, rf_4_3, rf_4_5, rf_4_6, rf_4_7, rf_4_8, ib_5, rd_5, ib_6, rd_6, ib_7, rd_7, ib_8, rd_8, ib_9, rd_9, ib_10, rd_10, ib_11, rd_11, ob_12, rf_12_1, rf_12_2, rf_12_3, rf_12_5, rf_12_6, rf_12_7, rf_12_8, ib_13, rd_13, ib_14, rd_14, ib_15, rd_15, ib_16, rd_16, ib_17, rd_17, ib_18, rd_18, ib_19, rd_19, ob_20, rf_20_3, rf_20_4, ib_21, rd_21, ib_22, rd_22, ob_23, rf_23_0, ib_24, ix_24, rf_24_0, rf_24_1, rf_24_2, rf_24_3, rf_24_4, rf_24_5, rf_24_6, rf_24_7, rf_24_8, rf_24_9, ib_55, ix_55, rf_55_0, rf_55_1, ib_56, ob_57, rf_57_0, rf_57_1, ib_58, rd_58, ib_59, ob_60, rf_60_2, rf_60_3, rf_60_4, rf_60_5, rf_60_6, ib_61, rd_61, ib_62, ib_63, ix_63, rf_63_0, rf_63_1, rf_63_2, rf_63_3, rf_63_4, hc]
theorem c5_sewingOf {s : Nat} (hT : T = 4 ∨ T = 12) (hn : tn 1 ≤ 6) (hA : ar_T T tn I) (hs : s < 64) : am_call (d + 2) m5_sewingOf [.ref T, .int (nI s)] (am_sh n, I, J, am_Rf sw) Q ↔ Q (some (.int (nI (am_sm (fun c => tn (36 + c)) s (tn 1))))) (am_sh n, I, J, am_Rf sw) := by
  obtain ⟨a1, a2, a3, a4, a5, a6, a7⟩ := id hA
  have b2 := fun c (h : c < tn 1) => (a7 c h).2.2.2
  have hc := fun Q => c5_sumOf (A := T + 7) (f := fun c => tn (36 + c)) (d := d) (n := n) (J := J) (sw := sw) (Q := Q) hT hn a3 hs (by rcases hT with rfl | rfl <;> exact fun j => Bool.or_false _) b2
  rcases id hT with rfl | rfl <;> simp only [Nat.reduceAdd] at hc <;> simp (disch := omega) only [e5_sewingOf, s5_sewingOf_0, s5_sewingOf_1, s5_sewingOf_2, s5_sewingOf_5, s5_sewingOf_6, s5_sewingOf_9, am_k1_int, am_k1_ref, am_k1_none, am_cats_nil, am_cats_int, am_cats_ref, am_cats_long, Option.toList_some, Option.toList_none, List.singleton_append, List.nil_append, List.cons_append, true_and, and_true, if_true, if_false, va_rf, ↓reduceIte, Nat.reduceAdd, Nat.reduceMul, Nat.reduceSub, Nat.reduceLT, Nat.reduceLeDiff, Nat.reduceEqDiff, Nat.zero_le, Nat.add_zero, Nat.le_refl, nI_add, mul_nI, lt_nI, le_nI, eq_nI, bnd_nI, ci_nI, decide_eq_true_eq, decide_true, decide_false, Bool.true_or, Bool.or_true, Bool.or_false, Bool.false_or, not_true_eq_false, not_false_eq_true, Bool.false_eq_true, Bool.false_and, Bool.true_and, Bool.and_true, Bool.and_false, Bool.not_true, Bool.not_false, false_and, and_false, and_self, ob_1, rf_1_0, rf_1_1, rf_1_2, rf_1_3, rf_1_4, rf_1_5, rf_1_6, rf_1_7, rf_1_8, ob_2, rf_2_0, ib_3, rd_3, ob_4, rf_4_1, rf_4_2, rf_4_3, rf_4_5, rf_4_6, rf_4_7, rf_4_8, ib_5, rd_5, ib_6, rd_6, ib_7, rd_7, ib_8, rd_8, ib_9, rd_9, ib_10, rd_10, ib_11, rd_11, ob_12, rf_12_1, rf_12_2, rf_12_3, rf_12_5, rf_12_6, rf_12_7, rf_12_8, ib_13, rd_13, ib_14, rd_14, ib_15, rd_15, ib_16, rd_16, ib_17, rd_17, ib_18, rd_18, ib_19, rd_19, ob_20, rf_20_3, rf_20_4, ib_21, rd_21, ib_22, rd_22, ob_23, rf_23_0, ib_24, ix_24, rf_24_0, rf_24_1, rf_24_2, rf_24_3, rf_24_4, rf_24_5, rf_24_6, rf_24_7, rf_24_8, rf_24_9, ib_55, ix_55, rf_55_0, rf_55_1, ib_56, ob_57, rf_57_0, rf_57_1, ib_58, rd_58, ib_59, ob_60, rf_60_2, rf_60_3, rf_60_4, rf_60_5, rf_60_6, ib_61, rd_61, ib_62, ib_63, ix_63, rf_63_0, rf_63_1, rf_63_2, rf_63_3, rf_63_4, hc]
theorem suA_ff {e s : Nat} : ∀ (r c : Nat), am_suA tn e s c = false → am_suA tn e s (c + r) = false
  | 0, c, h => h
  | r + 1, c, h => by
    show (am_suA tn e s (c + r) && _) = false
    rw [suA_ff r c h]
    rfl
theorem l5_suitsAll {e s : Nat} (hT : T = 4 ∨ T = 12) (hO : ar_told tn) (hA : ar_T T tn I) (hs : s < 64) (he : e < tn 0) : ∀ (r c : Nat), c + r = tn 1 → am_suA tn e s c = true → (am_wp (d + 1) m5_suitsAll 2 [some (.ref T), some (.int (nI e)), some (.int (nI s)), some (.int (nI c))] [] (am_sh n, I, J, am_Rf sw) Q ↔ Q (some (.int (am_bi (am_suA tn e s (tn 1))))) (am_sh n, I, J, am_Rf sw))
  | 0, c, hm, ha => by
    have o2 := hO.2.1
    have a3 := hA.2.2.1
    obtain rfl : c = tn 1 := by omega
    simp (disch := omega) only [e5_suitsAll, s5_suitsAll_0, s5_suitsAll_1, s5_suitsAll_2, s5_suitsAll_3, s5_suitsAll_4, s5_suitsAll_7, s5_suitsAll_10, s5_suitsAll_11, s5_suitsAll_12, s5_suitsAll_13, s5_suitsAll_14, s5_suitsAll_15, s5_suitsAll_16, s5_suitsAll_19, s5_suitsAll_20, s5_suitsAll_21, s5_suitsAll_22, s5_suitsAll_25, s5_suitsAll_28, s5_suitsAll_29, s5_suitsAll_30, s5_suitsAll_33, s5_suitsAll_36, s5_suitsAll_37, am_k1_int, am_k1_ref, am_k1_none, am_cats_nil, am_cats_int, am_cats_ref, am_cats_long, Option.toList_some, Option.toList_none, List.singleton_append, List.nil_append, List.cons_append, true_and, and_true, if_true, if_false, va_rf, ↓reduceIte, Nat.reduceAdd, Nat.reduceMul, Nat.reduceSub, Nat.reduceLT, Nat.reduceLeDiff, Nat.reduceEqDiff, Nat.zero_le, Nat.add_zero, Nat.le_refl, nI_add, mul_nI, lt_nI, le_nI, eq_nI, bnd_nI, ci_nI, decide_eq_true_eq, decide_true, decide_false, Bool.true_or, Bool.or_true, Bool.or_false, Bool.false_or, not_true_eq_false, not_false_eq_true, Bool.false_eq_true, Bool.false_and, Bool.true_and, Bool.and_true, Bool.and_false, Bool.not_true, Bool.not_false, false_and, and_false, and_self, ob_T hT, a3, ha, bi_t, ret_0, ret_1]
  | r + 1, c, hm, ha => by
    have o1 := hO.1
    have o2 := hO.2.1
    have a3 := hA.2.2.1
    have h1 : ¬ tn 1 ≤ c := by omega
    have hc6 : c < 6 := by omega
    have ih := l5_suitsAll hT hO hA hs he r (c + 1) (by omega)
    have hsu := su_T hO hA (show c < tn 1 by omega) he
    have hb := isb_eq hs (show c < 32 by omega)
    have hst : am_suA tn e s (c + 1) = (!s.testBit c || am_suN tn e c) := by
      show (am_suA tn e s c && _) = _
      rw [ha]
      rfl
    rw [s5_suitsAll_2]
    cases hd : s.testBit c with
    | false =>
      rw [hd] at hst
      rw [← ih hst]
      simp (disch := omega) only [e5_suitsAll, s5_suitsAll_0, s5_suitsAll_1, s5_suitsAll_3, s5_suitsAll_4, s5_suitsAll_7, s5_suitsAll_10, s5_suitsAll_11, s5_suitsAll_12, s5_suitsAll_13, s5_suitsAll_14, s5_suitsAll_15, s5_suitsAll_16, s5_suitsAll_19, s5_suitsAll_20, s5_suitsAll_21, s5_suitsAll_22, s5_suitsAll_25, s5_suitsAll_28, s5_suitsAll_29, s5_suitsAll_30, s5_suitsAll_33, s5_suitsAll_36, s5_suitsAll_37, am_k1_int, am_k1_ref, am_k1_none, am_cats_nil, am_cats_int, am_cats_ref, am_cats_long, Option.toList_some, Option.toList_none, List.singleton_append, List.nil_append, List.cons_append, true_and, and_true, if_true, if_false, va_rf, ↓reduceIte, Nat.reduceAdd, Nat.reduceMul, Nat.reduceSub, Nat.reduceLT, Nat.reduceLeDiff, Nat.reduceEqDiff, Nat.zero_le, Nat.add_zero, Nat.le_refl, nI_add, mul_nI, lt_nI, le_nI, eq_nI, bnd_nI, ci_nI, decide_eq_true_eq, decide_true, decide_false, Bool.true_or, Bool.or_true, Bool.or_false, Bool.false_or, not_true_eq_false, not_false_eq_true, Bool.false_eq_true, Bool.false_and, Bool.true_and, Bool.and_true, Bool.and_false, Bool.not_true, Bool.not_false, false_and, and_false, and_self, ob_T hT, a3, h1, hb, hd]
    | true =>
      rw [hd] at hst
      cases hu : am_suN tn e c with
      | true =>
        rw [hu] at hst hsu
        rw [← ih hst]
        simp (disch := omega) only [e5_suitsAll, s5_suitsAll_0, s5_suitsAll_1, s5_suitsAll_3, s5_suitsAll_4, s5_suitsAll_7, s5_suitsAll_10, s5_suitsAll_11, s5_suitsAll_12, s5_suitsAll_13, s5_suitsAll_14, s5_suitsAll_15, s5_suitsAll_16, s5_suitsAll_19, s5_suitsAll_20, s5_suitsAll_21, s5_suitsAll_22, s5_suitsAll_25, s5_suitsAll_28, s5_suitsAll_29, s5_suitsAll_30, s5_suitsAll_33, s5_suitsAll_36, s5_suitsAll_37, am_k1_int, am_k1_ref, am_k1_none, am_cats_nil, am_cats_int, am_cats_ref, am_cats_long, Option.toList_some, Option.toList_none, List.singleton_append, List.nil_append, List.cons_append, true_and, and_true, if_true, if_false, va_rf, ↓reduceIte, Nat.reduceAdd, Nat.reduceMul, Nat.reduceSub, Nat.reduceLT, Nat.reduceLeDiff, Nat.reduceEqDiff, Nat.zero_le, Nat.add_zero, Nat.le_refl, nI_add, mul_nI, lt_nI, le_nI, eq_nI, bnd_nI, ci_nI, decide_eq_true_eq, decide_true, decide_false, Bool.true_or, Bool.or_true, Bool.or_false, Bool.false_or, not_true_eq_false, not_false_eq_true, Bool.false_eq_true, Bool.false_and, Bool.true_and, Bool.and_true, Bool.and_false, Bool.not_true, Bool.not_false, false_and, and_false, and_self, ob_T hT, a3, h1, hb, hd, c5_suits hT (show e < 4 by omega) hc6, hsu, bi_t, ite_bi2]
      | false =>
        rw [hu] at hst hsu
        have hf := suA_ff r (c + 1) hst
        rw [show c + 1 + r = tn 1 by omega] at hf
        rw [hf]
        simp (disch := omega) only [e5_suitsAll, s5_suitsAll_0, s5_suitsAll_1, s5_suitsAll_3, s5_suitsAll_4, s5_suitsAll_7, s5_suitsAll_10, s5_suitsAll_11, s5_suitsAll_12, s5_suitsAll_13, s5_suitsAll_14, s5_suitsAll_15, s5_suitsAll_16, s5_suitsAll_19, s5_suitsAll_20, s5_suitsAll_21, s5_suitsAll_22, s5_suitsAll_25, s5_suitsAll_28, s5_suitsAll_29, s5_suitsAll_30, s5_suitsAll_33, s5_suitsAll_36, s5_suitsAll_37, am_k1_int, am_k1_ref, am_k1_none, am_cats_nil, am_cats_int, am_cats_ref, am_cats_long, Option.toList_some, Option.toList_none, List.singleton_append, List.nil_append, List.cons_append, true_and, and_true, if_true, if_false, va_rf, ↓reduceIte, Nat.reduceAdd, Nat.reduceMul, Nat.reduceSub, Nat.reduceLT, Nat.reduceLeDiff, Nat.reduceEqDiff, Nat.zero_le, Nat.add_zero, Nat.le_refl, nI_add, mul_nI, lt_nI, le_nI, eq_nI, bnd_nI, ci_nI, decide_eq_true_eq, decide_true, decide_false, Bool.true_or, Bool.or_true, Bool.or_false, Bool.false_or, not_true_eq_false, not_false_eq_true, Bool.false_eq_true, Bool.false_and, Bool.true_and, Bool.and_true, Bool.and_false, Bool.not_true, Bool.not_false, false_and, and_false, and_self, ob_T hT, a3, h1, hb, hd, c5_suits hT (show e < 4 by omega) hc6, hsu, bi_f, ite_bi2, ret_0, ret_1]
theorem c5_suitsAll {e s : Nat} (hT : T = 4 ∨ T = 12) (hO : ar_told tn) (hA : ar_T T tn I) (hs : s < 64) (he : e < tn 0) : am_call (d + 2) m5_suitsAll [.ref T, .int (nI e), .int (nI s)] (am_sh n, I, J, am_Rf sw) Q ↔ Q (some (.int (am_bi (am_suA tn e s (tn 1))))) (am_sh n, I, J, am_Rf sw) := by
  rw [← l5_suitsAll (d := d) (n := n) (J := J) (sw := sw) (Q := Q) hT hO hA hs he (tn 1) 0 (by omega) rfl]
  simp (disch := omega) only [e5_suitsAll, s5_suitsAll_0, s5_suitsAll_1, s5_suitsAll_3, s5_suitsAll_4, s5_suitsAll_7, s5_suitsAll_10, s5_suitsAll_11, s5_suitsAll_12, s5_suitsAll_13, s5_suitsAll_14, s5_suitsAll_15, s5_suitsAll_16, s5_suitsAll_19, s5_suitsAll_20, s5_suitsAll_21, s5_suitsAll_22, s5_suitsAll_25, s5_suitsAll_28, s5_suitsAll_29, s5_suitsAll_30, s5_suitsAll_33, s5_suitsAll_36, s5_suitsAll_37, am_k1_int, am_k1_ref, am_k1_none, am_cats_nil, am_cats_int, am_cats_ref, am_cats_long, Option.toList_some, Option.toList_none, List.singleton_append, List.nil_append, List.cons_append, true_and, and_true, if_true, if_false, va_rf, ↓reduceIte, Nat.reduceAdd, Nat.reduceMul, Nat.reduceSub, Nat.reduceLT, Nat.reduceLeDiff, Nat.reduceEqDiff, Nat.zero_le, Nat.add_zero, Nat.le_refl, nI_add, mul_nI, lt_nI, le_nI, eq_nI, bnd_nI, ci_nI, decide_eq_true_eq, decide_true, decide_false, Bool.true_or, Bool.or_true, Bool.or_false, Bool.false_or, not_true_eq_false, not_false_eq_true, Bool.false_eq_true, Bool.false_and, Bool.true_and, Bool.and_true, Bool.and_false, Bool.not_true, Bool.not_false, false_and, and_false, and_self]
end
