/-! reckoning, with what the class was told alone (made by program out of the like lemmas above) -/
def ar_Tq (T : Nat) (tn : Nat → Nat) (I : Nat → Nat → Int32) : Prop := True ∧ I T 0 = nI (tn 0) ∧ I T 4 = nI (tn 1) ∧ I T 9 = nI (tn 2) ∧ I T 10 = nI (tn 3) ∧ (∀ e, e < tn 0 → I (T + 1) e = nI (tn (6 + e)) ∧ I (T + 2) e = nI (tn (10 + e)) ∧ I (T + 3) e = nI (tn (14 + e))) ∧ (∀ c, c < tn 1 → I (T + 4) c = nI (tn (18 + c)) ∧ I (T + 5) c = nI (tn (24 + c)) ∧ I (T + 6) c = nI (tn (30 + c)) ∧ I (T + 7) c = nI (tn (36 + c)))
theorem su_Tq {tn : Nat → Nat} {I : Nat → Nat → Int32} {T c e : Nat} (hO : ar_told tn) (hA : ar_Tq T tn I) (hc : c < tn 1) (he : e < tn 0) : am_su I T e c = am_suN tn e c := by
  obtain ⟨o1, o2, o3, o4, o5, o6, o7, o8, o9⟩ := hO
  obtain ⟨a1, a2, a3, a4, a5, a6, a7⟩ := hA
  have v1 := o7 c (by omega)
  have v2 := o5 e (by omega)
  unfold am_su am_suN
  rw [(a7 c hc).2.2.1, (a6 e he).2.1, dec_nI (by omega) (by omega), dec_nI (by omega) (by omega)]
theorem told_frq {T : Nat} {tn : Nat → Nat} {I I' : Nat → Nat → Int32} (hT : T = 4 ∨ T = 12) (h : ∀ a, a < 60 ∨ 68 < a → I' a = I a) (hA : ar_Tq T tn I) : ar_Tq T tn I' := by
  unfold ar_Tq at *
  rw [h T (by omega), h (T + 1) (by omega), h (T + 2) (by omega), h (T + 3) (by omega), h (T + 4) (by omega), h (T + 5) (by omega), h (T + 6) (by omega), h (T + 7) (by omega)]
  exact hA
section
variable {n d T A nc : Nat} {tn f : Nat → Nat} {I : Nat → Nat → Int32} {J : Nat → Nat → Int64} {sw : Bool} {Q : am_Post}
theorem c5_needsOfq {s : Nat} (hT : T = 4 ∨ T = 12) (hn : tn 1 ≤ 6) (hA : ar_Tq T tn I) (hs : s < 64) : am_call (d + 2) m5_needsOf [.ref T, .int (nI s)] (am_sh n, I, J, am_Rf sw) Q ↔ Q (some (.int (nI (am_sm (fun c => tn (24 + c)) s (tn 1))))) (am_sh n, I, J, am_Rf sw) := by
  obtain ⟨a1, a2, a3, a4, a5, a6, a7⟩ := id hA
  have b2 := fun c (h : c < tn 1) => (a7 c h).2.1
  have hc := fun Q => c5_sumOf (A := T + 5) (f := fun c => tn (24 + c)) (d := d) (n := n) (J := J) (sw := sw) (Q := Q) hT hn a3 hs (by rcases hT with rfl | rfl <;> exact fun j => Bool.or_false _) b2
  rcases id hT with rfl | rfl <;> simp only [Nat.reduceAdd] at hc <;> simp (disch := omega) only [e5_needsOf, s5_needsOf_0, s5_needsOf_1, s5_needsOf_2, s5_needsOf_5, s5_needsOf_6, s5_needsOf_9, am_k1_int, am_k1_ref, am_k1_none, am_cats_nil, am_cats_int, am_cats_ref, am_cats_long, Option.toList_some, Option.toList_none, List.singleton_append, List.nil_append, List.cons_append, true_and, and_true, if_true, if_false, va_rf, ↓reduceIte, Nat.reduceAdd, Nat.reduceMul, Nat.reduceSub, Nat.reduceLT, Nat.reduceLeDiff, Nat.reduceEqDiff, Nat.zero_le, Nat.add_zero, Nat.le_refl, nI_add, mul_nI, lt_nI, le_nI, eq_nI, bnd_nI, ci_nI, decide_eq_true_eq, decide_true, decide_false, Bool.true_or, Bool.or_true, Bool.or_false, Bool.false_or, not_true_eq_false, not_false_eq_true, Bool.false_eq_true, Bool.false_and, Bool.true_and, Bool.and_true, Bool.and_false, Bool.not_true, Bool.not_false, false_and, and_false, and_self, ob_1, rf_1_0, rf_1_1, rf_1_2, rf_1_3, rf_1_4, rf_1_5, rf_1_6, rf_1_7, rf_1_8, ob_2, rf_2_0, ib_3, rd_3, ob_4, rf_4_1, rf_4_2, rf_4_3, rf_4_5, rf_4_6, rf_4_7, rf_4_8, ib_5, rd_5, ib_6, rd_6, ib_7, rd_7, ib_8, rd_8, ib_9, rd_9, ib_10, rd_10, ib_11, rd_11, ob_12, rf_12_1, rf_12_2, rf_12_3, rf_12_5, rf_12_6, rf_12_7, rf_12_8, ib_13, rd_13, ib_14, rd_14, ib_15, rd_15, ib_16, rd_16, ib_17, rd_17, ib_18, rd_18, ib_19, rd_19, ob_20, rf_20_3, rf_20_4, ib_21, rd_21, ib_22, rd_22, ob_23, rf_23_0, ib_24, ix_24, rf_24_0, rf_24_1, rf_24_2, rf_24_3, rf_24_4, rf_24_5, rf_24_6, rf_24_7, rf_24_8, rf_24_9, ib_55, ix_55, rf_55_0, rf_55_1, ib_56, ob_57, rf_57_0, rf_57_1, ib_58, rd_58, ib_59, ob_60, rf_60_2, rf_60_3, rf_60_4, rf_60_5, rf_60_6, ib_61, rd_61, ib_62, ib_63, ix_63, rf_63_0, rf_63_1, rf_63_2, rf_63_3, rf_63_4, hc]
theorem l5_suitsAllq {e s : Nat} (hT : T = 4 ∨ T = 12) (hO : ar_told tn) (hA : ar_Tq T tn I) (hs : s < 64) (he : e < tn 0) : ∀ (r c : Nat), c + r = tn 1 → am_suA tn e s c = true → (am_wp (d + 1) m5_suitsAll 2 [some (.ref T), some (.int (nI e)), some (.int (nI s)), some (.int (nI c))] [] (am_sh n, I, J, am_Rf sw) Q ↔ Q (some (.int (am_bi (am_suA tn e s (tn 1))))) (am_sh n, I, J, am_Rf sw))
  | 0, c, hm, ha => by
    have o2 := hO.2.1
    have a3 := hA.2.2.1
    obtain rfl : c = tn 1 := by omega
    simp (disch := omega) only [e5_suitsAll, s5_suitsAll_0, s5_suitsAll_1, s5_suitsAll_2, s5_suitsAll_3, s5_suitsAll_4, s5_suitsAll_7, s5_suitsAll_10, s5_suitsAll_11, s5_suitsAll_12, s5_suitsAll_13, s5_suitsAll_14, s5_suitsAll_15, s5_suitsAll_16, s5_suitsAll_19, s5_suitsAll_20, s5_suitsAll_21, s5_suitsAll_22, s5_suitsAll_25, s5_suitsAll_28, s5_suitsAll_29, s5_suitsAll_30, s5_suitsAll_33, s5_suitsAll_36, s5_suitsAll_37, am_k1_int, am_k1_ref, am_k1_none, am_cats_nil, am_cats_int, am_cats_ref, am_cats_long, Option.toList_some, Option.toList_none, List.singleton_append, List.nil_append, List.cons_append, true_and, and_true, if_true, if_false, va_rf, ↓reduceIte, Nat.reduceAdd, Nat.reduceMul, Nat.reduceSub, Nat.reduceLT, Nat.reduceLeDiff, Nat.reduceEqDiff, Nat.zero_le, Nat.add_zero, Nat.le_refl, nI_add, mul_nI, lt_nI, le_nI, eq_nI, bnd_nI, ci_nI, decide_eq_true_eq, decide_true, decide_false, Bool.true_or, Bool.or_true, Bool.or_false, Bool.false_or, not_true_eq_false, not_false_eq_true, Bool.false_eq_true, Bool.false_and, Bool.true_and, Bool.and_true, Bool.and_false, Bool.not_true, Bool.not_false, false_and, and_false, and_self, ob_T hT, a3, ha, bi_t, ret_0, ret_1]
  | r + 1, c, hm, ha => by
    have o1 := hO.1
    have o2 := hO.2.1
    have a3 := hA.2.2.1
    have h1 : ¬ tn 1 ≤ c := by omega
    have hc6 : c < 6 := by omega
    have ih := l5_suitsAllq hT hO hA hs he r (c + 1) (by omega)
    have hsu := su_Tq hO hA (show c < tn 1 by omega) he
    have hb := isb_eq hs (show c < 32 by omega)
    have hst : am_suA tn e s (c + 1) = (!s.testBit c || am_suN tn e c) := by
      show (am_suA tn e s c && _) = _
      rw [ha]
      rfl
    rw [s5_suitsAll_2]
    cases hd : s.testBit c with
    | false =>
      rw [hd] at hst
      rw [← ih hst]
      simp (disch := omega) only [e5_suitsAll, s5_suitsAll_0, s5_suitsAll_1, s5_suitsAll_3, s5_suitsAll_4, s5_suitsAll_7, s5_suitsAll_10, s5_suitsAll_11, s5_suitsAll_12, s5_suitsAll_13, s5_suitsAll_14, s5_suitsAll_15, s5_suitsAll_16, s5_suitsAll_19, s5_suitsAll_20, s5_suitsAll_21, s5_suitsAll_22, s5_suitsAll_25, s5_suitsAll_28, s5_suitsAll_29, s5_suitsAll_30, s5_suitsAll_33, s5_suitsAll_36, s5_suitsAll_37, am_k1_int, am_k1_ref, am_k1_none, am_cats_nil, am_cats_int, am_cats_ref, am_cats_long, Option.toList_some, Option.toList_none, List.singleton_append, List.nil_append, List.cons_append, true_and, and_true, if_true, if_false, va_rf, ↓reduceIte, Nat.reduceAdd, Nat.reduceMul, Nat.reduceSub, Nat.reduceLT, Nat.reduceLeDiff, Nat.reduceEqDiff, Nat.zero_le, Nat.add_zero, Nat.le_refl, nI_add, mul_nI, lt_nI, le_nI, eq_nI, bnd_nI, ci_nI, decide_eq_true_eq, decide_true, decide_false, Bool.true_or, Bool.or_true, Bool.or_false, Bool.false_or, not_true_eq_false, not_false_eq_true, Bool.false_eq_true, Bool.false_and, Bool.true_and, Bool.and_true, Bool.and_false, Bool.not_true, Bool.not_false, false_and, and_false, and_self, ob_T hT, a3, h1, hb, hd]
    | true =>
      rw [hd] at hst
      cases hu : am_suN tn e c with
      | true =>
        rw [hu] at hst hsu
        rw [← ih hst]
        simp (disch := omega) only [e5_suitsAll, s5_suitsAll_0, s5_suitsAll_1, s5_suitsAll_3, s5_suitsAll_4, s5_suitsAll_7, s5_suitsAll_10, s5_suitsAll_11, s5_suitsAll_12, s5_suitsAll_13, s5_suitsAll_14, s5_suitsAll_15, s5_suitsAll_16, s5_suitsAll_19, s5_suitsAll_20, s5_suitsAll_21, s5_suitsAll_22, s5_suitsAll_25, s5_suitsAll_28, s5_suitsAll_29, s5_suitsAll_30, s5_suitsAll_33, s5_suitsAll_36, s5_suitsAll_37, am_k1_int, am_k1_ref, am_k1_none, am_cats_nil, am_cats_int, am_cats_ref, am_cats_long, Option.toList_some, Option.toList_none, List.singleton_append, List.nil_append, List.cons_append, true_and, and_true, if_true, if_false, va_rf, ↓reduceIte, Nat.reduceAdd, Nat.reduceMul, Nat.reduceSub, Nat.reduceLT, Nat.reduceLeDiff, Nat.reduceEqDiff, Nat.zero_le, Nat.add_zero, Nat.le_refl, nI_add, mul_nI, lt_nI, le_nI, eq_nI, bnd_nI, ci_nI, decide_eq_true_eq, decide_true, decide_false, Bool.true_or, Bool.or_true, Bool.or_false, Bool.false_or, not_true_eq_false, not_false_eq_true, Bool.false_eq_true, Bool.false_and, Bool.true_and, Bool.and_true, Bool.and_false, Bool.not_true, Bool.not_false, false_and, and_false, and_self, ob_T hT, a3, h1, hb, hd, c5_suits hT (show e < 4 by omega) hc6, hsu, bi_t, ite_bi2]
      | false =>
        rw [hu] at hst hsu
        have hf := suA_ff r (c + 1) hst
        rw [show c + 1 + r = tn 1 by omega] at hf
        rw [hf]
        simp (disch := omega) only [e5_suitsAll, s5_suitsAll_0, s5_suitsAll_1, s5_suitsAll_3, s5_suitsAll_4, s5_suitsAll_7, s5_suitsAll_10, s5_suitsAll_11, s5_suitsAll_12, s5_suitsAll_13, s5_suitsAll_14, s5_suitsAll_15, s5_suitsAll_16, s5_suitsAll_19, s5_suitsAll_20, s5_suitsAll_21, s5_suitsAll_22, s5_suitsAll_25, s5_suitsAll_28, s5_suitsAll_29, s5_suitsAll_30, s5_suitsAll_33, s5_suitsAll_36, s5_suitsAll_37, am_k1_int, am_k1_ref, am_k1_none, am_cats_nil, am_cats_int, am_cats_ref, am_cats_long, Option.toList_some, Option.toList_none, List.singleton_append, List.nil_append, List.cons_append, true_and, and_true, if_true, if_false, va_rf, ↓reduceIte, Nat.reduceAdd, Nat.reduceMul, Nat.reduceSub, Nat.reduceLT, Nat.reduceLeDiff, Nat.reduceEqDiff, Nat.zero_le, Nat.add_zero, Nat.le_refl, nI_add, mul_nI, lt_nI, le_nI, eq_nI, bnd_nI, ci_nI, decide_eq_true_eq, decide_true, decide_false, Bool.true_or, Bool.or_true, Bool.or_false, Bool.false_or, not_true_eq_false, not_false_eq_true, Bool.false_eq_true, Bool.false_and, Bool.true_and, Bool.and_true, Bool.and_false, Bool.not_true, Bool.not_false, false_and, and_false, and_self, ob_T hT, a3, h1, hb, hd, c5_suits hT (show e < 4 by omega) hc6, hsu, bi_f, ite_bi2, ret_0, ret_1]
theorem c5_suitsAllq {e s : Nat} (hT : T = 4 ∨ T = 12) (hO : ar_told tn) (hA : ar_Tq T tn I) (hs : s < 64) (he : e < tn 0) : am_call (d + 2) m5_suitsAll [.ref T, .int (nI e), .int (nI s)] (am_sh n, I, J, am_Rf sw) Q ↔ Q (some (.int (am_bi (am_suA tn e s (tn 1))))) (am_sh n, I, J, am_Rf sw) := by
  rw [← l5_suitsAllq (d := d) (n := n) (J := J) (sw := sw) (Q := Q) hT hO hA hs he (tn 1) 0 (by omega) rfl]
  simp (disch := omega) only [e5_suitsAll, s5_suitsAll_0, s5_suitsAll_1, s5_suitsAll_3, s5_suitsAll_4, s5_suitsAll_7, s5_suitsAll_10, s5_suitsAll_11, s5_suitsAll_12, s5_suitsAll_13, s5_suitsAll_14, s5_suitsAll_15, s5_suitsAll_16, s5_suitsAll_19, s5_suitsAll_20, s5_suitsAll_21, s5_suitsAll_22, s5_suitsAll_25, s5_suitsAll_28, s5_suitsAll_29, s5_suitsAll_30, s5_suitsAll_33, s5_suitsAll_36, s5_suitsAll_37, am_k1_int, am_k1_ref, am_k1_none, am_cats_nil, am_cats_int, am_cats_ref, am_cats_long, Option.toList_some, Option.toList_none, List.singleton_append, List.nil_append, List.cons_append, true_and, and_true, if_true, if_false, va_rf, ↓reduceIte, Nat.reduceAdd, Nat.reduceMul, Nat.reduceSub, Nat.reduceLT, Nat.reduceLeDiff, Nat.reduceEqDiff, Nat.zero_le, Nat.add_zero, Nat.le_refl, nI_add, mul_nI, lt_nI, le_nI, eq_nI, bnd_nI, ci_nI, decide_eq_true_eq, decide_true, decide_false, Bool.true_or, Bool.or_true, Bool.or_false, Bool.false_or, not_true_eq_false, not_false_eq_true, Bool.false_eq_true, Bool.false_and, Bool.true_and, Bool.and_true, Bool.and_false, Bool.not_true, Bool.not_false, false_and, and_false, and_self]
end
section
variable {n d T : Nat} {tn tab : Nat → Nat} {I : Nat → Nat → Int32} {J : Nat → Nat → Int64} {sw : Bool} {Q : am_Post}
set_option maxHeartbeats 4000000 in
theorem l0_soonestOfq {s : Nat} (hT : T = 4 ∨ T = 12) (hO : ar_told tn) (hA : ar_Tq T tn I) (h1 : I 60 1 = nI (tn 1)) (hs : s < 64) (htab : ∀ y, y < s → I 61 y = nI (tab y)) (hB : ∀ y, y < s → tab y ≤ 72 + 30 * (y + 1)) : ∀ (r c : Nat) (l6 : Option Value), c + r = tn 1 → (am_wp (d + 1) m0_soonestOf 12 [some (.ref 60), some (.ref T), some (.int (nI s)), some (.int (nI (am_sm (fun c => tn (24 + c)) s (tn 1)))), some (.int (nI (am_sn1 tn tab s c))), some (.int (nI c)), l6] [] (am_sh n, I, J, am_Rf sw) Q ↔ Q (some (.int (nI (am_sn1 tn tab s (tn 1))))) (am_sh n, I, J, am_Rf sw))
  | 0, c, l6, hm => by
    have o2 := hO.2.1
    obtain rfl : c = tn 1 := by omega
    simp (disch := omega) only [e0_soonestOf, s0_soonestOf_0, s0_soonestOf_1, s0_soonestOf_2, s0_soonestOf_5, s0_soonestOf_6, s0_soonestOf_7, s0_soonestOf_9, s0_soonestOf_10, s0_soonestOf_12, s0_soonestOf_14, s0_soonestOf_15, s0_soonestOf_18, s0_soonestOf_21, s0_soonestOf_22, s0_soonestOf_24, s0_soonestOf_25, s0_soonestOf_26, s0_soonestOf_27, s0_soonestOf_28, s0_soonestOf_31, s0_soonestOf_32, s0_soonestOf_33, s0_soonestOf_36, s0_soonestOf_37, s0_soonestOf_38, s0_soonestOf_40, s0_soonestOf_41, s0_soonestOf_42, s0_soonestOf_43, s0_soonestOf_44, s0_soonestOf_45, s0_soonestOf_48, s0_soonestOf_49, s0_soonestOf_52, s0_soonestOf_54, s0_soonestOf_55, s0_soonestOf_56, s0_soonestOf_58, s0_soonestOf_60, s0_soonestOf_63, s0_soonestOf_65, s0_soonestOf_68, s0_soonestOf_70, s0_soonestOf_72, s0_soonestOf_75, s0_soonestOf_77, s0_soonestOf_80, s0_soonestOf_83, s0_soonestOf_85, am_k1_int, am_k1_ref, am_k1_none, am_cats_nil, am_cats_int, am_cats_ref, am_cats_long, Option.toList_some, Option.toList_none, List.singleton_append, List.nil_append, List.cons_append, true_and, and_true, if_true, if_false, va_rf, ↓reduceIte, Nat.reduceAdd, Nat.reduceMul, Nat.reduceSub, Nat.reduceLT, Nat.reduceLeDiff, Nat.reduceEqDiff, Nat.zero_le, Nat.add_zero, Nat.le_refl, nI_add, mul_nI, lt_nI, le_nI, eq_nI, bnd_nI, ci_nI, decide_eq_true_eq, decide_true, decide_false, Bool.true_or, Bool.or_true, Bool.or_false, Bool.false_or, not_true_eq_false, not_false_eq_true, Bool.false_eq_true, Bool.false_and, Bool.true_and, Bool.and_true, Bool.and_false, Bool.not_true, Bool.not_false, false_and, and_false, and_self, ob_60, rf_60_2, rf_60_3, rf_60_4, rf_60_5, rf_60_6, h1, Nat.lt_irrefl]
  | r + 1, c, l6, hm => by
    have o2 := hO.2.1
    have ih := l0_soonestOfq hT hO hA h1 hs htab hB r (c + 1)
    have hcn : ¬ tn 1 ≤ c := by omega
    have hc6 : c < 6 := by omega
    have hb := isb_eq hs (show c < 32 by omega)
    have hn := need_le hO s
    have hle := sn1_le hO hs hB c (by omega)
    have p5 := pw6 hc6
    have v36 := (hO.2.2.2.2.2.2.1 c hc6).2.2.2
    have b4 := (hA.2.2.2.2.2.2 c (by omega)).2.2.2
    rw [s0_soonestOf_12]
    cases hd : s.testBit c with
    | false =>
      simp only [am_sn1, hd, Bool.false_eq_true, if_false] at ih
      simp (disch := omega) only [e0_soonestOf, s0_soonestOf_0, s0_soonestOf_1, s0_soonestOf_2, s0_soonestOf_5, s0_soonestOf_6, s0_soonestOf_7, s0_soonestOf_9, s0_soonestOf_10, s0_soonestOf_14, s0_soonestOf_15, s0_soonestOf_18, s0_soonestOf_21, s0_soonestOf_22, s0_soonestOf_24, s0_soonestOf_25, s0_soonestOf_26, s0_soonestOf_27, s0_soonestOf_28, s0_soonestOf_31, s0_soonestOf_32, s0_soonestOf_33, s0_soonestOf_36, s0_soonestOf_37, s0_soonestOf_38, s0_soonestOf_40, s0_soonestOf_41, s0_soonestOf_42, s0_soonestOf_43, s0_soonestOf_44, s0_soonestOf_45, s0_soonestOf_48, s0_soonestOf_49, s0_soonestOf_52, s0_soonestOf_54, s0_soonestOf_55, s0_soonestOf_56, s0_soonestOf_58, s0_soonestOf_60, s0_soonestOf_63, s0_soonestOf_65, s0_soonestOf_68, s0_soonestOf_70, s0_soonestOf_72, s0_soonestOf_75, s0_soonestOf_77, s0_soonestOf_80, s0_soonestOf_83, s0_soonestOf_85, am_k1_int, am_k1_ref, am_k1_none, am_cats_nil, am_cats_int, am_cats_ref, am_cats_long, Option.toList_some, Option.toList_none, List.singleton_append, List.nil_append, List.cons_append, true_and, and_true, if_true, if_false, va_rf, ↓reduceIte, Nat.reduceAdd, Nat.reduceMul, Nat.reduceSub, Nat.reduceLT, Nat.reduceLeDiff, Nat.reduceEqDiff, Nat.zero_le, Nat.add_zero, Nat.le_refl, nI_add, mul_nI, lt_nI, le_nI, eq_nI, bnd_nI, ci_nI, decide_eq_true_eq, decide_true, decide_false, Bool.true_or, Bool.or_true, Bool.or_false, Bool.false_or, not_true_eq_false, not_false_eq_true, Bool.false_eq_true, Bool.false_and, Bool.true_and, Bool.and_true, Bool.and_false, Bool.not_true, Bool.not_false, false_and, and_false, and_self, ob_60, rf_60_2, rf_60_3, rf_60_4, rf_60_5, rf_60_6, h1, hcn, hb, hd]
      exact ih _ (by omega)
    | true =>
      have hw := wo_less hs hc6 hd
      have hw64 : am_wo s c < 64 := by omega
      have ht := htab _ hw
      have ht2 := hB _ hw
      by_cases h0 : am_sn1 tn tab s c = 0
      · simp only [am_sn1, hd, h0, if_true] at ih
        rcases id hT with rfl | rfl <;> simp only [Nat.reduceAdd] at b4 <;> simp (disch := omega) only [e0_soonestOf, s0_soonestOf_0, s0_soonestOf_1, s0_soonestOf_2, s0_soonestOf_5, s0_soonestOf_6, s0_soonestOf_7, s0_soonestOf_9, s0_soonestOf_10, s0_soonestOf_14, s0_soonestOf_15, s0_soonestOf_18, s0_soonestOf_21, s0_soonestOf_22, s0_soonestOf_24, s0_soonestOf_25, s0_soonestOf_26, s0_soonestOf_27, s0_soonestOf_28, s0_soonestOf_31, s0_soonestOf_32, s0_soonestOf_33, s0_soonestOf_36, s0_soonestOf_37, s0_soonestOf_38, s0_soonestOf_40, s0_soonestOf_41, s0_soonestOf_42, s0_soonestOf_43, s0_soonestOf_44, s0_soonestOf_45, s0_soonestOf_48, s0_soonestOf_49, s0_soonestOf_52, s0_soonestOf_54, s0_soonestOf_55, s0_soonestOf_56, s0_soonestOf_58, s0_soonestOf_60, s0_soonestOf_63, s0_soonestOf_65, s0_soonestOf_68, s0_soonestOf_70, s0_soonestOf_72, s0_soonestOf_75, s0_soonestOf_77, s0_soonestOf_80, s0_soonestOf_83, s0_soonestOf_85, am_k1_int, am_k1_ref, am_k1_none, am_cats_nil, am_cats_int, am_cats_ref, am_cats_long, Option.toList_some, Option.toList_none, List.singleton_append, List.nil_append, List.cons_append, true_and, and_true, if_true, if_false, va_rf, ↓reduceIte, Nat.reduceAdd, Nat.reduceMul, Nat.reduceSub, Nat.reduceLT, Nat.reduceLeDiff, Nat.reduceEqDiff, Nat.zero_le, Nat.add_zero, Nat.le_refl, nI_add, mul_nI, lt_nI, le_nI, eq_nI, bnd_nI, ci_nI, decide_eq_true_eq, decide_true, decide_false, Bool.true_or, Bool.or_true, Bool.or_false, Bool.false_or, not_true_eq_false, not_false_eq_true, Bool.false_eq_true, Bool.false_and, Bool.true_and, Bool.and_true, Bool.and_false, Bool.not_true, Bool.not_false, false_and, and_false, and_self, ob_4, rf_4_1, rf_4_2, rf_4_3, rf_4_5, rf_4_6, rf_4_7, rf_4_8, ib_11, rd_11, ob_12, rf_12_1, rf_12_2, rf_12_3, rf_12_5, rf_12_6, rf_12_7, rf_12_8, ib_19, rd_19, ob_60, rf_60_2, rf_60_3, rf_60_4, rf_60_5, rf_60_6, ib_61, rd_61, h1, hcn, hc6, hb, hd, h0, shl_nI, Nat.one_mul, wo_nI, hw64, ht, cJ9_max, cJ9_min, b4] <;> exact ih _ (by omega)
      · simp only [am_sn1, hd, h0, if_true, if_false] at ih
        rcases id hT with rfl | rfl <;> simp only [Nat.reduceAdd] at b4 <;> simp (disch := omega) only [e0_soonestOf, s0_soonestOf_0, s0_soonestOf_1, s0_soonestOf_2, s0_soonestOf_5, s0_soonestOf_6, s0_soonestOf_7, s0_soonestOf_9, s0_soonestOf_10, s0_soonestOf_14, s0_soonestOf_15, s0_soonestOf_18, s0_soonestOf_21, s0_soonestOf_22, s0_soonestOf_24, s0_soonestOf_25, s0_soonestOf_26, s0_soonestOf_27, s0_soonestOf_28, s0_soonestOf_31, s0_soonestOf_32, s0_soonestOf_33, s0_soonestOf_36, s0_soonestOf_37, s0_soonestOf_38, s0_soonestOf_40, s0_soonestOf_41, s0_soonestOf_42, s0_soonestOf_43, s0_soonestOf_44, s0_soonestOf_45, s0_soonestOf_48, s0_soonestOf_49, s0_soonestOf_52, s0_soonestOf_54, s0_soonestOf_55, s0_soonestOf_56, s0_soonestOf_58, s0_soonestOf_60, s0_soonestOf_63, s0_soonestOf_65, s0_soonestOf_68, s0_soonestOf_70, s0_soonestOf_72, s0_soonestOf_75, s0_soonestOf_77, s0_soonestOf_80, s0_soonestOf_83, s0_soonestOf_85, am_k1_int, am_k1_ref, am_k1_none, am_cats_nil, am_cats_int, am_cats_ref, am_cats_long, Option.toList_some, Option.toList_none, List.singleton_append, List.nil_append, List.cons_append, true_and, and_true, if_true, if_false, va_rf, ↓reduceIte, Nat.reduceAdd, Nat.reduceMul, Nat.reduceSub, Nat.reduceLT, Nat.reduceLeDiff, Nat.reduceEqDiff, Nat.zero_le, Nat.add_zero, Nat.le_refl, nI_add, mul_nI, lt_nI, le_nI, eq_nI, bnd_nI, ci_nI, decide_eq_true_eq, decide_true, decide_false, Bool.true_or, Bool.or_true, Bool.or_false, Bool.false_or, not_true_eq_false, not_false_eq_true, Bool.false_eq_true, Bool.false_and, Bool.true_and, Bool.and_true, Bool.and_false, Bool.not_true, Bool.not_false, false_and, and_false, and_self, ob_4, rf_4_1, rf_4_2, rf_4_3, rf_4_5, rf_4_6, rf_4_7, rf_4_8, ib_11, rd_11, ob_12, rf_12_1, rf_12_2, rf_12_3, rf_12_5, rf_12_6, rf_12_7, rf_12_8, ib_19, rd_19, ob_60, rf_60_2, rf_60_3, rf_60_4, rf_60_5, rf_60_6, ib_61, rd_61, h1, hcn, hc6, hb, hd, h0, shl_nI, Nat.one_mul, wo_nI, hw64, ht, cJ9_max, cJ9_min, b4] <;> exact ih _ (by omega)
theorem c0_soonestOfq {s : Nat} (hT : T = 4 ∨ T = 12) (hO : ar_told tn) (hA : ar_Tq T tn I) (h1 : I 60 1 = nI (tn 1)) (hs : s < 64) (htab : ∀ y, y < s → I 61 y = nI (am_soon tn y)) : am_call (d + 3) m0_soonestOf [.ref 60, .ref T, .int (nI s)] (am_sh n, I, J, am_Rf sw) Q ↔ Q (some (.int (nI (am_soon tn s)))) (am_sh n, I, J, am_Rf sw) := by
  have o2 := hO.2.1
  have hB : ∀ y, y < s → am_soon tn y ≤ 72 + 30 * (y + 1) := fun y hy => snT_le hO (y + 1) (by omega) y
  rw [soon_eq hO hs, ← l0_soonestOfq (d := d + 1) (n := n) (J := J) (sw := sw) (Q := Q) hT hO hA h1 hs htab hB (tn 1) 0 none (by omega)]
  simp (disch := omega) only [e0_soonestOf, s0_soonestOf_0, s0_soonestOf_1, s0_soonestOf_2, s0_soonestOf_5, s0_soonestOf_6, s0_soonestOf_7, s0_soonestOf_9, s0_soonestOf_10, s0_soonestOf_14, s0_soonestOf_15, s0_soonestOf_18, s0_soonestOf_21, s0_soonestOf_22, s0_soonestOf_24, s0_soonestOf_25, s0_soonestOf_26, s0_soonestOf_27, s0_soonestOf_28, s0_soonestOf_31, s0_soonestOf_32, s0_soonestOf_33, s0_soonestOf_36, s0_soonestOf_37, s0_soonestOf_38, s0_soonestOf_40, s0_soonestOf_41, s0_soonestOf_42, s0_soonestOf_43, s0_soonestOf_44, s0_soonestOf_45, s0_soonestOf_48, s0_soonestOf_49, s0_soonestOf_52, s0_soonestOf_54, s0_soonestOf_55, s0_soonestOf_56, s0_soonestOf_58, s0_soonestOf_60, s0_soonestOf_63, s0_soonestOf_65, s0_soonestOf_68, s0_soonestOf_70, s0_soonestOf_72, s0_soonestOf_75, s0_soonestOf_77, s0_soonestOf_80, s0_soonestOf_83, s0_soonestOf_85, am_k1_int, am_k1_ref, am_k1_none, am_cats_nil, am_cats_int, am_cats_ref, am_cats_long, Option.toList_some, Option.toList_none, List.singleton_append, List.nil_append, List.cons_append, true_and, and_true, if_true, if_false, va_rf, ↓reduceIte, Nat.reduceAdd, Nat.reduceMul, Nat.reduceSub, Nat.reduceLT, Nat.reduceLeDiff, Nat.reduceEqDiff, Nat.zero_le, Nat.add_zero, Nat.le_refl, nI_add, mul_nI, lt_nI, le_nI, eq_nI, bnd_nI, ci_nI, decide_eq_true_eq, decide_true, decide_false, Bool.true_or, Bool.or_true, Bool.or_false, Bool.false_or, not_true_eq_false, not_false_eq_true, Bool.false_eq_true, Bool.false_and, Bool.true_and, Bool.and_true, Bool.and_false, Bool.not_true, Bool.not_false, false_and, and_false, and_self, ob_T hT, c5_needsOfq hT o2 hA hs]
  rfl
end
section
variable {n d T : Nat} {tn : Nat → Nat} {I : Nat → Nat → Int32} {J : Nat → Nat → Int64} {sw : Bool} {Q : am_Post}
set_option maxHeartbeats 4000000 in
theorem l0_clothedByq {e : Nat} (hT : T = 4 ∨ T = 12) (hO : ar_told tn) (hA : ar_Tq T tn I) (h1 : I 60 1 = nI (tn 1)) (he : e < tn 0) (hso : ∀ s, s < 2 ^ tn 1 → I 61 s = nI (am_soon tn s)) : ∀ (r s : Nat) (l6 : Option Value), s + r = 2 ^ tn 1 → (am_wp (d + 2) m0_clothedBy 5 [some (.ref 60), some (.ref T), some (.int (nI e)), some (.long (lN (am_clo tn e s))), none, some (.int (nI s)), l6] [] (am_sh n, I, J, am_Rf sw) Q ↔ Q (some (.long (lN (am_clo tn e (2 ^ tn 1))))) (am_sh n, I, J, am_Rf sw))
  | 0, s, l6, hm => by
    have o2 := hO.2.1
    have p6 := (pow2_6 o2).1
    obtain rfl : s = 2 ^ tn 1 := by omega
    simp (disch := omega) only [e0_clothedBy, s0_clothedBy_0, s0_clothedBy_1, s0_clothedBy_2, s0_clothedBy_3, s0_clothedBy_5, s0_clothedBy_7, s0_clothedBy_8, s0_clothedBy_9, s0_clothedBy_12, s0_clothedBy_13, s0_clothedBy_16, s0_clothedBy_17, s0_clothedBy_19, s0_clothedBy_22, s0_clothedBy_24, s0_clothedBy_25, s0_clothedBy_26, s0_clothedBy_28, s0_clothedBy_31, s0_clothedBy_34, s0_clothedBy_36, s0_clothedBy_37, s0_clothedBy_40, s0_clothedBy_41, s0_clothedBy_42, s0_clothedBy_45, s0_clothedBy_47, s0_clothedBy_48, s0_clothedBy_51, s0_clothedBy_52, s0_clothedBy_53, s0_clothedBy_56, s0_clothedBy_57, s0_clothedBy_60, s0_clothedBy_62, s0_clothedBy_63, s0_clothedBy_64, s0_clothedBy_67, s0_clothedBy_70, s0_clothedBy_71, s0_clothedBy_72, s0_clothedBy_74, s0_clothedBy_75, s0_clothedBy_76, s0_clothedBy_77, s0_clothedBy_80, s0_clothedBy_83, s0_clothedBy_84, am_k1_int, am_k1_ref, am_k1_none, am_cats_nil, am_cats_int, am_cats_ref, am_cats_long, Option.toList_some, Option.toList_none, List.singleton_append, List.nil_append, List.cons_append, true_and, and_true, if_true, if_false, va_rf, ↓reduceIte, Nat.reduceAdd, Nat.reduceMul, Nat.reduceSub, Nat.reduceLT, Nat.reduceLeDiff, Nat.reduceEqDiff, Nat.zero_le, Nat.add_zero, Nat.le_refl, nI_add, mul_nI, lt_nI, le_nI, eq_nI, bnd_nI, ci_nI, decide_eq_true_eq, decide_true, decide_false, Bool.true_or, Bool.or_true, Bool.or_false, Bool.false_or, not_true_eq_false, not_false_eq_true, Bool.false_eq_true, Bool.false_and, Bool.true_and, Bool.and_true, Bool.and_false, Bool.not_true, Bool.not_false, false_and, and_false, and_self, ob_60, rf_60_2, rf_60_3, rf_60_4, rf_60_5, rf_60_6, h1, shl_nI, Nat.one_mul, Nat.lt_irrefl]
  | r + 1, s, l6, hm => by
    have o1 := hO.1
    have o2 := hO.2.1
    have p6 := (pow2_6 o2).1
    have hs : s < 64 := by omega
    have he4 : e < 4 := by omega
    have ih := l0_clothedByq hT hO hA h1 he hso r (s + 1) (some (.int (nI (am_sm (fun c => tn (24 + c)) s (tn 1))))) (by omega)
    have h2 : ¬ 2 ^ tn 1 ≤ s := by omega
    have hcu := need_le hO s
    obtain ⟨b1, -, b3⟩ := hA.2.2.2.2.2.1 e he
    have b9 := hA.2.2.2.1
    have v6 := hO.2.2.2.2.1 e he4
    have v2 := hO.2.2.1
    have hsv := hso s (by omega)
    have hsl := soon_le hO hs
    have hor := or_add (clo_lt (tn := tn) (e := e) s)
    have hsf := fun Q => c5_suitsAllq (d := d) (n := n) (J := J) (sw := sw) (Q := Q) hT hO hA hs he
    have hcan : am_can tn e s = (am_suA tn e s (tn 1) && (decide (am_sm (fun c => tn (24 + c)) s (tn 1) ≤ tn (6 + e)) && (decide (am_sm (fun c => tn (24 + c)) s (tn 1) ≤ tn (14 + e)) && decide (am_soon tn s ≤ tn 2)))) := rfl
    have eT : am_can tn e s = true → am_clo tn e (s + 1) = am_clo tn e s + 2 ^ s := by
      intro h
      show am_clo tn e s + (if am_can tn e s = true then 2 ^ s else 0) = _
      rw [if_pos h]
    have eF : am_can tn e s = false → am_clo tn e (s + 1) = am_clo tn e s := by
      intro h
      show am_clo tn e s + (if am_can tn e s = true then 2 ^ s else 0) = _
      rw [if_neg (by rw [h]; decide), Nat.add_zero]
    rw [s0_clothedBy_5]
    cases hd : am_suA tn e s (tn 1) with
    | false =>
      rw [hd] at hcan hsf
      rw [eF hcan] at ih
      rw [← ih]
      simp (disch := omega) only [e0_clothedBy, s0_clothedBy_0, s0_clothedBy_1, s0_clothedBy_2, s0_clothedBy_3, s0_clothedBy_7, s0_clothedBy_8, s0_clothedBy_9, s0_clothedBy_12, s0_clothedBy_13, s0_clothedBy_16, s0_clothedBy_17, s0_clothedBy_19, s0_clothedBy_22, s0_clothedBy_24, s0_clothedBy_25, s0_clothedBy_26, s0_clothedBy_28, s0_clothedBy_31, s0_clothedBy_34, s0_clothedBy_36, s0_clothedBy_37, s0_clothedBy_40, s0_clothedBy_41, s0_clothedBy_42, s0_clothedBy_45, s0_clothedBy_47, s0_clothedBy_48, s0_clothedBy_51, s0_clothedBy_52, s0_clothedBy_53, s0_clothedBy_56, s0_clothedBy_57, s0_clothedBy_60, s0_clothedBy_62, s0_clothedBy_63, s0_clothedBy_64, s0_clothedBy_67, s0_clothedBy_70, s0_clothedBy_71, s0_clothedBy_72, s0_clothedBy_74, s0_clothedBy_75, s0_clothedBy_76, s0_clothedBy_77, s0_clothedBy_80, s0_clothedBy_83, s0_clothedBy_84, am_k1_int, am_k1_ref, am_k1_none, am_cats_nil, am_cats_int, am_cats_ref, am_cats_long, Option.toList_some, Option.toList_none, List.singleton_append, List.nil_append, List.cons_append, true_and, and_true, if_true, if_false, va_rf, ↓reduceIte, Nat.reduceAdd, Nat.reduceMul, Nat.reduceSub, Nat.reduceLT, Nat.reduceLeDiff, Nat.reduceEqDiff, Nat.zero_le, Nat.add_zero, Nat.le_refl, nI_add, mul_nI, lt_nI, le_nI, eq_nI, bnd_nI, ci_nI, decide_eq_true_eq, decide_true, decide_false, Bool.true_or, Bool.or_true, Bool.or_false, Bool.false_or, not_true_eq_false, not_false_eq_true, Bool.false_eq_true, Bool.false_and, Bool.true_and, Bool.and_true, Bool.and_false, Bool.not_true, Bool.not_false, false_and, and_false, and_self, ob_60, rf_60_2, rf_60_3, rf_60_4, rf_60_5, rf_60_6, ob_T hT, h1, h2, shl_nI, Nat.one_mul, c5_needsOfq hT o2 hA hs, hsf, bi_f, ite_bi2]
    | true =>
    rw [hd] at hcan hsf
    by_cases g1 : am_sm (fun c => tn (24 + c)) s (tn 1) ≤ tn (6 + e)
    case neg =>
      have g1' : tn (6 + e) < am_sm (fun c => tn (24 + c)) s (tn 1) := by omega
      simp only [g1, decide_false, Bool.false_and, Bool.and_false] at hcan
      rw [eF hcan] at ih
      rw [← ih]
      rcases id hT with rfl | rfl <;> simp only [Nat.reduceAdd] at b1 <;> simp (disch := omega) only [e0_clothedBy, s0_clothedBy_0, s0_clothedBy_1, s0_clothedBy_2, s0_clothedBy_3, s0_clothedBy_7, s0_clothedBy_8, s0_clothedBy_9, s0_clothedBy_12, s0_clothedBy_13, s0_clothedBy_16, s0_clothedBy_17, s0_clothedBy_19, s0_clothedBy_22, s0_clothedBy_24, s0_clothedBy_25, s0_clothedBy_26, s0_clothedBy_28, s0_clothedBy_31, s0_clothedBy_34, s0_clothedBy_36, s0_clothedBy_37, s0_clothedBy_40, s0_clothedBy_41, s0_clothedBy_42, s0_clothedBy_45, s0_clothedBy_47, s0_clothedBy_48, s0_clothedBy_51, s0_clothedBy_52, s0_clothedBy_53, s0_clothedBy_56, s0_clothedBy_57, s0_clothedBy_60, s0_clothedBy_62, s0_clothedBy_63, s0_clothedBy_64, s0_clothedBy_67, s0_clothedBy_70, s0_clothedBy_71, s0_clothedBy_72, s0_clothedBy_74, s0_clothedBy_75, s0_clothedBy_76, s0_clothedBy_77, s0_clothedBy_80, s0_clothedBy_83, s0_clothedBy_84, am_k1_int, am_k1_ref, am_k1_none, am_cats_nil, am_cats_int, am_cats_ref, am_cats_long, Option.toList_some, Option.toList_none, List.singleton_append, List.nil_append, List.cons_append, true_and, and_true, if_true, if_false, va_rf, ↓reduceIte, Nat.reduceAdd, Nat.reduceMul, Nat.reduceSub, Nat.reduceLT, Nat.reduceLeDiff, Nat.reduceEqDiff, Nat.zero_le, Nat.add_zero, Nat.le_refl, nI_add, mul_nI, lt_nI, le_nI, eq_nI, bnd_nI, ci_nI, decide_eq_true_eq, decide_true, decide_false, Bool.true_or, Bool.or_true, Bool.or_false, Bool.false_or, not_true_eq_false, not_false_eq_true, Bool.false_eq_true, Bool.false_and, Bool.true_and, Bool.and_true, Bool.and_false, Bool.not_true, Bool.not_false, false_and, and_false, and_self, ob_4, rf_4_1, rf_4_2, rf_4_3, rf_4_5, rf_4_6, rf_4_7, rf_4_8, ib_5, rd_5, ob_12, rf_12_1, rf_12_2, rf_12_3, rf_12_5, rf_12_6, rf_12_7, rf_12_8, ib_13, rd_13, ob_60, rf_60_2, rf_60_3, rf_60_4, rf_60_5, rf_60_6, h1, h2, he4, shl_nI, Nat.one_mul, c5_needsOfq hT o2 hA hs, hsf, bi_t, ite_bi2, b1, g1']
    have g1' : ¬ tn (6 + e) < am_sm (fun c => tn (24 + c)) s (tn 1) := by omega
    by_cases g2 : am_sm (fun c => tn (24 + c)) s (tn 1) ≤ tn (14 + e)
    case neg =>
      have g2' : tn (14 + e) < am_sm (fun c => tn (24 + c)) s (tn 1) := by omega
      simp only [g2, decide_false, Bool.false_and, Bool.and_false] at hcan
      rw [eF hcan] at ih
      rw [← ih]
      rcases id hT with rfl | rfl <;> simp only [Nat.reduceAdd] at b1 b3 <;> simp (disch := omega) only [e0_clothedBy, s0_clothedBy_0, s0_clothedBy_1, s0_clothedBy_2, s0_clothedBy_3, s0_clothedBy_7, s0_clothedBy_8, s0_clothedBy_9, s0_clothedBy_12, s0_clothedBy_13, s0_clothedBy_16, s0_clothedBy_17, s0_clothedBy_19, s0_clothedBy_22, s0_clothedBy_24, s0_clothedBy_25, s0_clothedBy_26, s0_clothedBy_28, s0_clothedBy_31, s0_clothedBy_34, s0_clothedBy_36, s0_clothedBy_37, s0_clothedBy_40, s0_clothedBy_41, s0_clothedBy_42, s0_clothedBy_45, s0_clothedBy_47, s0_clothedBy_48, s0_clothedBy_51, s0_clothedBy_52, s0_clothedBy_53, s0_clothedBy_56, s0_clothedBy_57, s0_clothedBy_60, s0_clothedBy_62, s0_clothedBy_63, s0_clothedBy_64, s0_clothedBy_67, s0_clothedBy_70, s0_clothedBy_71, s0_clothedBy_72, s0_clothedBy_74, s0_clothedBy_75, s0_clothedBy_76, s0_clothedBy_77, s0_clothedBy_80, s0_clothedBy_83, s0_clothedBy_84, am_k1_int, am_k1_ref, am_k1_none, am_cats_nil, am_cats_int, am_cats_ref, am_cats_long, Option.toList_some, Option.toList_none, List.singleton_append, List.nil_append, List.cons_append, true_and, and_true, if_true, if_false, va_rf, ↓reduceIte, Nat.reduceAdd, Nat.reduceMul, Nat.reduceSub, Nat.reduceLT, Nat.reduceLeDiff, Nat.reduceEqDiff, Nat.zero_le, Nat.add_zero, Nat.le_refl, nI_add, mul_nI, lt_nI, le_nI, eq_nI, bnd_nI, ci_nI, decide_eq_true_eq, decide_true, decide_false, Bool.true_or, Bool.or_true, Bool.or_false, Bool.false_or, not_true_eq_false, not_false_eq_true, Bool.false_eq_true, Bool.false_and, Bool.true_and, Bool.and_true, Bool.and_false, Bool.not_true, Bool.not_false, false_and, and_false, and_self, ob_4, rf_4_1, rf_4_2, rf_4_3, rf_4_5, rf_4_6, rf_4_7, rf_4_8, ib_5, rd_5, ib_7, rd_7, ob_12, rf_12_1, rf_12_2, rf_12_3, rf_12_5, rf_12_6, rf_12_7, rf_12_8, ib_13, rd_13, ib_15, rd_15, ob_60, rf_60_2, rf_60_3, rf_60_4, rf_60_5, rf_60_6, h1, h2, he4, shl_nI, Nat.one_mul, c5_needsOfq hT o2 hA hs, hsf, bi_t, ite_bi2, b1, b3, g1', g2']
    have g2' : ¬ tn (14 + e) < am_sm (fun c => tn (24 + c)) s (tn 1) := by omega
    by_cases g3 : am_soon tn s ≤ tn 2
    case neg =>
      have g3' : tn 2 < am_soon tn s := by omega
      simp only [g3, decide_false, Bool.false_and, Bool.and_false] at hcan
      rw [eF hcan] at ih
      rw [← ih]
      rcases id hT with rfl | rfl <;> simp only [Nat.reduceAdd] at b1 b3 <;> simp (disch := omega) only [e0_clothedBy, s0_clothedBy_0, s0_clothedBy_1, s0_clothedBy_2, s0_clothedBy_3, s0_clothedBy_7, s0_clothedBy_8, s0_clothedBy_9, s0_clothedBy_12, s0_clothedBy_13, s0_clothedBy_16, s0_clothedBy_17, s0_clothedBy_19, s0_clothedBy_22, s0_clothedBy_24, s0_clothedBy_25, s0_clothedBy_26, s0_clothedBy_28, s0_clothedBy_31, s0_clothedBy_34, s0_clothedBy_36, s0_clothedBy_37, s0_clothedBy_40, s0_clothedBy_41, s0_clothedBy_42, s0_clothedBy_45, s0_clothedBy_47, s0_clothedBy_48, s0_clothedBy_51, s0_clothedBy_52, s0_clothedBy_53, s0_clothedBy_56, s0_clothedBy_57, s0_clothedBy_60, s0_clothedBy_62, s0_clothedBy_63, s0_clothedBy_64, s0_clothedBy_67, s0_clothedBy_70, s0_clothedBy_71, s0_clothedBy_72, s0_clothedBy_74, s0_clothedBy_75, s0_clothedBy_76, s0_clothedBy_77, s0_clothedBy_80, s0_clothedBy_83, s0_clothedBy_84, am_k1_int, am_k1_ref, am_k1_none, am_cats_nil, am_cats_int, am_cats_ref, am_cats_long, Option.toList_some, Option.toList_none, List.singleton_append, List.nil_append, List.cons_append, true_and, and_true, if_true, if_false, va_rf, ↓reduceIte, Nat.reduceAdd, Nat.reduceMul, Nat.reduceSub, Nat.reduceLT, Nat.reduceLeDiff, Nat.reduceEqDiff, Nat.zero_le, Nat.add_zero, Nat.le_refl, nI_add, mul_nI, lt_nI, le_nI, eq_nI, bnd_nI, ci_nI, decide_eq_true_eq, decide_true, decide_false, Bool.true_or, Bool.or_true, Bool.or_false, Bool.false_or, not_true_eq_false, not_false_eq_true, Bool.false_eq_true, Bool.false_and, Bool.true_and, Bool.and_true, Bool.and_false, Bool.not_true, Bool.not_false, false_and, and_false, and_self, ob_4, rf_4_1, rf_4_2, rf_4_3, rf_4_5, rf_4_6, rf_4_7, rf_4_8, ib_5, rd_5, ib_7, rd_7, ob_12, rf_12_1, rf_12_2, rf_12_3, rf_12_5, rf_12_6, rf_12_7, rf_12_8, ib_13, rd_13, ib_15, rd_15, ob_60, rf_60_2, rf_60_3, rf_60_4, rf_60_5, rf_60_6, ib_61, rd_61, h1, h2, hs, he4, shl_nI, Nat.one_mul, c5_needsOfq hT o2 hA hs, hsf, bi_t, ite_bi2, b1, b3, b9, hsv, g1', g2', g3']
    have g3' : ¬ tn 2 < am_soon tn s := by omega
    simp only [g1, g2, g3, decide_true, Bool.and_self] at hcan
    rw [eT hcan] at ih
    rw [← ih]
    rcases id hT with rfl | rfl <;> simp only [Nat.reduceAdd] at b1 b3 <;> simp (disch := omega) only [e0_clothedBy, s0_clothedBy_0, s0_clothedBy_1, s0_clothedBy_2, s0_clothedBy_3, s0_clothedBy_7, s0_clothedBy_8, s0_clothedBy_9, s0_clothedBy_12, s0_clothedBy_13, s0_clothedBy_16, s0_clothedBy_17, s0_clothedBy_19, s0_clothedBy_22, s0_clothedBy_24, s0_clothedBy_25, s0_clothedBy_26, s0_clothedBy_28, s0_clothedBy_31, s0_clothedBy_34, s0_clothedBy_36, s0_clothedBy_37, s0_clothedBy_40, s0_clothedBy_41, s0_clothedBy_42, s0_clothedBy_45, s0_clothedBy_47, s0_clothedBy_48, s0_clothedBy_51, s0_clothedBy_52, s0_clothedBy_53, s0_clothedBy_56, s0_clothedBy_57, s0_clothedBy_60, s0_clothedBy_62, s0_clothedBy_63, s0_clothedBy_64, s0_clothedBy_67, s0_clothedBy_70, s0_clothedBy_71, s0_clothedBy_72, s0_clothedBy_74, s0_clothedBy_75, s0_clothedBy_76, s0_clothedBy_77, s0_clothedBy_80, s0_clothedBy_83, s0_clothedBy_84, am_k1_int, am_k1_ref, am_k1_none, am_cats_nil, am_cats_int, am_cats_ref, am_cats_long, Option.toList_some, Option.toList_none, List.singleton_append, List.nil_append, List.cons_append, true_and, and_true, if_true, if_false, va_rf, ↓reduceIte, Nat.reduceAdd, Nat.reduceMul, Nat.reduceSub, Nat.reduceLT, Nat.reduceLeDiff, Nat.reduceEqDiff, Nat.zero_le, Nat.add_zero, Nat.le_refl, nI_add, mul_nI, lt_nI, le_nI, eq_nI, bnd_nI, ci_nI, decide_eq_true_eq, decide_true, decide_false, Bool.true_or, Bool.or_true, Bool.or_false, Bool.false_or, not_true_eq_false, not_false_eq_true, Bool.false_eq_true, Bool.false_and, Bool.true_and, Bool.and_true, Bool.and_false, Bool.not_true, Bool.not_false, false_and, and_false, and_self, ob_4, rf_4_1, rf_4_2, rf_4_3, rf_4_5, rf_4_6, rf_4_7, rf_4_8, ib_5, rd_5, ib_7, rd_7, ob_12, rf_12_1, rf_12_2, rf_12_3, rf_12_5, rf_12_6, rf_12_7, rf_12_8, ib_13, rd_13, ib_15, rd_15, ob_60, rf_60_2, rf_60_3, rf_60_4, rf_60_5, rf_60_6, ib_61, rd_61, h1, h2, hs, he4, shl_nI, Nat.one_mul, c5_needsOfq hT o2 hA hs, hsf, bi_t, ite_bi2, b1, b3, b9, hsv, g1', g2', g3', lshl, lor_lN, hor]
theorem c0_clothedByq {e : Nat} (hT : T = 4 ∨ T = 12) (hO : ar_told tn) (hA : ar_Tq T tn I) (h1 : I 60 1 = nI (tn 1)) (he : e < tn 0) (hso : ∀ s, s < 2 ^ tn 1 → I 61 s = nI (am_soon tn s)) : am_call (d + 3) m0_clothedBy [.ref 60, .ref T, .int (nI e)] (am_sh n, I, J, am_Rf sw) Q ↔ Q (some (.long (lN (am_clo tn e (2 ^ tn 1))))) (am_sh n, I, J, am_Rf sw) := by
  rw [← l0_clothedByq (d := d) (n := n) (J := J) (sw := sw) (Q := Q) hT hO hA h1 he hso (2 ^ tn 1) 0 none (by omega)]
  simp (disch := omega) only [e0_clothedBy, s0_clothedBy_0, s0_clothedBy_1, s0_clothedBy_2, s0_clothedBy_3, s0_clothedBy_7, s0_clothedBy_8, s0_clothedBy_9, s0_clothedBy_12, s0_clothedBy_13, s0_clothedBy_16, s0_clothedBy_17, s0_clothedBy_19, s0_clothedBy_22, s0_clothedBy_24, s0_clothedBy_25, s0_clothedBy_26, s0_clothedBy_28, s0_clothedBy_31, s0_clothedBy_34, s0_clothedBy_36, s0_clothedBy_37, s0_clothedBy_40, s0_clothedBy_41, s0_clothedBy_42, s0_clothedBy_45, s0_clothedBy_47, s0_clothedBy_48, s0_clothedBy_51, s0_clothedBy_52, s0_clothedBy_53, s0_clothedBy_56, s0_clothedBy_57, s0_clothedBy_60, s0_clothedBy_62, s0_clothedBy_63, s0_clothedBy_64, s0_clothedBy_67, s0_clothedBy_70, s0_clothedBy_71, s0_clothedBy_72, s0_clothedBy_74, s0_clothedBy_75, s0_clothedBy_76, s0_clothedBy_77, s0_clothedBy_80, s0_clothedBy_83, s0_clothedBy_84, am_k1_int, am_k1_ref, am_k1_none, am_cats_nil, am_cats_int, am_cats_ref, am_cats_long, Option.toList_some, Option.toList_none, List.singleton_append, List.nil_append, List.cons_append, true_and, and_true, if_true, if_false, va_rf, ↓reduceIte, Nat.reduceAdd, Nat.reduceMul, Nat.reduceSub, Nat.reduceLT, Nat.reduceLeDiff, Nat.reduceEqDiff, Nat.zero_le, Nat.add_zero, Nat.le_refl, nI_add, mul_nI, lt_nI, le_nI, eq_nI, bnd_nI, ci_nI, decide_eq_true_eq, decide_true, decide_false, Bool.true_or, Bool.or_true, Bool.or_false, Bool.false_or, not_true_eq_false, not_false_eq_true, Bool.false_eq_true, Bool.false_and, Bool.true_and, Bool.and_true, Bool.and_false, Bool.not_true, Bool.not_false, false_and, and_false, and_self]
  rfl
end
section
variable {n d T : Nat} {tn : Nat → Nat} {I0 : Nat → Nat → Int32} {J : Nat → Nat → Int64} {sw : Bool} {Q : am_Post}
theorem l0_reckon1q (hT : T = 4 ∨ T = 12) (hO : ar_told tn) (hA : ar_Tq T tn I0) (hq : ∀ I, ar_R1 tn I0 I (2 ^ tn 1) → am_wp (d + 3) m0_reckon 58 [some (.ref 60), some (.ref T), some (.int (nI (2 ^ tn 1))), none] [] (am_sh n, I, J, am_Rf sw) Q) : ∀ (r s : Nat) (I : Nat → Nat → Int32), s + r = 2 ^ tn 1 → ar_R1 tn I0 I s → am_wp (d + 3) m0_reckon 18 [some (.ref 60), some (.ref T), some (.int (nI s)), none] [] (am_sh n, I, J, am_Rf sw) Q
  | 0, s, I, hm, hR => by
    have p6 := (pow2_6 hO.2.1).1
    have o2 := hO.2.1
    obtain rfl : s = 2 ^ tn 1 := by omega
    have h1 := hR.2.2.1
    rw [s0_reckon_18]
    simp (disch := omega) only [s0_reckon_19, s0_reckon_20, s0_reckon_21, s0_reckon_24, s0_reckon_25, am_k1_int, am_k1_ref, am_k1_none, am_cats_nil, am_cats_int, am_cats_ref, am_cats_long, Option.toList_some, Option.toList_none, List.singleton_append, List.nil_append, List.cons_append, true_and, and_true, if_true, if_false, va_rf, ↓reduceIte, Nat.reduceAdd, Nat.reduceMul, Nat.reduceSub, Nat.reduceLT, Nat.reduceLeDiff, Nat.reduceEqDiff, Nat.zero_le, Nat.add_zero, Nat.le_refl, nI_add, mul_nI, lt_nI, le_nI, eq_nI, bnd_nI, ci_nI, decide_eq_true_eq, decide_true, decide_false, Bool.true_or, Bool.or_true, Bool.or_false, Bool.false_or, not_true_eq_false, not_false_eq_true, Bool.false_eq_true, Bool.false_and, Bool.true_and, Bool.and_true, Bool.and_false, Bool.not_true, Bool.not_false, false_and, and_false, and_self, ob_60, rf_60_2, rf_60_3, rf_60_4, rf_60_5, rf_60_6, h1, shl_nI, Nat.one_mul]
    exact hq I hR
  | r + 1, s, I, hm, hR => by
    have p6 := (pow2_6 hO.2.1).1
    have o1 := hO.1
    have o2 := hO.2.1
    obtain ⟨g1, g2, g3, g4, g5⟩ := id hR
    have h2 : ¬ 2 ^ tn 1 ≤ s := by omega
    have hs : s < 64 := by omega
    have hA2 := told_frq hT g1 hA
    have n5 : tn 0 < 5 := by omega
    obtain ⟨r1, r2, r3⟩ := rf_63 n5 sw n
    have z1 : (0 : Nat) < 61 := by decide
    have z2 : (0 : Nat) < 64 + tn 0 := by omega
    have hne : 64 + tn 0 ≠ 61 := by omega
    rw [s0_reckon_18]
    simp (disch := omega) only [s0_reckon_19, s0_reckon_20, s0_reckon_21, s0_reckon_24, s0_reckon_25, s0_reckon_28, s0_reckon_29, s0_reckon_32, s0_reckon_33, s0_reckon_34, s0_reckon_35, s0_reckon_36, s0_reckon_39, s0_reckon_40, s0_reckon_41, s0_reckon_44, s0_reckon_45, s0_reckon_48, s0_reckon_49, s0_reckon_50, s0_reckon_51, s0_reckon_52, s0_reckon_55, am_k1_int, am_k1_ref, am_k1_none, am_cats_nil, am_cats_int, am_cats_ref, am_cats_long, Option.toList_some, Option.toList_none, List.singleton_append, List.nil_append, List.cons_append, true_and, and_true, if_true, if_false, va_rf, ↓reduceIte, Nat.reduceAdd, Nat.reduceMul, Nat.reduceSub, Nat.reduceLT, Nat.reduceLeDiff, Nat.reduceEqDiff, Nat.zero_le, Nat.add_zero, Nat.le_refl, nI_add, mul_nI, lt_nI, le_nI, eq_nI, bnd_nI, ci_nI, decide_eq_true_eq, decide_true, decide_false, Bool.true_or, Bool.or_true, Bool.or_false, Bool.false_or, not_true_eq_false, not_false_eq_true, Bool.false_eq_true, Bool.false_and, Bool.true_and, Bool.and_true, Bool.and_false, Bool.not_true, Bool.not_false, false_and, and_false, and_self, ob_60, rf_60_2, rf_60_3, rf_60_4, rf_60_5, rf_60_6, ib_61, rd_61, ib_63, ix_63, rf_63_0, rf_63_1, rf_63_2, rf_63_3, rf_63_4, g2, g3, h2, hs, n5, shl_nI, Nat.one_mul, c0_soonestOfq hT hO hA2 g3 hs g4, up_n, r1, r3, z1, z2]
    refine l0_reckon1q hT hO hA hq r (s + 1) _ (by omega) ⟨fun a ha => ?_, ?_, ?_, fun y hy => ?_, fun y hy => ?_⟩
    · rw [am_up_ne (by omega), am_up_ne (by omega)]
      exact g1 a ha
    · rw [up_n (by omega), up_n (by omega)]; exact g2
    · rw [up_n (by omega), up_n (by omega)]; exact g3
    · rw [up_n (by omega)]
      by_cases hy2 : y = s
      · subst hy2; rw [up_s]
      · rw [up_n (by omega)]; exact g4 y (by omega)
    · by_cases hy2 : y = s
      · subst hy2; rw [up_s]
      · rw [up_n (by omega), up_n (by omega)]; exact g5 y (by omega)
end
section
variable {n d T : Nat} {tn : Nat → Nat} {I0 : Nat → Nat → Int32} {J0 : Nat → Nat → Int64} {sw : Bool} {Q : am_Post}
theorem l0_reckon2q (hT : T = 4 ∨ T = 12) (hO : ar_told tn) (hA : ar_Tq T tn I0) (hq : ∀ I J, ar_R2 tn I0 I J0 J 0 → Q none (am_sh n, I, J, am_Rf sw)) : ∀ (k : Nat) (I : Nat → Nat → Int32) (J : Nat → Nat → Int64) (l3 : Option Value), k ≤ tn 0 → ar_R2 tn I0 I J0 J k → am_wp (d + 3) m0_reckon 65 [some (.ref 60), some (.ref T), some (.int (nI k - nI 1)), l3] [] (am_sh n, I, J, am_Rf sw) Q
  | 0, I, J, l3, hk, hR => by
    have hn : nI 0 - nI 1 < nI 0 := by decide
    rw [s0_reckon_65]
    simp (disch := omega) only [s0_reckon_66, s0_reckon_119, am_k1_int, am_k1_ref, am_k1_none, am_cats_nil, am_cats_int, am_cats_ref, am_cats_long, Option.toList_some, Option.toList_none, List.singleton_append, List.nil_append, List.cons_append, true_and, and_true, if_true, if_false, va_rf, ↓reduceIte, Nat.reduceAdd, Nat.reduceMul, Nat.reduceSub, Nat.reduceLT, Nat.reduceLeDiff, Nat.reduceEqDiff, Nat.zero_le, Nat.add_zero, Nat.le_refl, nI_add, mul_nI, lt_nI, le_nI, eq_nI, bnd_nI, ci_nI, decide_eq_true_eq, decide_true, decide_false, Bool.true_or, Bool.or_true, Bool.or_false, Bool.false_or, not_true_eq_false, not_false_eq_true, Bool.false_eq_true, Bool.false_and, Bool.true_and, Bool.and_true, Bool.and_false, Bool.not_true, Bool.not_false, false_and, and_false, and_self, hn]
    exact hq I J hR
  | k + 1, I, J, l3, hk, hR => by
    have o1 := hO.1
    have p6 := (pow2_6 hO.2.1).1
    obtain ⟨g1, g2, g3, g4, g5, g6, g7⟩ := id hR
    have hA2 := told_frq hT g1 hA
    have e1 : nI (k + 1) - nI 1 = nI k := by rw [sub_nI (by omega), Nat.add_sub_cancel]
    have hk4 : k < 4 := by omega
    have z2 : (0 : Nat) < 62 := by decide
    have hk0 : ¬ k < 0 := by omega
    rw [s0_reckon_65, e1]
    simp (disch := omega) only [s0_reckon_66, s0_reckon_69, s0_reckon_70, s0_reckon_73, s0_reckon_74, s0_reckon_75, s0_reckon_76, s0_reckon_77, s0_reckon_80, s0_reckon_81, s0_reckon_82, am_k1_int, am_k1_ref, am_k1_none, am_cats_nil, am_cats_int, am_cats_ref, am_cats_long, Option.toList_some, Option.toList_none, List.singleton_append, List.nil_append, List.cons_append, true_and, and_true, if_true, if_false, va_rf, ↓reduceIte, Nat.reduceAdd, Nat.reduceMul, Nat.reduceSub, Nat.reduceLT, Nat.reduceLeDiff, Nat.reduceEqDiff, Nat.zero_le, Nat.add_zero, Nat.le_refl, nI_add, mul_nI, lt_nI, le_nI, eq_nI, bnd_nI, ci_nI, decide_eq_true_eq, decide_true, decide_false, Bool.true_or, Bool.or_true, Bool.or_false, Bool.false_or, not_true_eq_false, not_false_eq_true, Bool.false_eq_true, Bool.false_and, Bool.true_and, Bool.and_true, Bool.and_false, Bool.not_true, Bool.not_false, false_and, and_false, and_self, ob_60, rf_60_2, rf_60_3, rf_60_4, rf_60_5, rf_60_6, ib_62, hk0, hk4, z2, c0_clothedByq hT hO hA2 g3 (show k < tn 0 by omega) g4]
    refine l0_reckon3 (I0 := I0) (J0 := J0) (e := k) hO (by omega) (fun I' l3' hR' => ?_) (2 ^ tn 1) 0 I (by omega) ⟨⟨g1, g2, g3, g4, fun a ha => ?_, fun e' h1 h2 => ?_, g7⟩, ?_, (fun y hy => absurd hy (by omega))⟩
    · obtain ⟨⟨q1, q2, q3, q4, q5, q6, q7⟩, qJ, q8⟩ := hR'
      rw [s0_reckon_113]
      simp (disch := omega) only [s0_reckon_116, am_k1_int, am_k1_ref, am_k1_none, am_cats_nil, am_cats_int, am_cats_ref, am_cats_long, Option.toList_some, Option.toList_none, List.singleton_append, List.nil_append, List.cons_append, true_and, and_true, if_true, if_false, va_rf, m1_sub]
      refine l0_reckon2q hT hO hA hq k I' _ _ (by omega) ⟨q1, q2, q3, q4, q5, fun e' h1 h2 => ?_, fun e' h1 h2 y hy => ?_⟩
      · by_cases h3 : e' = k
        · subst h3; exact qJ
        · exact q6 e' (by omega) h2
      · by_cases h3 : e' = k
        · subst h3; exact q8 y hy
        · exact q7 e' (by omega) h2 y hy
    · rw [am_up_ne ha]; exact g5 a ha
    · rw [up_n (by omega)]; exact g6 e' (by omega) h2
    · rw [up_s]
theorem c0_reckonq {I : Nat → Nat → Int32} {J : Nat → Nat → Int64} (hT : T = 4 ∨ T = 12) (hO : ar_told tn) (hA : ar_Tq T tn I) (hq : ∀ I' J', (∀ a, a < 60 ∨ 68 < a → I' a = I a) → (∀ a, a ≠ 62 → J' a = J a) → ar_C tn I' J' → Q none (am_sh n, I', J', am_Rf sw)) : am_call (d + 4) m0_reckon [.ref 60, .ref T] (am_sh n, I, J, am_Rf sw) Q := by
  obtain ⟨a1, a2, a3, -⟩ := id hA
  have z : (0 : Nat) < 60 := by decide
  have hT4 : T ≠ 60 := by omega
  rw [e0_reckon]
  simp (disch := omega) only [s0_reckon_0, s0_reckon_1, s0_reckon_2, s0_reckon_5, s0_reckon_8, s0_reckon_9, s0_reckon_10, s0_reckon_13, s0_reckon_16, s0_reckon_17, am_k1_int, am_k1_ref, am_k1_none, am_cats_nil, am_cats_int, am_cats_ref, am_cats_long, Option.toList_some, Option.toList_none, List.singleton_append, List.nil_append, List.cons_append, true_and, and_true, if_true, if_false, va_rf, ↓reduceIte, Nat.reduceAdd, Nat.reduceMul, Nat.reduceSub, Nat.reduceLT, Nat.reduceLeDiff, Nat.reduceEqDiff, Nat.zero_le, Nat.add_zero, Nat.le_refl, nI_add, mul_nI, lt_nI, le_nI, eq_nI, bnd_nI, ci_nI, decide_eq_true_eq, decide_true, decide_false, Bool.true_or, Bool.or_true, Bool.or_false, Bool.false_or, not_true_eq_false, not_false_eq_true, Bool.false_eq_true, Bool.false_and, Bool.true_and, Bool.and_true, Bool.and_false, Bool.not_true, Bool.not_false, false_and, and_false, and_self, ob_60, rf_60_2, rf_60_3, rf_60_4, rf_60_5, rf_60_6, ob_T hT, a2, a3, up_n, z, Value.category]
  refine l0_reckon1q (I0 := I) hT hO hA (fun I1 hR => ?_) (2 ^ tn 1) 0 _ (by omega) ⟨fun a ha => ?_, ?_, ?_, (fun y hy => absurd hy (by omega)), (fun y hy => absurd hy (by omega))⟩
  · obtain ⟨g1, g2, g3, g4, g5⟩ := hR
    rw [s0_reckon_58]
    simp (disch := omega) only [s0_reckon_59, s0_reckon_62, s0_reckon_63, s0_reckon_64, am_k1_int, am_k1_ref, am_k1_none, am_cats_nil, am_cats_int, am_cats_ref, am_cats_long, Option.toList_some, Option.toList_none, List.singleton_append, List.nil_append, List.cons_append, true_and, and_true, if_true, if_false, va_rf, ↓reduceIte, Nat.reduceAdd, Nat.reduceMul, Nat.reduceSub, Nat.reduceLT, Nat.reduceLeDiff, Nat.reduceEqDiff, Nat.zero_le, Nat.add_zero, Nat.le_refl, nI_add, mul_nI, lt_nI, le_nI, eq_nI, bnd_nI, ci_nI, decide_eq_true_eq, decide_true, decide_false, Bool.true_or, Bool.or_true, Bool.or_false, Bool.false_or, not_true_eq_false, not_false_eq_true, Bool.false_eq_true, Bool.false_and, Bool.true_and, Bool.and_true, Bool.and_false, Bool.not_true, Bool.not_false, false_and, and_false, and_self, ob_60, rf_60_2, rf_60_3, rf_60_4, rf_60_5, rf_60_6, g2]
    refine l0_reckon2q (I0 := I) (J0 := J) hT hO hA (fun I' J' hR' => ?_) (tn 0) I1 J _ (Nat.le_refl _) ⟨g1, g2, g3, g4, fun _ _ => rfl, (fun e' h1 h2 => absurd h2 (by omega)), fun e' h1 h2 y hy => ?_⟩
    · obtain ⟨q1, q2, q3, q4, q5, q6, q7⟩ := hR'
      exact hq I' J' q1 q5 ⟨q2, q3, q4, fun e he => q6 e (by omega) he, fun e he s hs => q7 e (by omega) he s hs⟩
    · obtain rfl : e' = tn 0 := by omega
      rw [g5 y hy]
      show nI 0 = nI (am_msE tn (tn 0 - tn 0) y)
      rw [Nat.sub_self]
      rfl
  · rw [am_up_ne (by omega), am_up_ne (by omega)]
  · rw [up_n (by omega), up_s]
  · rw [up_s]
end
