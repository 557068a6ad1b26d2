/-! the reference's sums -/
def ar_U (tn : Nat → Nat) (I0 I : Nat → Nat → Int32) (s : Nat) : Prop := (∀ a, a ≠ 86 → I a = I0 a) ∧ ∀ y, y < s → I 86 y = nI (am_sm (fun c => tn (24 + c)) y (tn 1))
section
variable {n d T : Nat} {tn : Nat → Nat} {I0 : Nat → Nat → Int32} {J : Nat → Nat → Int64} {sw : Bool} {Q : am_Post}
theorem l7_sums2 {s : Nat} (hO : ar_told tn) (hA : ar_T T tn I0) (hs : s < 64) (hq : ∀ I l2, ar_U tn I0 I (s + 1) → am_wp (d + 1) m7_reckonsSums 69 [some (.ref 77), some (.int (nI s)), some (.int l2)] [] (am_sh n, I, J, am_Rf sw) Q) : ∀ (r c : Nat) (I : Nat → Nat → Int32), c + r = tn 1 → ar_U tn I0 I s → I 86 s = nI (am_sm (fun c => tn (24 + c)) s c) → am_wp (d + 1) m7_reckonsSums 23 [some (.ref 77), some (.int (nI s)), some (.int (nI c))] [] (am_sh n, I, J, am_Rf sw) Q
  | 0, c, I, hm, hU, hI => by
    have o2 := hO.2.1
    obtain rfl : c = tn 1 := by omega
    have t1 : I 79 1 = nI (tn 1) := by rw [hU.1 79 (by omega)]; exact hA.1 1 (by omega)
    rw [s7_reckonsSums_23]
    simp (disch := omega) only [s7_reckonsSums_24, s7_reckonsSums_25, s7_reckonsSums_28, s7_reckonsSums_29, s7_reckonsSums_30, am_k1_int, am_k1_ref, am_k1_none, am_cats_nil, am_cats_int, am_cats_ref, am_cats_long, Option.toList_some, Option.toList_none, List.singleton_append, List.nil_append, List.cons_append, true_and, and_true, if_true, if_false, va_rf, ↓reduceIte, Nat.reduceAdd, Nat.reduceMul, Nat.reduceSub, Nat.reduceLT, Nat.reduceLeDiff, Nat.reduceEqDiff, Nat.zero_le, Nat.add_zero, Nat.le_refl, nI_add, mul_nI, lt_nI, le_nI, eq_nI, bnd_nI, ci_nI, decide_eq_true_eq, decide_true, decide_false, Bool.true_or, Bool.or_true, Bool.or_false, Bool.false_or, not_true_eq_false, not_false_eq_true, Bool.false_eq_true, Bool.false_and, Bool.true_and, Bool.and_true, Bool.and_false, Bool.not_true, Bool.not_false, false_and, and_false, and_self, ob_77, rf_77_1, rf_77_3, rf_77_4, rf_77_5, rf_77_6, rf_77_8, rf_77_9, rf_77_10, rf_77_16, rf_77_17, rf_77_18, rf_77_19, rf_77_20, ib_78, rd_78, ib_79, rd_79, ib_80, rd_80, ib_81, rd_81, ib_82, rd_82, ib_83, rd_83, ib_84, ib_85, rd_85, ib_86, rd_86, ib_87, rd_87, ib_88, ib_89, rd_89, ib_90, rd_90, t1]
    refine hq I _ ⟨hU.1, fun y hy => ?_⟩
    by_cases h : y = s
    · subst h; exact hI
    · exact hU.2 y (by omega)
  | r + 1, c, I, hm, hU, hI => by
    have o2 := hO.2.1
    have hc6 : c < 6 := by omega
    have t1 : I 79 1 = nI (tn 1) := by rw [hU.1 79 (by omega)]; exact hA.1 1 (by omega)
    have t24 : I 79 (24 + c) = nI (tn (24 + c)) := by rw [hU.1 79 (by omega)]; exact hA.1 (24 + c) (by omega)
    have q24 : 24 + c < 42 := by omega
    have h1 : ¬ tn 1 ≤ c := by omega
    have z : (0 : Nat) < 86 := by decide
    have hi := isb_nI (a := s) (c := c) (by omega) (by omega)
    have hstep : ∀ v, v = am_sm (fun c => tn (24 + c)) s (c + 1) → am_wp (d + 1) m7_reckonsSums 23 [some (.ref 77), some (.int (nI s)), some (.int (nI (c + 1)))] [] (am_sh n, am_up I 86 s (nI v), J, am_Rf sw) Q := by
      rintro v rfl
      refine l7_sums2 hO hA hs hq r (c + 1) _ (by omega) ⟨fun a ha => ?_, fun y hy => ?_⟩ (up_s _ _ _ _)
      · rw [am_up_ne ha]; exact hU.1 a ha
      · rw [up_n (by omega)]; exact hU.2 y hy
    rw [s7_reckonsSums_23]
    cases hd : s.testBit c with
    | true =>
      rw [hd] at hi
      have := hstep (am_sm (fun c => tn (24 + c)) s c + tn (24 + c)) (by
        show _ = am_sm (fun c => tn (24 + c)) s c + (if s.testBit c = true then tn (24 + c) else 0)
        rw [if_pos hd])
      simp (disch := omega) only [e7_reckonsSums, s7_reckonsSums_0, s7_reckonsSums_1, s7_reckonsSums_3, s7_reckonsSums_4, s7_reckonsSums_5, s7_reckonsSums_8, s7_reckonsSums_9, s7_reckonsSums_10, s7_reckonsSums_11, s7_reckonsSums_14, s7_reckonsSums_15, s7_reckonsSums_18, s7_reckonsSums_19, s7_reckonsSums_20, s7_reckonsSums_21, s7_reckonsSums_22, s7_reckonsSums_24, s7_reckonsSums_25, s7_reckonsSums_28, s7_reckonsSums_29, s7_reckonsSums_30, s7_reckonsSums_33, s7_reckonsSums_34, s7_reckonsSums_37, s7_reckonsSums_38, s7_reckonsSums_39, s7_reckonsSums_40, s7_reckonsSums_41, s7_reckonsSums_42, s7_reckonsSums_45, s7_reckonsSums_48, s7_reckonsSums_49, s7_reckonsSums_52, s7_reckonsSums_54, s7_reckonsSums_55, s7_reckonsSums_56, s7_reckonsSums_57, s7_reckonsSums_60, s7_reckonsSums_61, s7_reckonsSums_62, s7_reckonsSums_63, s7_reckonsSums_66, s7_reckonsSums_72, s7_reckonsSums_75, am_k1_int, am_k1_ref, am_k1_none, am_cats_nil, am_cats_int, am_cats_ref, am_cats_long, Option.toList_some, Option.toList_none, List.singleton_append, List.nil_append, List.cons_append, true_and, and_true, if_true, if_false, va_rf, ↓reduceIte, Nat.reduceAdd, Nat.reduceMul, Nat.reduceSub, Nat.reduceLT, Nat.reduceLeDiff, Nat.reduceEqDiff, Nat.zero_le, Nat.add_zero, Nat.le_refl, nI_add, mul_nI, lt_nI, le_nI, eq_nI, bnd_nI, ci_nI, decide_eq_true_eq, decide_true, decide_false, Bool.true_or, Bool.or_true, Bool.or_false, Bool.false_or, not_true_eq_false, not_false_eq_true, Bool.false_eq_true, Bool.false_and, Bool.true_and, Bool.and_true, Bool.and_false, Bool.not_true, Bool.not_false, false_and, and_false, and_self, ob_77, rf_77_1, rf_77_3, rf_77_4, rf_77_5, rf_77_6, rf_77_8, rf_77_9, rf_77_10, rf_77_16, rf_77_17, rf_77_18, rf_77_19, rf_77_20, ib_78, rd_78, ib_79, rd_79, ib_80, rd_80, ib_81, rd_81, ib_82, rd_82, ib_83, rd_83, ib_84, ib_85, rd_85, ib_86, rd_86, ib_87, rd_87, ib_88, ib_89, rd_89, ib_90, rd_90, t1, t24, q24, h1, hs, hI, hi, c7_isOf, bi_t, bi_ret, ite_bi2, z, Value.category]
      exact this
    | false =>
      rw [hd] at hi
      have := hstep (am_sm (fun c => tn (24 + c)) s c) (by
        show _ = am_sm (fun c => tn (24 + c)) s c + (if s.testBit c = true then tn (24 + c) else 0)
        rw [if_neg (by rw [hd]; decide), Nat.add_zero])
      simp (disch := omega) only [e7_reckonsSums, s7_reckonsSums_0, s7_reckonsSums_1, s7_reckonsSums_3, s7_reckonsSums_4, s7_reckonsSums_5, s7_reckonsSums_8, s7_reckonsSums_9, s7_reckonsSums_10, s7_reckonsSums_11, s7_reckonsSums_14, s7_reckonsSums_15, s7_reckonsSums_18, s7_reckonsSums_19, s7_reckonsSums_20, s7_reckonsSums_21, s7_reckonsSums_22, s7_reckonsSums_24, s7_reckonsSums_25, s7_reckonsSums_28, s7_reckonsSums_29, s7_reckonsSums_30, s7_reckonsSums_33, s7_reckonsSums_34, s7_reckonsSums_37, s7_reckonsSums_38, s7_reckonsSums_39, s7_reckonsSums_40, s7_reckonsSums_41, s7_reckonsSums_42, s7_reckonsSums_45, s7_reckonsSums_48, s7_reckonsSums_49, s7_reckonsSums_52, s7_reckonsSums_54, s7_reckonsSums_55, s7_reckonsSums_56, s7_reckonsSums_57, s7_reckonsSums_60, s7_reckonsSums_61, s7_reckonsSums_62, s7_reckonsSums_63, s7_reckonsSums_66, s7_reckonsSums_72, s7_reckonsSums_75, am_k1_int, am_k1_ref, am_k1_none, am_cats_nil, am_cats_int, am_cats_ref, am_cats_long, Option.toList_some, Option.toList_none, List.singleton_append, List.nil_append, List.cons_append, true_and, and_true, if_true, if_false, va_rf, ↓reduceIte, Nat.reduceAdd, Nat.reduceMul, Nat.reduceSub, Nat.reduceLT, Nat.reduceLeDiff, Nat.reduceEqDiff, Nat.zero_le, Nat.add_zero, Nat.le_refl, nI_add, mul_nI, lt_nI, le_nI, eq_nI, bnd_nI, ci_nI, decide_eq_true_eq, decide_true, decide_false, Bool.true_or, Bool.or_true, Bool.or_false, Bool.false_or, not_true_eq_false, not_false_eq_true, Bool.false_eq_true, Bool.false_and, Bool.true_and, Bool.and_true, Bool.and_false, Bool.not_true, Bool.not_false, false_and, and_false, and_self, ob_77, rf_77_1, rf_77_3, rf_77_4, rf_77_5, rf_77_6, rf_77_8, rf_77_9, rf_77_10, rf_77_16, rf_77_17, rf_77_18, rf_77_19, rf_77_20, ib_78, rd_78, ib_79, rd_79, ib_80, rd_80, ib_81, rd_81, ib_82, rd_82, ib_83, rd_83, ib_84, ib_85, rd_85, ib_86, rd_86, ib_87, rd_87, ib_88, ib_89, rd_89, ib_90, rd_90, t1, t24, q24, h1, hs, hI, hi, c7_isOf, bi_f, bi_ret, ite_bi2, z, Value.category]
      exact this
theorem l7_sums1 (hO : ar_told tn) (hA : ar_T T tn I0) (hq : ∀ I, ar_U tn I0 I (2 ^ tn 1) → Q none (am_sh n, I, J, am_Rf sw)) : ∀ (r s : Nat) (I : Nat → Nat → Int32) (l2 : Option Value), s + r = 2 ^ tn 1 → ar_U tn I0 I s → am_wp (d + 1) m7_reckonsSums 2 [some (.ref 77), some (.int (nI s)), l2] [] (am_sh n, I, J, am_Rf sw) Q
  | 0, s, I, l2, hm, hU => by
    have o2 := hO.2.1
    have p6 := (pow2_6 o2).1
    obtain rfl : s = 2 ^ tn 1 := by omega
    have t1 : I 79 1 = nI (tn 1) := by rw [hU.1 79 (by omega)]; exact hA.1 1 (by omega)
    rw [s7_reckonsSums_2]
    simp (disch := omega) only [s7_reckonsSums_3, s7_reckonsSums_4, s7_reckonsSums_5, s7_reckonsSums_8, s7_reckonsSums_9, s7_reckonsSums_10, s7_reckonsSums_11, s7_reckonsSums_75, am_k1_int, am_k1_ref, am_k1_none, am_cats_nil, am_cats_int, am_cats_ref, am_cats_long, Option.toList_some, Option.toList_none, List.singleton_append, List.nil_append, List.cons_append, true_and, and_true, if_true, if_false, va_rf, ↓reduceIte, Nat.reduceAdd, Nat.reduceMul, Nat.reduceSub, Nat.reduceLT, Nat.reduceLeDiff, Nat.reduceEqDiff, Nat.zero_le, Nat.add_zero, Nat.le_refl, nI_add, mul_nI, lt_nI, le_nI, eq_nI, bnd_nI, ci_nI, decide_eq_true_eq, decide_true, decide_false, Bool.true_or, Bool.or_true, Bool.or_false, Bool.false_or, not_true_eq_false, not_false_eq_true, Bool.false_eq_true, Bool.false_and, Bool.true_and, Bool.and_true, Bool.and_false, Bool.not_true, Bool.not_false, false_and, and_false, and_self, ob_77, rf_77_1, rf_77_3, rf_77_4, rf_77_5, rf_77_6, rf_77_8, rf_77_9, rf_77_10, rf_77_16, rf_77_17, rf_77_18, rf_77_19, rf_77_20, ib_78, rd_78, ib_79, rd_79, ib_80, rd_80, ib_81, rd_81, ib_82, rd_82, ib_83, rd_83, ib_84, ib_85, rd_85, ib_86, rd_86, ib_87, rd_87, ib_88, ib_89, rd_89, ib_90, rd_90, t1, shl_nI, Nat.one_mul]
    exact hq I hU
  | r + 1, s, I, l2, hm, hU => by
    have o2 := hO.2.1
    have p6 := (pow2_6 o2).1
    have hs : s < 64 := by omega
    have h1 : ¬ 2 ^ tn 1 ≤ s := by omega
    have z : (0 : Nat) < 86 := by decide
    have t1 : I 79 1 = nI (tn 1) := by rw [hU.1 79 (by omega)]; exact hA.1 1 (by omega)
    rw [s7_reckonsSums_2]
    simp (disch := omega) only [s7_reckonsSums_3, s7_reckonsSums_4, s7_reckonsSums_5, s7_reckonsSums_8, s7_reckonsSums_9, s7_reckonsSums_10, s7_reckonsSums_11, s7_reckonsSums_14, s7_reckonsSums_15, s7_reckonsSums_18, s7_reckonsSums_19, s7_reckonsSums_20, s7_reckonsSums_21, s7_reckonsSums_22, am_k1_int, am_k1_ref, am_k1_none, am_cats_nil, am_cats_int, am_cats_ref, am_cats_long, Option.toList_some, Option.toList_none, List.singleton_append, List.nil_append, List.cons_append, true_and, and_true, if_true, if_false, va_rf, ↓reduceIte, Nat.reduceAdd, Nat.reduceMul, Nat.reduceSub, Nat.reduceLT, Nat.reduceLeDiff, Nat.reduceEqDiff, Nat.zero_le, Nat.add_zero, Nat.le_refl, nI_add, mul_nI, lt_nI, le_nI, eq_nI, bnd_nI, ci_nI, decide_eq_true_eq, decide_true, decide_false, Bool.true_or, Bool.or_true, Bool.or_false, Bool.false_or, not_true_eq_false, not_false_eq_true, Bool.false_eq_true, Bool.false_and, Bool.true_and, Bool.and_true, Bool.and_false, Bool.not_true, Bool.not_false, false_and, and_false, and_self, ob_77, rf_77_1, rf_77_3, rf_77_4, rf_77_5, rf_77_6, rf_77_8, rf_77_9, rf_77_10, rf_77_16, rf_77_17, rf_77_18, rf_77_19, rf_77_20, ib_78, rd_78, ib_79, rd_79, ib_80, rd_80, ib_81, rd_81, ib_82, rd_82, ib_83, rd_83, ib_84, ib_85, rd_85, ib_86, rd_86, ib_87, rd_87, ib_88, ib_89, rd_89, ib_90, rd_90, t1, h1, hs, z, shl_nI, Nat.one_mul]
    refine l7_sums2 (s := s) hO hA hs (fun I' l2' hU' => ?_) (tn 1) 0 _ (by omega) ⟨fun a ha => ?_, fun y hy => ?_⟩ (up_s _ _ _ _)
    · rw [s7_reckonsSums_69]
      simp (disch := omega) only [s7_reckonsSums_72, am_k1_int, am_k1_ref, am_k1_none, am_cats_nil, am_cats_int, am_cats_ref, am_cats_long, Option.toList_some, Option.toList_none, List.singleton_append, List.nil_append, List.cons_append, true_and, and_true, if_true, if_false, va_rf, ↓reduceIte, Nat.reduceAdd, Nat.reduceMul, Nat.reduceSub, Nat.reduceLT, Nat.reduceLeDiff, Nat.reduceEqDiff, Nat.zero_le, Nat.add_zero, Nat.le_refl, nI_add, mul_nI, lt_nI, le_nI, eq_nI, bnd_nI, ci_nI, decide_eq_true_eq, decide_true, decide_false, Bool.true_or, Bool.or_true, Bool.or_false, Bool.false_or, not_true_eq_false, not_false_eq_true, Bool.false_eq_true, Bool.false_and, Bool.true_and, Bool.and_true, Bool.and_false, Bool.not_true, Bool.not_false, false_and, and_false, and_self]
      exact l7_sums1 hO hA hq r (s + 1) I' _ (by omega) hU'
    · rw [am_up_ne ha]; exact hU.1 a ha
    · rw [up_n (by omega)]; exact hU.2 y hy
theorem c7_reckonsSums {I : Nat → Nat → Int32} (hO : ar_told tn) (hA : ar_T T tn I) (hq : ∀ I', ar_U tn I I' (2 ^ tn 1) → Q none (am_sh n, I', J, am_Rf sw)) : am_call (d + 2) m7_reckonsSums [.ref 77] (am_sh n, I, J, am_Rf sw) Q := by
  rw [e7_reckonsSums, s7_reckonsSums_0, s7_reckonsSums_1]
  exact l7_sums1 (I0 := I) hO hA hq (2 ^ tn 1) 0 I _ (by omega) ⟨fun _ _ => rfl, (fun y hy => absurd hy (by omega))⟩
end
