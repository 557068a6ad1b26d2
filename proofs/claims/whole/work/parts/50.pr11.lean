/-- the reference's row with the yards of the class's row in it -/
def am_mrow (r h : Nat → Int32) : Nat → Int32 := fun j => if 7 ≤ j ∧ j < 31 then h (j - 7) else r j
theorem mrow_y {r h : Nat → Int32} {c e : Nat} (hc : c < 6) (he : e < 4) : am_mrow r h (7 + 4 * c + e) = h (c * 4 + e) := by
  unfold am_mrow
  rw [if_pos (by omega)]
  congr 1
  omega
theorem mrow_yds {r h : Nat → Int32} {c : Nat} (hc : c < 6) : am_myd (am_mrow r h) c = am_yds h c := by
  unfold am_myd am_yds
  have e0 := mrow_y (r := r) (h := h) (e := 0) hc (by omega)
  simp only [Nat.add_zero] at e0
  rw [e0, mrow_y hc (by omega), mrow_y hc (by omega), mrow_y hc (by omega)]
theorem mrow_lose {I : Nat → Nat → Int32} {r h : Nat → Int32} {c : Nat} (hc : c < 6) : am_up (am_up (am_up (am_up (am_row I 81 (am_mrow r h)) 81 (7 + 4 * c) (nI 0)) 81 (7 + 4 * c + 1) (nI 0)) 81 (7 + 4 * c + 2) (nI 0)) 81 (7 + 4 * c + 3) (nI 0) = am_row I 81 (am_mrow r (am_lose h c)) := by
  funext a b
  unfold am_row am_mrow am_lose am_up
  by_cases ha : a = 81
  · subst ha
    by_cases hb : 7 + 4 * c ≤ b ∧ b < 7 + 4 * c + 4
    · have h7 : 7 ≤ b ∧ b < 31 := by omega
      have h8 : c * 4 ≤ b - 7 ∧ b - 7 < c * 4 + 4 := by omega
      simp only [if_true, h7, h8, and_self, true_and]
      rcases (show b = 7 + 4 * c ∨ b = 7 + 4 * c + 1 ∨ b = 7 + 4 * c + 2 ∨ b = 7 + 4 * c + 3 by omega) with h | h | h | h <;> simp [h]
    · by_cases h7 : 7 ≤ b ∧ b < 31
      · simp [h7, show ¬ b = 7 + 4 * c by omega, show ¬ b = 7 + 4 * c + 1 by omega, show ¬ b = 7 + 4 * c + 2 by omega, show ¬ b = 7 + 4 * c + 3 by omega, show ¬ (c * 4 ≤ b - 7 ∧ b - 7 < c * 4 + 4) by omega]
      · simp [h7, show ¬ b = 7 + 4 * c by omega, show ¬ b = 7 + 4 * c + 1 by omega, show ¬ b = 7 + 4 * c + 2 by omega, show ¬ b = 7 + 4 * c + 3 by omega]
  · simp [ha]
section
variable {n d : Nat} {I : Nat → Nat → Int32} {J : Nat → Nat → Int64} {sw : Bool} {Q : am_Post}
set_option maxHeartbeats 4000000 in
set_option maxRecDepth 100000 in
theorem l7_dawn {nc : Nat} {dr ce : Int32} {r h : Nat → Int32} (hn : nc ≤ 6) (h1 : I 79 1 = nI nc) (h2 : r 2 = dr) : ∀ (m c : Nat) (l4 l5 : Option Value), c + m = nc → (am_wp (d + 1) m7_dawn 33 [some (.ref 77), some (.int (am_gb dr ce h c).1), some (.int (am_gb dr ce h c).2.1), some (.int (nI c)), l4, l5] [] (am_sh n, am_row I 81 (am_mrow r (am_gb dr ce h c).2.2), J, am_Rf sw) Q ↔ Q (some (.int (am_gb dr ce h nc).2.1)) (am_sh n, am_up (am_up (am_row I 81 (am_mrow r (am_gb dr ce h nc).2.2)) 81 1 (nI 0)) 81 0 (r 0 + nI 1), J, am_Rf sw))
  | 0, c, l4, l5, hm => by
    obtain rfl : c = nc := by omega
    have z : (0 : Nat) < 81 := by decide
    have e0 : am_row I 81 (am_mrow r (am_gb dr ce h c).2.2) 81 0 = r 0 := by
      rw [row_s]
      exact if_neg (by omega)
    simp (disch := omega) only [e7_dawn, s7_dawn_0, s7_dawn_1, s7_dawn_4, s7_dawn_5, s7_dawn_6, s7_dawn_7, s7_dawn_10, s7_dawn_11, s7_dawn_12, s7_dawn_15, s7_dawn_17, s7_dawn_18, s7_dawn_19, s7_dawn_22, s7_dawn_23, s7_dawn_26, s7_dawn_27, s7_dawn_28, s7_dawn_29, s7_dawn_30, s7_dawn_31, s7_dawn_32, s7_dawn_33, s7_dawn_34, s7_dawn_35, s7_dawn_38, s7_dawn_39, s7_dawn_40, s7_dawn_43, s7_dawn_44, s7_dawn_47, s7_dawn_48, s7_dawn_49, s7_dawn_50, s7_dawn_53, s7_dawn_56, s7_dawn_57, s7_dawn_60, s7_dawn_61, s7_dawn_62, s7_dawn_65, s7_dawn_67, s7_dawn_69, s7_dawn_70, s7_dawn_73, s7_dawn_74, s7_dawn_76, s7_dawn_77, s7_dawn_78, s7_dawn_79, s7_dawn_81, s7_dawn_83, s7_dawn_84, s7_dawn_87, s7_dawn_88, s7_dawn_91, s7_dawn_93, s7_dawn_94, s7_dawn_95, s7_dawn_96, s7_dawn_97, s7_dawn_99, s7_dawn_100, s7_dawn_101, s7_dawn_102, s7_dawn_105, s7_dawn_108, s7_dawn_111, s7_dawn_112, s7_dawn_114, s7_dawn_115, s7_dawn_116, s7_dawn_119, s7_dawn_122, s7_dawn_123, s7_dawn_126, s7_dawn_127, s7_dawn_128, s7_dawn_129, s7_dawn_130, s7_dawn_133, s7_dawn_134, s7_dawn_135, s7_dawn_136, s7_dawn_137, s7_dawn_138, s7_dawn_139, s7_dawn_140, am_k1_int, am_k1_ref, am_k1_none, am_cats_nil, am_cats_int, am_cats_ref, am_cats_long, Option.toList_some, Option.toList_none, List.singleton_append, List.nil_append, List.cons_append, true_and, and_true, if_true, if_false, va_rf, ↓reduceIte, Nat.reduceAdd, Nat.reduceMul, Nat.reduceSub, Nat.reduceLT, Nat.reduceLeDiff, Nat.reduceEqDiff, Nat.zero_le, Nat.add_zero, Nat.le_refl, nI_add, mul_nI, lt_nI, le_nI, eq_nI, bnd_nI, ci_nI, decide_eq_true_eq, decide_true, decide_false, Bool.true_or, Bool.or_true, Bool.or_false, Bool.false_or, not_true_eq_false, not_false_eq_true, Bool.false_eq_true, Bool.false_and, Bool.true_and, Bool.and_true, Bool.and_false, Bool.not_true, Bool.not_false, false_and, and_false, and_self, ob_77, rf_77_1, rf_77_3, rf_77_4, rf_77_5, rf_77_6, rf_77_8, rf_77_9, rf_77_10, rf_77_16, rf_77_17, rf_77_18, rf_77_19, rf_77_20, ib_78, rd_78, ib_79, rd_79, ib_80, rd_80, ib_81, rd_81, ib_82, rd_82, ib_83, rd_83, ib_84, ib_85, rd_85, ib_86, rd_86, ib_87, rd_87, ib_88, ib_89, rd_89, ib_90, rd_90, row_n, up_n, h1, z, e0, Nat.lt_irrefl, Value.category]
  | m + 1, c, l4, l5, hm => by
    have hcn : ¬ nc ≤ c := by omega
    have hc6 : c < 6 := by omega
    have z : (0 : Nat) < 81 := by decide
    have e2 : am_row I 81 (am_mrow r (am_gb dr ce h c).2.2) 81 2 = dr := by
      rw [row_s, ← h2]
      exact if_neg (by omega)
    have ih := l7_dawn (ce := ce) (h := h) hn h1 h2 m (c + 1)
    have hy : am_call (d + 1) m7_yardsOf [.ref 77, .int (nI c)] (am_sh n, am_row I 81 (am_mrow r (am_gb dr ce h c).2.2), J, am_Rf sw) = fun Q => Q (some (.int (am_yds (am_gb dr ce h c).2.2 c))) (am_sh n, am_row I 81 (am_mrow r (am_gb dr ce h c).2.2), J, am_Rf sw) := by
      funext Q
      rw [c7_yardsOf hc6, am_row_eq, mrow_yds hc6]
    have hl := mrow_lose (I := I) (r := r) (h := (am_gb dr ce h c).2.2) hc6
    have k0 : 7 + 4 * c < 31 := by omega
    have k1 : 7 + 4 * c + 1 < 31 := by omega
    have k2 : 7 + 4 * c + 2 < 31 := by omega
    have k3 : 7 + 4 * c + 3 < 31 := by omega
    rw [s7_dawn_33]
    by_cases hb : am_isb dr c = true
    · by_cases hr : (am_gb dr ce h c).1 < nI 0
      · have hr2 : ¬ nI 0 ≤ (am_gb dr ce h c).1 := Int32.not_le.mpr hr
        have e : am_gb dr ce h (c + 1) = ((am_gb dr ce h c).1, (am_gb dr ce h c).2.1 + nI 0, am_lose (am_gb dr ce h c).2.2 c) := by simp [am_gb, hb, hr]
        rw [e] at ih
        simp (disch := omega) only [e7_dawn, s7_dawn_0, s7_dawn_1, s7_dawn_4, s7_dawn_5, s7_dawn_6, s7_dawn_7, s7_dawn_10, s7_dawn_11, s7_dawn_12, s7_dawn_15, s7_dawn_17, s7_dawn_18, s7_dawn_19, s7_dawn_22, s7_dawn_23, s7_dawn_26, s7_dawn_27, s7_dawn_28, s7_dawn_29, s7_dawn_30, s7_dawn_31, s7_dawn_32, s7_dawn_34, s7_dawn_35, s7_dawn_38, s7_dawn_39, s7_dawn_40, s7_dawn_43, s7_dawn_44, s7_dawn_47, s7_dawn_48, s7_dawn_49, s7_dawn_50, s7_dawn_53, s7_dawn_56, s7_dawn_57, s7_dawn_60, s7_dawn_61, s7_dawn_62, s7_dawn_65, s7_dawn_67, s7_dawn_69, s7_dawn_70, s7_dawn_73, s7_dawn_74, s7_dawn_76, s7_dawn_77, s7_dawn_78, s7_dawn_79, s7_dawn_81, s7_dawn_83, s7_dawn_84, s7_dawn_87, s7_dawn_88, s7_dawn_91, s7_dawn_93, s7_dawn_94, s7_dawn_95, s7_dawn_96, s7_dawn_97, s7_dawn_99, s7_dawn_100, s7_dawn_101, s7_dawn_102, s7_dawn_105, s7_dawn_108, s7_dawn_111, s7_dawn_112, s7_dawn_114, s7_dawn_115, s7_dawn_116, s7_dawn_119, s7_dawn_122, s7_dawn_123, s7_dawn_126, s7_dawn_127, s7_dawn_128, s7_dawn_129, s7_dawn_130, s7_dawn_133, s7_dawn_134, s7_dawn_135, s7_dawn_136, s7_dawn_137, s7_dawn_138, s7_dawn_139, s7_dawn_140, am_k1_int, am_k1_ref, am_k1_none, am_cats_nil, am_cats_int, am_cats_ref, am_cats_long, Option.toList_some, Option.toList_none, List.singleton_append, List.nil_append, List.cons_append, true_and, and_true, if_true, if_false, va_rf, ↓reduceIte, Nat.reduceAdd, Nat.reduceMul, Nat.reduceSub, Nat.reduceLT, Nat.reduceLeDiff, Nat.reduceEqDiff, Nat.zero_le, Nat.add_zero, Nat.le_refl, nI_add, mul_nI, lt_nI, le_nI, eq_nI, bnd_nI, ci_nI, decide_eq_true_eq, decide_true, decide_false, Bool.true_or, Bool.or_true, Bool.or_false, Bool.false_or, not_true_eq_false, not_false_eq_true, Bool.false_eq_true, Bool.false_and, Bool.true_and, Bool.and_true, Bool.and_false, Bool.not_true, Bool.not_false, false_and, and_false, and_self, ob_77, rf_77_1, rf_77_3, rf_77_4, rf_77_5, rf_77_6, rf_77_8, rf_77_9, rf_77_10, rf_77_16, rf_77_17, rf_77_18, rf_77_19, rf_77_20, ib_78, rd_78, ib_79, rd_79, ib_80, rd_80, ib_81, rd_81, ib_82, rd_82, ib_83, rd_83, ib_84, ib_85, rd_85, ib_86, rd_86, ib_87, rd_87, ib_88, ib_89, rd_89, ib_90, rd_90, row_n, h1, hcn, e2, c7_isOf, hb, bi_ret, bi_t, ite_bi2, hr, hr2, z, k0, k1, k2, k3, hl]
        exact ih _ _ (by omega)
      · have hr2 : nI 0 ≤ (am_gb dr ce h c).1 := Int32.not_lt.mp hr
        have e : am_gb dr ce h (c + 1) = ((am_gb dr ce h c).1 - nI 0, (am_gb dr ce h c).2.1, (am_gb dr ce h c).2.2) := by simp [am_gb, hb, hr]
        rw [e] at ih
        simp (disch := omega) only [e7_dawn, s7_dawn_0, s7_dawn_1, s7_dawn_4, s7_dawn_5, s7_dawn_6, s7_dawn_7, s7_dawn_10, s7_dawn_11, s7_dawn_12, s7_dawn_15, s7_dawn_17, s7_dawn_18, s7_dawn_19, s7_dawn_22, s7_dawn_23, s7_dawn_26, s7_dawn_27, s7_dawn_28, s7_dawn_29, s7_dawn_30, s7_dawn_31, s7_dawn_32, s7_dawn_34, s7_dawn_35, s7_dawn_38, s7_dawn_39, s7_dawn_40, s7_dawn_43, s7_dawn_44, s7_dawn_47, s7_dawn_48, s7_dawn_49, s7_dawn_50, s7_dawn_53, s7_dawn_56, s7_dawn_57, s7_dawn_60, s7_dawn_61, s7_dawn_62, s7_dawn_65, s7_dawn_67, s7_dawn_69, s7_dawn_70, s7_dawn_73, s7_dawn_74, s7_dawn_76, s7_dawn_77, s7_dawn_78, s7_dawn_79, s7_dawn_81, s7_dawn_83, s7_dawn_84, s7_dawn_87, s7_dawn_88, s7_dawn_91, s7_dawn_93, s7_dawn_94, s7_dawn_95, s7_dawn_96, s7_dawn_97, s7_dawn_99, s7_dawn_100, s7_dawn_101, s7_dawn_102, s7_dawn_105, s7_dawn_108, s7_dawn_111, s7_dawn_112, s7_dawn_114, s7_dawn_115, s7_dawn_116, s7_dawn_119, s7_dawn_122, s7_dawn_123, s7_dawn_126, s7_dawn_127, s7_dawn_128, s7_dawn_129, s7_dawn_130, s7_dawn_133, s7_dawn_134, s7_dawn_135, s7_dawn_136, s7_dawn_137, s7_dawn_138, s7_dawn_139, s7_dawn_140, am_k1_int, am_k1_ref, am_k1_none, am_cats_nil, am_cats_int, am_cats_ref, am_cats_long, Option.toList_some, Option.toList_none, List.singleton_append, List.nil_append, List.cons_append, true_and, and_true, if_true, if_false, va_rf, ↓reduceIte, Nat.reduceAdd, Nat.reduceMul, Nat.reduceSub, Nat.reduceLT, Nat.reduceLeDiff, Nat.reduceEqDiff, Nat.zero_le, Nat.add_zero, Nat.le_refl, nI_add, mul_nI, lt_nI, le_nI, eq_nI, bnd_nI, ci_nI, decide_eq_true_eq, decide_true, decide_false, Bool.true_or, Bool.or_true, Bool.or_false, Bool.false_or, not_true_eq_false, not_false_eq_true, Bool.false_eq_true, Bool.false_and, Bool.true_and, Bool.and_true, Bool.and_false, Bool.not_true, Bool.not_false, false_and, and_false, and_self, ob_77, rf_77_1, rf_77_3, rf_77_4, rf_77_5, rf_77_6, rf_77_8, rf_77_9, rf_77_10, rf_77_16, rf_77_17, rf_77_18, rf_77_19, rf_77_20, ib_78, rd_78, ib_79, rd_79, ib_80, rd_80, ib_81, rd_81, ib_82, rd_82, ib_83, rd_83, ib_84, ib_85, rd_85, ib_86, rd_86, ib_87, rd_87, ib_88, ib_89, rd_89, ib_90, rd_90, row_n, h1, hcn, e2, c7_isOf, hb, bi_ret, bi_t, ite_bi2, hr, hr2, z, k0, k1, k2, k3, hl]
        exact ih _ _ (by omega)
    · rw [Bool.not_eq_true] at hb
      by_cases hr : (am_gb dr ce h c).1 < am_yds (am_gb dr ce h c).2.2 c
      · have hr2 : ¬ am_yds (am_gb dr ce h c).2.2 c ≤ (am_gb dr ce h c).1 := Int32.not_le.mpr hr
        have e : am_gb dr ce h (c + 1) = ((am_gb dr ce h c).1, (am_gb dr ce h c).2.1 + am_yds (am_gb dr ce h c).2.2 c, am_lose (am_gb dr ce h c).2.2 c) := by simp [am_gb, hb, hr]
        rw [e] at ih
        simp (disch := omega) only [e7_dawn, s7_dawn_0, s7_dawn_1, s7_dawn_4, s7_dawn_5, s7_dawn_6, s7_dawn_7, s7_dawn_10, s7_dawn_11, s7_dawn_12, s7_dawn_15, s7_dawn_17, s7_dawn_18, s7_dawn_19, s7_dawn_22, s7_dawn_23, s7_dawn_26, s7_dawn_27, s7_dawn_28, s7_dawn_29, s7_dawn_30, s7_dawn_31, s7_dawn_32, s7_dawn_34, s7_dawn_35, s7_dawn_38, s7_dawn_39, s7_dawn_40, s7_dawn_43, s7_dawn_44, s7_dawn_47, s7_dawn_48, s7_dawn_49, s7_dawn_50, s7_dawn_53, s7_dawn_56, s7_dawn_57, s7_dawn_60, s7_dawn_61, s7_dawn_62, s7_dawn_65, s7_dawn_67, s7_dawn_69, s7_dawn_70, s7_dawn_73, s7_dawn_74, s7_dawn_76, s7_dawn_77, s7_dawn_78, s7_dawn_79, s7_dawn_81, s7_dawn_83, s7_dawn_84, s7_dawn_87, s7_dawn_88, s7_dawn_91, s7_dawn_93, s7_dawn_94, s7_dawn_95, s7_dawn_96, s7_dawn_97, s7_dawn_99, s7_dawn_100, s7_dawn_101, s7_dawn_102, s7_dawn_105, s7_dawn_108, s7_dawn_111, s7_dawn_112, s7_dawn_114, s7_dawn_115, s7_dawn_116, s7_dawn_119, s7_dawn_122, s7_dawn_123, s7_dawn_126, s7_dawn_127, s7_dawn_128, s7_dawn_129, s7_dawn_130, s7_dawn_133, s7_dawn_134, s7_dawn_135, s7_dawn_136, s7_dawn_137, s7_dawn_138, s7_dawn_139, s7_dawn_140, am_k1_int, am_k1_ref, am_k1_none, am_cats_nil, am_cats_int, am_cats_ref, am_cats_long, Option.toList_some, Option.toList_none, List.singleton_append, List.nil_append, List.cons_append, true_and, and_true, if_true, if_false, va_rf, ↓reduceIte, Nat.reduceAdd, Nat.reduceMul, Nat.reduceSub, Nat.reduceLT, Nat.reduceLeDiff, Nat.reduceEqDiff, Nat.zero_le, Nat.add_zero, Nat.le_refl, nI_add, mul_nI, lt_nI, le_nI, eq_nI, bnd_nI, ci_nI, decide_eq_true_eq, decide_true, decide_false, Bool.true_or, Bool.or_true, Bool.or_false, Bool.false_or, not_true_eq_false, not_false_eq_true, Bool.false_eq_true, Bool.false_and, Bool.true_and, Bool.and_true, Bool.and_false, Bool.not_true, Bool.not_false, false_and, and_false, and_self, ob_77, rf_77_1, rf_77_3, rf_77_4, rf_77_5, rf_77_6, rf_77_8, rf_77_9, rf_77_10, rf_77_16, rf_77_17, rf_77_18, rf_77_19, rf_77_20, ib_78, rd_78, ib_79, rd_79, ib_80, rd_80, ib_81, rd_81, ib_82, rd_82, ib_83, rd_83, ib_84, ib_85, rd_85, ib_86, rd_86, ib_87, rd_87, ib_88, ib_89, rd_89, ib_90, rd_90, row_n, h1, hcn, e2, c7_isOf, hb, bi_ret, bi_f, ite_bi2, hy, hr, hr2, z, k0, k1, k2, k3, hl]
        exact ih _ _ (by omega)
      · have hr2 : am_yds (am_gb dr ce h c).2.2 c ≤ (am_gb dr ce h c).1 := Int32.not_lt.mp hr
        have e : am_gb dr ce h (c + 1) = ((am_gb dr ce h c).1 - am_yds (am_gb dr ce h c).2.2 c, (am_gb dr ce h c).2.1, (am_gb dr ce h c).2.2) := by simp [am_gb, hb, hr]
        rw [e] at ih
        simp (disch := omega) only [e7_dawn, s7_dawn_0, s7_dawn_1, s7_dawn_4, s7_dawn_5, s7_dawn_6, s7_dawn_7, s7_dawn_10, s7_dawn_11, s7_dawn_12, s7_dawn_15, s7_dawn_17, s7_dawn_18, s7_dawn_19, s7_dawn_22, s7_dawn_23, s7_dawn_26, s7_dawn_27, s7_dawn_28, s7_dawn_29, s7_dawn_30, s7_dawn_31, s7_dawn_32, s7_dawn_34, s7_dawn_35, s7_dawn_38, s7_dawn_39, s7_dawn_40, s7_dawn_43, s7_dawn_44, s7_dawn_47, s7_dawn_48, s7_dawn_49, s7_dawn_50, s7_dawn_53, s7_dawn_56, s7_dawn_57, s7_dawn_60, s7_dawn_61, s7_dawn_62, s7_dawn_65, s7_dawn_67, s7_dawn_69, s7_dawn_70, s7_dawn_73, s7_dawn_74, s7_dawn_76, s7_dawn_77, s7_dawn_78, s7_dawn_79, s7_dawn_81, s7_dawn_83, s7_dawn_84, s7_dawn_87, s7_dawn_88, s7_dawn_91, s7_dawn_93, s7_dawn_94, s7_dawn_95, s7_dawn_96, s7_dawn_97, s7_dawn_99, s7_dawn_100, s7_dawn_101, s7_dawn_102, s7_dawn_105, s7_dawn_108, s7_dawn_111, s7_dawn_112, s7_dawn_114, s7_dawn_115, s7_dawn_116, s7_dawn_119, s7_dawn_122, s7_dawn_123, s7_dawn_126, s7_dawn_127, s7_dawn_128, s7_dawn_129, s7_dawn_130, s7_dawn_133, s7_dawn_134, s7_dawn_135, s7_dawn_136, s7_dawn_137, s7_dawn_138, s7_dawn_139, s7_dawn_140, am_k1_int, am_k1_ref, am_k1_none, am_cats_nil, am_cats_int, am_cats_ref, am_cats_long, Option.toList_some, Option.toList_none, List.singleton_append, List.nil_append, List.cons_append, true_and, and_true, if_true, if_false, va_rf, ↓reduceIte, Nat.reduceAdd, Nat.reduceMul, Nat.reduceSub, Nat.reduceLT, Nat.reduceLeDiff, Nat.reduceEqDiff, Nat.zero_le, Nat.add_zero, Nat.le_refl, nI_add, mul_nI, lt_nI, le_nI, eq_nI, bnd_nI, ci_nI, decide_eq_true_eq, decide_true, decide_false, Bool.true_or, Bool.or_true, Bool.or_false, Bool.false_or, not_true_eq_false, not_false_eq_true, Bool.false_eq_true, Bool.false_and, Bool.true_and, Bool.and_true, Bool.and_false, Bool.not_true, Bool.not_false, false_and, and_false, and_self, ob_77, rf_77_1, rf_77_3, rf_77_4, rf_77_5, rf_77_6, rf_77_8, rf_77_9, rf_77_10, rf_77_16, rf_77_17, rf_77_18, rf_77_19, rf_77_20, ib_78, rd_78, ib_79, rd_79, ib_80, rd_80, ib_81, rd_81, ib_82, rd_82, ib_83, rd_83, ib_84, ib_85, rd_85, ib_86, rd_86, ib_87, rd_87, ib_88, ib_89, rd_89, ib_90, rd_90, row_n, h1, hcn, e2, c7_isOf, hb, bi_ret, bi_f, ite_bi2, hy, hr, hr2, z, k0, k1, k2, k3, hl]
        exact ih _ _ (by omega)
end
theorem gb_num {dr ce : Int32} {h : Nat → Int32} {s : Nat → Nat} (hs : ∀ q, q < 24 → h q = nI (s q)) : ∀ c, ∃ g : Nat → Nat, (∀ q, q < 24 → (am_gb dr ce h c).2.2 q = nI (g q)) ∧ ∀ q, g q ≤ s q
  | 0 => ⟨s, hs, fun _ => Nat.le_refl _⟩
  | c + 1 => by
    obtain ⟨g, g1, g2⟩ := gb_num (dr := dr) (ce := ce) hs c
    have hl : ∃ g : Nat → Nat, (∀ q, q < 24 → am_lose (am_gb dr ce h c).2.2 c q = nI (g q)) ∧ ∀ q, g q ≤ s q := by
      refine ⟨fun q => if c * 4 ≤ q ∧ q < c * 4 + 4 then 0 else g q, fun q hq => ?_, fun q => ?_⟩
      · unfold am_lose
        by_cases hb : c * 4 ≤ q ∧ q < c * 4 + 4
        · simp [hb]
        · simp [hb, g1 q hq]
      · have := g2 q
        show (if _ then _ else _) ≤ _
        split <;> omega
    by_cases hq : (am_gb dr ce h c).1 < (if am_isb dr c = true then nI 0 else am_yds (am_gb dr ce h c).2.2 c)
    · rw [show am_gb dr ce h (c + 1) = _ from if_pos hq]
      exact hl
    · rw [show am_gb dr ce h (c + 1) = _ from if_neg hq]
      exact ⟨g, g1, g2⟩
def ar_dw (sn g : Nat → Nat) : Nat → Nat := fun j => if j = 0 then sn 0 + 1 else if j = 1 then 0 else if j < 7 then sn j else g (j - 7)
section
variable {n d : Nat} {x y z : Int32}
set_option maxHeartbeats 4000000 in
theorem p_dawn : am_pr n (d + 6) m6_dawn m7_dawn [.ref 1] [.ref 77] := by
  intro sw I J hR
  obtain ⟨T, tn, sn, pn, im, tx, fm, fi, nx, m, ln, pm, hT, hO, hA, hS, hP, hI, hX, hF, hC, hJ⟩ := id hR
  obtain ⟨a1, a2, a3, a4, a5, a6, a7⟩ := id hA
  have o1 := hO.1
  have o2 := hO.2.1
  have r0 := hS.1 0 (by omega)
  have r2 := hS.1 2 (by omega)
  obtain ⟨u0, u1, u2, u3, u4⟩ := hS.2.2
  have t0 := a1 0 (by omega)
  have t1 := a1 1 (by omega)
  have t3 := a1 3 (by omega)
  obtain ⟨hle, hs0, hs2, hsum⟩ := id hS.2.1
  by_cases hw : sn 0 < tn 0
  case neg =>
    have hw2 : sn 0 = tn 0 := by omega
    simp (disch := omega) only [e6_dawn, s6_dawn_0, s6_dawn_1, s6_dawn_2, s6_dawn_5, s6_dawn_8, s6_dawn_11, s6_dawn_14, s6_dawn_16, s6_dawn_17, s6_dawn_18, s6_dawn_21, s6_dawn_22, s6_dawn_25, s6_dawn_28, s6_dawn_29, s6_dawn_32, s6_dawn_33, s6_dawn_36, s6_dawn_39, s6_dawn_40, s6_dawn_43, s6_dawn_46, s6_dawn_49, e7_dawn, s7_dawn_0, s7_dawn_1, s7_dawn_4, s7_dawn_5, s7_dawn_6, s7_dawn_7, s7_dawn_10, s7_dawn_11, s7_dawn_12, s7_dawn_15, s7_dawn_17, s7_dawn_18, s7_dawn_19, s7_dawn_22, s7_dawn_23, s7_dawn_26, s7_dawn_27, s7_dawn_28, s7_dawn_29, s7_dawn_30, s7_dawn_31, s7_dawn_32, s7_dawn_34, s7_dawn_35, s7_dawn_38, s7_dawn_39, s7_dawn_40, s7_dawn_43, s7_dawn_44, s7_dawn_47, s7_dawn_48, s7_dawn_49, s7_dawn_50, s7_dawn_53, s7_dawn_56, s7_dawn_57, s7_dawn_60, s7_dawn_61, s7_dawn_62, s7_dawn_65, s7_dawn_67, s7_dawn_69, s7_dawn_70, s7_dawn_73, s7_dawn_74, s7_dawn_76, s7_dawn_77, s7_dawn_78, s7_dawn_79, s7_dawn_81, s7_dawn_83, s7_dawn_84, s7_dawn_87, s7_dawn_88, s7_dawn_91, s7_dawn_93, s7_dawn_94, s7_dawn_95, s7_dawn_96, s7_dawn_97, s7_dawn_99, s7_dawn_100, s7_dawn_101, s7_dawn_102, s7_dawn_105, s7_dawn_108, s7_dawn_111, s7_dawn_112, s7_dawn_114, s7_dawn_115, s7_dawn_116, s7_dawn_119, s7_dawn_122, s7_dawn_123, s7_dawn_126, s7_dawn_127, s7_dawn_128, s7_dawn_129, s7_dawn_130, s7_dawn_133, s7_dawn_134, s7_dawn_135, s7_dawn_136, s7_dawn_137, s7_dawn_138, s7_dawn_139, s7_dawn_140, am_k1_int, am_k1_ref, am_k1_none, am_cats_nil, am_cats_int, am_cats_ref, am_cats_long, Option.toList_some, Option.toList_none, List.singleton_append, List.nil_append, List.cons_append, true_and, and_true, if_true, if_false, va_rf, ↓reduceIte, Nat.reduceAdd, Nat.reduceMul, Nat.reduceSub, Nat.reduceLT, Nat.reduceLeDiff, Nat.reduceEqDiff, Nat.zero_le, Nat.add_zero, Nat.le_refl, nI_add, mul_nI, lt_nI, le_nI, eq_nI, bnd_nI, ci_nI, decide_eq_true_eq, decide_true, decide_false, Bool.true_or, Bool.or_true, Bool.or_false, Bool.false_or, not_true_eq_false, not_false_eq_true, Bool.false_eq_true, Bool.false_and, Bool.true_and, Bool.and_true, Bool.and_false, Bool.not_true, Bool.not_false, false_and, and_false, and_self, ob_1, rf_1_0, rf_1_1, rf_1_2, rf_1_3, rf_1_4, rf_1_5, rf_1_6, rf_1_7, rf_1_8, ob_2, rf_2_0, ib_3, rd_3, ob_4, rf_4_1, rf_4_2, rf_4_3, rf_4_5, rf_4_6, rf_4_7, rf_4_8, ib_5, rd_5, ib_6, rd_6, ib_7, rd_7, ib_8, rd_8, ib_9, rd_9, ib_10, rd_10, ib_11, rd_11, ob_12, rf_12_1, rf_12_2, rf_12_3, rf_12_5, rf_12_6, rf_12_7, rf_12_8, ib_13, rd_13, ib_14, rd_14, ib_15, rd_15, ib_16, rd_16, ib_17, rd_17, ib_18, rd_18, ib_19, rd_19, ob_20, rf_20_3, rf_20_4, ib_21, rd_21, ib_22, rd_22, ob_23, rf_23_0, ib_24, ix_24, rf_24_0, rf_24_1, rf_24_2, rf_24_3, rf_24_4, rf_24_5, rf_24_6, rf_24_7, rf_24_8, rf_24_9, ib_55, ix_55, rf_55_0, rf_55_1, ib_56, ob_57, rf_57_0, rf_57_1, ib_58, rd_58, ib_59, ob_60, rf_60_2, rf_60_3, rf_60_4, rf_60_5, rf_60_6, ib_61, rd_61, ib_62, ib_63, ix_63, rf_63_0, rf_63_1, rf_63_2, rf_63_3, rf_63_4, ob_77, rf_77_1, rf_77_3, rf_77_4, rf_77_5, rf_77_6, rf_77_8, rf_77_9, rf_77_10, rf_77_16, rf_77_17, rf_77_18, rf_77_19, rf_77_20, ib_78, rd_78, ib_79, rd_79, ib_80, rd_80, ib_81, rd_81, ib_82, rd_82, ib_83, rd_83, ib_84, ib_85, rd_85, ib_86, rd_86, ib_87, rd_87, ib_88, ib_89, rd_89, ib_90, rd_90, c6_isDawn hT a2 o1, u0, r0, t0, hw2, hw, Nat.lt_irrefl, bi_ret, bi_t, bi_f, ite_bi2]
    exact ⟨⟨_, rfl⟩, sw, I, J, rfl, fun _ => rfl, hR⟩
  have hw2 : ¬ sn 0 = tn 0 := by omega
  obtain ⟨p0, p1, p2, p3, p4, -⟩ := id hP
  obtain ⟨I1, hI1⟩ : ∃ I1, I1 = am_up (am_up (am_bec I (25 + 3 * nx) 20) 23 1 (nI ((nx + 1) % 10))) 23 2 (nI (min (m + 1) 10)) := ⟨_, rfl⟩
  have hrem : ∀ Q, am_call (d + 5) m1_remember [.ref 23, .ref 20] (am_sh n, I, J, am_Rf sw) Q ↔ Q none (am_sh n, I1, J, am_Rf sw) := by
    intro Q
    rw [hI1]
    exact c1_remember p1 p0 p2 p3
  have i20 : I1 20 = I 20 := by rw [hI1]; simp (disch := omega) only [am_up_ne, bec_row]
  have i21 : I1 21 = I 21 := by rw [hI1]; simp (disch := omega) only [am_up_ne, bec_row]
  have i22 : I1 22 = I 22 := by rw [hI1]; simp (disch := omega) only [am_up_ne, bec_row]
  have iT : I1 T = I T := by
    rw [hI1]
    have hT2 := tbr_or hT
    simp (disch := omega) only [am_up_ne, bec_row]
  obtain ⟨G, hG⟩ : ∃ G, G = am_gb (nI (sn 2)) (nI (tn 3)) (I 22) (tn 1) := ⟨_, rfl⟩
  obtain ⟨I2, hI2⟩ : ∃ I2, I2 = am_up (am_up (am_row I1 22 G.2.2) 20 1 (nI 0)) 20 0 (nI (sn 0 + 1)) := ⟨_, rfl⟩
  have hgo : ∀ Q, am_call (d + 5) m3_goBy [.ref 20, .int (nI (tn 1)), .int (nI (tn 3))] (am_sh n, I1, J, am_Rf sw) Q ↔ Q (some (.int G.2.1)) (am_sh n, I2, J, am_Rf sw) := by
    intro Q
    rw [c3_goBy st20 o2, hI2, hG]
    simp only [Nat.reduceAdd]
    rw [i20, i22, u0, u2, nI_add]
  obtain ⟨I3, hI3⟩ : ∃ I3, I3 = am_up (am_row I2 82 (am_kp I2 m)) 77 7 (nI (min (m + 1) 10)) := ⟨_, rfl⟩
  have hkp : ∀ Q, am_call (d + 5) m7_keeps [.ref 77] (am_sh n, I2, J, am_Rf sw) Q ↔ Q none (am_sh n, I3, J, am_Rf sw) := by
    intro Q
    rw [hI3]
    refine c7_keeps p0 ?_
    rw [hI2, hI1]
    simp (disch := omega) only [up_n, row_n, bec_n, p4]
  have i81 : I3 81 = I 81 := by rw [hI3, hI2, hI1]; simp (disch := omega) only [am_up_ne, am_row_ne, bec_row]
  have i79 : I3 79 = I 79 := by rw [hI3, hI2, hI1]; simp (disch := omega) only [am_up_ne, am_row_ne, bec_row]
  have m81 : I2 81 = I 81 := by rw [hI2, hI1]; simp (disch := omega) only [am_up_ne, am_row_ne, bec_row]
  have m79 : I2 79 = I 79 := by rw [hI2, hI1]; simp (disch := omega) only [am_up_ne, am_row_ne, bec_row]
  have key : am_call (d + 6) m6_dawn [.ref 1] (am_sh n, I, J, am_Rf sw) (fun v M1 => v = some (.int G.2.1) ∧ M1 = (am_sh n, I2, J, am_Rf sw)) := by
    rcases id hT with ⟨rfl, rfl⟩ | ⟨rfl, rfl⟩ <;> simp (disch := omega) only [e6_dawn, s6_dawn_0, s6_dawn_1, s6_dawn_2, s6_dawn_5, s6_dawn_8, s6_dawn_11, s6_dawn_14, s6_dawn_16, s6_dawn_17, s6_dawn_18, s6_dawn_21, s6_dawn_22, s6_dawn_25, s6_dawn_28, s6_dawn_29, s6_dawn_32, s6_dawn_33, s6_dawn_36, s6_dawn_39, s6_dawn_40, s6_dawn_43, s6_dawn_46, s6_dawn_49, am_k1_int, am_k1_ref, am_k1_none, am_cats_nil, am_cats_int, am_cats_ref, am_cats_long, Option.toList_some, Option.toList_none, List.singleton_append, List.nil_append, List.cons_append, true_and, and_true, if_true, if_false, va_rf, ↓reduceIte, Nat.reduceAdd, Nat.reduceMul, Nat.reduceSub, Nat.reduceLT, Nat.reduceLeDiff, Nat.reduceEqDiff, Nat.zero_le, Nat.add_zero, Nat.le_refl, nI_add, mul_nI, lt_nI, le_nI, eq_nI, bnd_nI, ci_nI, decide_eq_true_eq, decide_true, decide_false, Bool.true_or, Bool.or_true, Bool.or_false, Bool.false_or, not_true_eq_false, not_false_eq_true, Bool.false_eq_true, Bool.false_and, Bool.true_and, Bool.and_true, Bool.and_false, Bool.not_true, Bool.not_false, false_and, and_false, and_self, ob_1, rf_1_0, rf_1_1, rf_1_2, rf_1_3, rf_1_4, rf_1_5, rf_1_6, rf_1_7, rf_1_8, ob_2, rf_2_0, ib_3, rd_3, ob_4, rf_4_1, rf_4_2, rf_4_3, rf_4_5, rf_4_6, rf_4_7, rf_4_8, ib_5, rd_5, ib_6, rd_6, ib_7, rd_7, ib_8, rd_8, ib_9, rd_9, ib_10, rd_10, ib_11, rd_11, ob_12, rf_12_1, rf_12_2, rf_12_3, rf_12_5, rf_12_6, rf_12_7, rf_12_8, ib_13, rd_13, ib_14, rd_14, ib_15, rd_15, ib_16, rd_16, ib_17, rd_17, ib_18, rd_18, ib_19, rd_19, ob_20, rf_20_3, rf_20_4, ib_21, rd_21, ib_22, rd_22, ob_23, rf_23_0, ib_24, ix_24, rf_24_0, rf_24_1, rf_24_2, rf_24_3, rf_24_4, rf_24_5, rf_24_6, rf_24_7, rf_24_8, rf_24_9, ib_55, ix_55, rf_55_0, rf_55_1, ib_56, ob_57, rf_57_0, rf_57_1, ib_58, rd_58, ib_59, ob_60, rf_60_2, rf_60_3, rf_60_4, rf_60_5, rf_60_6, ib_61, rd_61, ib_62, ib_63, ix_63, rf_63_0, rf_63_1, rf_63_2, rf_63_3, rf_63_4, tb_t, tb_f, c6_isDawn hT a2 o1, u0, hw, hrem, iT, a3, a5, hgo, bi_ret, bi_t, bi_f, ite_bi2]
  refine am_call_mono _ _ _ _ _ _ ?_ key
  rintro v M1 ⟨rfl, rfl⟩
  have hrow : am_row I3 81 (am_mrow (I3 81) (I 22)) = I3 := by
    funext a j
    by_cases ha : a = 81
    · subst ha
      rw [row_s, i81]
      unfold am_mrow
      by_cases hj : 7 ≤ j ∧ j < 31
      · rw [if_pos hj, u4 (j - 7) (by omega), hS.1 j (by omega)]
        congr 2
        omega
      · rw [if_neg hj]
    · rw [row_n ha]
  have hmod : am_call (d + 6) m7_dawn [.ref 77] (am_sh n, I2, J, am_Rf sw) (fun v M2 => v = some (.int G.2.1) ∧ M2 = (am_sh n, am_up (am_up (am_row I3 81 (am_mrow (I 81) G.2.2)) 81 1 (nI 0)) 81 0 (nI (sn 0 + 1)), J, am_Rf sw)) := by
    have hl := fun Q => l7_dawn (d := d + 4) (n := n) (J := J) (sw := sw) (I := I3) (Q := Q) (ce := nI (tn 3)) (h := I 22) (r := I3 81) (dr := nI (sn 2)) o2 (by rw [i79]; exact t1) (by rw [i81]; exact r2) (tn 1) 0 none none (by omega)
    simp only [am_gb, hrow] at hl
    rw [← hG] at hl
    simp (disch := omega) only [e7_dawn, s7_dawn_0, s7_dawn_1, s7_dawn_4, s7_dawn_5, s7_dawn_6, s7_dawn_7, s7_dawn_10, s7_dawn_11, s7_dawn_12, s7_dawn_15, s7_dawn_17, s7_dawn_18, s7_dawn_19, s7_dawn_22, s7_dawn_23, s7_dawn_26, s7_dawn_27, s7_dawn_28, s7_dawn_29, s7_dawn_30, s7_dawn_31, s7_dawn_32, s7_dawn_34, s7_dawn_35, s7_dawn_38, s7_dawn_39, s7_dawn_40, s7_dawn_43, s7_dawn_44, s7_dawn_47, s7_dawn_48, s7_dawn_49, s7_dawn_50, s7_dawn_53, s7_dawn_56, s7_dawn_57, s7_dawn_60, s7_dawn_61, s7_dawn_62, s7_dawn_65, s7_dawn_67, s7_dawn_69, s7_dawn_70, s7_dawn_73, s7_dawn_74, s7_dawn_76, s7_dawn_77, s7_dawn_78, s7_dawn_79, s7_dawn_81, s7_dawn_83, s7_dawn_84, s7_dawn_87, s7_dawn_88, s7_dawn_91, s7_dawn_93, s7_dawn_94, s7_dawn_95, s7_dawn_96, s7_dawn_97, s7_dawn_99, s7_dawn_100, s7_dawn_101, s7_dawn_102, s7_dawn_105, s7_dawn_108, s7_dawn_111, s7_dawn_112, s7_dawn_114, s7_dawn_115, s7_dawn_116, s7_dawn_119, s7_dawn_122, s7_dawn_123, s7_dawn_126, s7_dawn_127, s7_dawn_128, s7_dawn_129, s7_dawn_130, s7_dawn_133, s7_dawn_134, s7_dawn_135, s7_dawn_136, s7_dawn_137, s7_dawn_138, s7_dawn_139, s7_dawn_140, am_k1_int, am_k1_ref, am_k1_none, am_cats_nil, am_cats_int, am_cats_ref, am_cats_long, Option.toList_some, Option.toList_none, List.singleton_append, List.nil_append, List.cons_append, true_and, and_true, if_true, if_false, va_rf, ↓reduceIte, Nat.reduceAdd, Nat.reduceMul, Nat.reduceSub, Nat.reduceLT, Nat.reduceLeDiff, Nat.reduceEqDiff, Nat.zero_le, Nat.add_zero, Nat.le_refl, nI_add, mul_nI, lt_nI, le_nI, eq_nI, bnd_nI, ci_nI, decide_eq_true_eq, decide_true, decide_false, Bool.true_or, Bool.or_true, Bool.or_false, Bool.false_or, not_true_eq_false, not_false_eq_true, Bool.false_eq_true, Bool.false_and, Bool.true_and, Bool.and_true, Bool.and_false, Bool.not_true, Bool.not_false, false_and, and_false, and_self, ob_77, rf_77_1, rf_77_3, rf_77_4, rf_77_5, rf_77_6, rf_77_8, rf_77_9, rf_77_10, rf_77_16, rf_77_17, rf_77_18, rf_77_19, rf_77_20, ib_78, rd_78, ib_79, rd_79, ib_80, rd_80, ib_81, rd_81, ib_82, rd_82, ib_83, rd_83, ib_84, ib_85, rd_85, ib_86, rd_86, ib_87, rd_87, ib_88, ib_89, rd_89, ib_90, rd_90, m79, m81, i79, r0, t0, t3, hw2, hkp]
    rw [hl, i81, r0, nI_add]
    exact ⟨rfl, rfl⟩
  refine am_call_mono _ _ _ _ _ _ ?_ hmod
  rintro v M2 ⟨rfl, rfl⟩
  obtain ⟨g, g1, g2⟩ := gb_num (dr := nI (sn 2)) (ce := nI (tn 3)) (s := fun q => sn (7 + q)) u4 (tn 1)
  rw [← hG] at g1
  have hok : ar_ok tn (ar_dw sn g) := by
    refine ⟨fun j => ?_, ?_, hs2, fun c hc => ?_⟩
    · have h1 := hle j
      have h2 : g (j - 7) ≤ sn (7 + (j - 7)) := g2 (j - 7)
      have h3 := hle (7 + (j - 7))
      unfold ar_dw
      split
      · omega
      · split
        · omega
        · split <;> omega
    · show sn 0 + 1 ≤ tn 0
      omega
    · have h1 := hsum c hc
      have e : ∀ e, ar_dw sn g (7 + 4 * c + e) ≤ sn (7 + 4 * c + e) := by
        intro e
        have h2 : g (7 + 4 * c + e - 7) ≤ sn (7 + (7 + 4 * c + e - 7)) := g2 (7 + 4 * c + e - 7)
        rw [show 7 + (7 + 4 * c + e - 7) = 7 + 4 * c + e by omega] at h2
        unfold ar_dw
        rw [if_neg (by omega), if_neg (by omega), if_neg (by omega)]
        exact h2
      have e0 := e 0
      have e1 := e 1
      have e2 := e 2
      have e3 := e 3
      simp only [Nat.add_zero] at e0
      omega
  obtain ⟨I4, hI4⟩ : ∃ I4, I4 = am_up (am_up (am_row I3 81 (am_mrow (I 81) G.2.2)) 81 1 (nI 0)) 81 0 (nI (sn 0 + 1)) := ⟨_, rfl⟩
  rw [← hI4]
  have n20 : I4 20 = am_up (am_up I 20 1 (nI 0)) 20 0 (nI (sn 0 + 1)) 20 := by
    rw [hI4, hI3, hI2]
    simp (disch := omega) only [am_up_ne, am_row_ne, am_up_eq, i20]
  have n21 : I4 21 = I 21 := by rw [hI4, hI3, hI2, hI1]; simp (disch := omega) only [am_up_ne, am_row_ne, bec_row]
  have n22 : I4 22 = G.2.2 := by rw [hI4, hI3, hI2, hI1]; simp (disch := omega) only [am_up_ne, am_row_ne, am_row_eq]
  have hS4 : ar_S tn (ar_dw sn g) I4 := by
    refine ⟨fun j hj => ?_, hok, ?_, ?_, ?_, fun e he => ?_, fun q hq => ?_⟩
    · rw [hI4]
      unfold ar_dw
      by_cases b0 : j = 0
      · subst b0; rw [up_s, if_pos rfl]
      · rw [up_n (by omega), if_neg b0]
        by_cases b1 : j = 1
        · subst b1; rw [up_s, if_pos rfl]
        · rw [up_n (by omega), if_neg b1, row_s]
          unfold am_mrow
          by_cases b2 : j < 7
          · rw [if_pos b2, if_neg (by omega)]
            exact hS.1 j hj
          · rw [if_neg b2, if_pos (by omega)]
            exact g1 (j - 7) (by omega)
    · rw [n20, up_s]; rfl
    · rw [n20, up_n (by omega), up_s]; rfl
    · rw [n20, up_n (by omega), up_n (by omega)]
      exact u2
    · rw [n21]
      refine (u3 e he).trans ?_
      unfold ar_dw
      rw [if_neg (by omega), if_neg (by omega), if_pos (by omega)]
    · rw [n22, g1 q hq]
      unfold ar_dw
      rw [if_neg (by omega), if_neg (by omega), if_neg (by omega), Nat.add_sub_cancel_left]
  refine ⟨rfl, ⟨_, rfl⟩, sw, I4, J, rfl, fun j => ?_, T, tn, ar_dw sn g, ar_pk pn sn m, im, tx, fm, fi, (nx + 1) % 10, min (m + 1) 10, ln, pm, hT, hO, fr_T_ hT ⟨?_, ?_⟩ hA, hS4, P_keep o1 hP hS ?_ ?_ ?_ ?_ ?_, fr_I_ ⟨?_, ?_, ?_, ?_⟩ hI, fr_X_ ⟨?_, ?_, ?_, ?_⟩ hX, fr_F_ ⟨?_, ?_, ?_, ?_, ?_⟩ hF, fr_C_ hO ⟨?_, ?_, ?_, ?_⟩ hC, hJ⟩ <;> rw [hI4, hI3] <;> intros <;> simp (disch := omega) only [am_up_ne, am_row_ne, am_row_eq, up_n, up_s, row_n, bec_row, bec_n, hI2, hI1]
  refine kp_fr ?_ ?_ <;> simp (disch := omega) only [am_up_ne, am_row_ne, bec_row]
end
