/-! the reference's order -/
theorem m1_ne {x : Nat} (h : x < 1000) : ¬ nI x = -1 := by
  intro q
  have := congrArg Int32.toInt q
  rw [nI_toInt (by omega)] at this
  have h2 : (-1 : Int32).toInt = -1 := by decide
  omega
section
variable {n d T : Nat} {tn : Nat → Nat} {I0 : Nat → Nat → Int32} {J : Nat → Nat → Int64} {sw : Bool} {Q : am_Post}
set_option maxHeartbeats 4000000 in
theorem l7_roundC {S k W D R t i : Nat} (hO : ar_told tn) (hA : ∀ j, j < 42 → I0 79 j = nI (tn j)) (hU : ∀ y, y < 2 ^ tn 1 → I0 86 y = nI (am_sm (fun c => tn (24 + c)) y (tn 1))) (hst : ar_st tn W D R t) (hS : S = D ||| R) (hS2 : S < 2 ^ tn 1) : ∀ (r c : Nat) (I : Nat → Nat → Int32) (l9 l10 : Option Value), c + r = tn 1 → (∀ a, a ≠ 87 → I a = I0 a) → (∀ I' c' l9 l10, (∀ a, a ≠ 87 → I' a = I0 a) → am_wp (d + 2) m7_round 198 [some (.ref 77), some (.int (nI S)), some (.int (nI k)), some (.int (nI W)), some (.int (nI D)), some (.int (nI t)), some (.int (am_on (am_lo tn W R (am_sm (fun c => tn (24 + c)) D (tn 1)) r c))), some (.int (nI i)), some (.int (nI c')), l9, l10] [] (am_sh n, I', J, am_Rf sw) Q) → am_wp (d + 2) m7_round 87 [some (.ref 77), some (.int (nI S)), some (.int (nI k)), some (.int (nI W)), some (.int (nI D)), some (.int (nI t)), some (.int (-9)), some (.int (nI i)), some (.int (nI c)), l9, l10] [] (am_sh n, I, J, am_Rf sw) Q
  | 0, c, I, l9, l10, hm, hI, hq => by
    have o2 := hO.2.1
    obtain rfl : c = tn 1 := by omega
    have t1 : I 79 1 = nI (tn 1) := by rw [hI 79 (by omega)]; exact hA 1 (by omega)
    rw [s7_round_87]
    simp (disch := omega) only [s7_round_89, s7_round_90, s7_round_93, s7_round_94, s7_round_95, am_k1_int, am_k1_ref, am_k1_none, am_cats_nil, am_cats_int, am_cats_ref, am_cats_long, Option.toList_some, Option.toList_none, List.singleton_append, List.nil_append, List.cons_append, true_and, and_true, if_true, if_false, va_rf, ↓reduceIte, Nat.reduceAdd, Nat.reduceMul, Nat.reduceSub, Nat.reduceLT, Nat.reduceLeDiff, Nat.reduceEqDiff, Nat.zero_le, Nat.add_zero, Nat.le_refl, nI_add, mul_nI, lt_nI, le_nI, eq_nI, bnd_nI, ci_nI, decide_eq_true_eq, decide_true, decide_false, Bool.true_or, Bool.or_true, Bool.or_false, Bool.false_or, not_true_eq_false, not_false_eq_true, Bool.false_eq_true, Bool.false_and, Bool.true_and, Bool.and_true, Bool.and_false, Bool.not_true, Bool.not_false, false_and, and_false, and_self, ob_77, rf_77_1, rf_77_3, rf_77_4, rf_77_5, rf_77_6, rf_77_8, rf_77_9, rf_77_10, rf_77_16, rf_77_17, rf_77_18, rf_77_19, rf_77_20, ib_79, rd_79, t1]
    exact hq I (tn 1) l9 l10 hI
  | r + 1, c, I, l9, l10, hm, hI, hq => by
    have o2 := hO.2.1
    have p6 := (pow2_6 o2).1
    have hc6 : c < 6 := by omega
    have h1 : ¬ tn 1 ≤ c := by omega
    have t1 : I 79 1 = nI (tn 1) := by rw [hI 79 (by omega)]; exact hA 1 (by omega)
    have t36 : I 79 (36 + c) = nI (tn (36 + c)) := by rw [hI 79 (by omega)]; exact hA _ (by omega)
    have q36 : 36 + c < 42 := by omega
    have p5 := pw6 hc6
    obtain ⟨d1, d2, d3, d4, d5, d6⟩ := id hst
    have hR6 : R < 64 := by omega
    have hS6 : S < 64 := by omega
    have hdf : S &&& (63 - D) = R := by rw [hS]; exact or_df d1 hR6 d3
    have hi := isb_nI (a := R) (c := c) (by omega) (by omega)
    have ih := fun I' l9' l10' (h : ∀ a, a ≠ 87 → I' a = I0 a) hq => l7_roundC (k := k) (i := i) hO hA hU hst hS hS2 r (c + 1) I' l9' l10' (by omega) h hq
    rw [s7_round_87]
    cases hb : R.testBit c with
    | false =>
      rw [hb] at hi
      have hpk : am_pk tn W R (am_sm (fun c => tn (24 + c)) D (tn 1)) c = false := by
        unfold am_pk
        rw [hb, Bool.false_and]
      rw [show am_lo tn W R (am_sm (fun c => tn (24 + c)) D (tn 1)) (r + 1) c = am_lo tn W R (am_sm (fun c => tn (24 + c)) D (tn 1)) r (c + 1) from if_neg (by rw [hpk]; decide)] at hq
      simp (disch := omega) only [s7_round_89, s7_round_90, s7_round_93, s7_round_94, s7_round_95, s7_round_98, s7_round_100, s7_round_102, s7_round_105, s7_round_106, s7_round_108, s7_round_109, s7_round_110, s7_round_111, s7_round_113, s7_round_116, s7_round_192, s7_round_195, am_k1_int, am_k1_ref, am_k1_none, am_cats_nil, am_cats_int, am_cats_ref, am_cats_long, Option.toList_some, Option.toList_none, List.singleton_append, List.nil_append, List.cons_append, true_and, and_true, if_true, if_false, va_rf, ↓reduceIte, Nat.reduceAdd, Nat.reduceMul, Nat.reduceSub, Nat.reduceLT, Nat.reduceLeDiff, Nat.reduceEqDiff, Nat.zero_le, Nat.add_zero, Nat.le_refl, nI_add, mul_nI, lt_nI, le_nI, eq_nI, bnd_nI, ci_nI, decide_eq_true_eq, decide_true, decide_false, Bool.true_or, Bool.or_true, Bool.or_false, Bool.false_or, not_true_eq_false, not_false_eq_true, Bool.false_eq_true, Bool.false_and, Bool.true_and, Bool.and_true, Bool.and_false, Bool.not_true, Bool.not_false, false_and, and_false, and_self, ob_77, rf_77_1, rf_77_3, rf_77_4, rf_77_5, rf_77_6, rf_77_8, rf_77_9, rf_77_10, rf_77_16, rf_77_17, rf_77_18, rf_77_19, rf_77_20, ib_79, rd_79, t1, h1, andn_nI, hdf, c7_isOf, hi, bi_f, ite_bi2]
      exact ih I _ _ hI hq
    | true =>
      rw [hb] at hi
      obtain ⟨g1, g2, g3, g4⟩ := st_test hO hst (show c < tn 1 by omega) hb
      obtain ⟨w1, w2, w3, w4, w5, w6, w7, w8⟩ := or_wo d1 hR6 hc6 d3 hb
      have hM : D ||| 2 ^ c < 2 ^ tn 1 := by
        refine Nat.or_lt_two_pow ?_ (Nat.pow_lt_pow_right (by decide) (by omega))
        have : D ≤ S := by rw [hS]; exact Nat.left_le_or
        omega
      have u86 : I 86 (D ||| 2 ^ c) = nI (am_sm (fun c => tn (24 + c)) (D ||| 2 ^ c) (tn 1)) := by rw [hI 86 (by omega)]; exact hU _ hM
      have hA1 : ∀ j, j < 42 → I 79 j = nI (tn j) := fun j hj => by rw [hI 79 (by omega)]; exact hA j hj
      have hU1 : ∀ y, y < 2 ^ tn 1 → I 86 y = nI (am_sm (fun c => tn (24 + c)) y (tn 1)) := fun y hy => by rw [hI 86 (by omega)]; exact hU y hy
      have hn := need_le hO (D ||| 2 ^ c)
      obtain ⟨E, hE⟩ : ∃ E, E = max t (am_sm (fun c => tn (24 + c)) (D ||| 2 ^ c) (tn 1)) + tn (36 + c) := ⟨_, rfl⟩
      rw [← hE] at g2 g3 g4
      have v36 := (hO.2.2.2.2.2.2.1 c hc6).2.2.2
      have hcall : am_call (d + 2) m7_reckons [.ref 77, .int (nI (D ||| 2 ^ c)), .int (nI E)] (am_sh n, I, J, am_Rf sw) (fun v M' => am_wp (d + 2) m7_round 173 [some (.ref 77), some (.int (nI S)), some (.int (nI k)), some (.int (nI W)), some (.int (nI D)), some (.int (nI t)), some (.int (-9)), some (.int (nI i)), some (.int (nI c)), some (.int (nI (D ||| 2 ^ c))), some (.int (nI E))] (v.toList ++ []) M' Q) := by
        refine c7_reckons hO hA1 w7 g4 hU1 (fun I3 hV => ?_)
        have hI3 : ∀ a, a ≠ 87 → I3 a = I0 a := fun a ha => by rw [hV.1 a ha, hI a ha]
        have e87 := hV.2 S hS2
        have hle := rkT_le (tn := tn) (F := D ||| 2 ^ c) (t := E) (S + 1) S
        have hle2 : am_rk tn (D ||| 2 ^ c) E S ≤ 6000 + E := hle
        rw [← hS] at g2
        simp only [Option.toList_none, List.nil_append]
        rw [s7_round_173]
        by_cases hw : am_rk tn (D ||| 2 ^ c) E S = W
        · have hpk := g2.mp hw
          rw [show am_lo tn W R (am_sm (fun c => tn (24 + c)) D (tn 1)) (r + 1) c = some c from if_pos hpk] at hq
          simp only [am_on] at hq
          have h9 := ne9 hc6
          have t1' : I3 79 1 = nI (tn 1) := by rw [hI3 79 (by omega)]; exact hA 1 (by omega)
          by_cases hl : tn 1 ≤ c + 1
          · simp (disch := omega) only [s7_round_174, s7_round_177, s7_round_178, s7_round_179, s7_round_180, s7_round_183, s7_round_185, s7_round_188, s7_round_190, s7_round_192, s7_round_195, s7_round_87, s7_round_89, s7_round_90, s7_round_93, s7_round_94, s7_round_95, s7_round_98, s7_round_100, s7_round_102, am_k1_int, am_k1_ref, am_k1_none, am_cats_nil, am_cats_int, am_cats_ref, am_cats_long, Option.toList_some, Option.toList_none, List.singleton_append, List.nil_append, List.cons_append, true_and, and_true, if_true, if_false, va_rf, ↓reduceIte, Nat.reduceAdd, Nat.reduceMul, Nat.reduceSub, Nat.reduceLT, Nat.reduceLeDiff, Nat.reduceEqDiff, Nat.zero_le, Nat.add_zero, Nat.le_refl, nI_add, mul_nI, lt_nI, le_nI, eq_nI, bnd_nI, ci_nI, decide_eq_true_eq, decide_true, decide_false, Bool.true_or, Bool.or_true, Bool.or_false, Bool.false_or, not_true_eq_false, not_false_eq_true, Bool.false_eq_true, Bool.false_and, Bool.true_and, Bool.and_true, Bool.and_false, Bool.not_true, Bool.not_false, false_and, and_false, and_self, ob_77, rf_77_1, rf_77_3, rf_77_4, rf_77_5, rf_77_6, rf_77_8, rf_77_9, rf_77_10, rf_77_16, rf_77_17, rf_77_18, rf_77_19, rf_77_20, ib_79, rd_79, ib_87, rd_87, t1', hS6, e87, hw, hl, h9]
            exact hq I3 (c + 1) _ _ hI3
          · simp (disch := omega) only [s7_round_174, s7_round_177, s7_round_178, s7_round_179, s7_round_180, s7_round_183, s7_round_185, s7_round_188, s7_round_190, s7_round_192, s7_round_195, s7_round_87, s7_round_89, s7_round_90, s7_round_93, s7_round_94, s7_round_95, s7_round_98, s7_round_100, s7_round_102, am_k1_int, am_k1_ref, am_k1_none, am_cats_nil, am_cats_int, am_cats_ref, am_cats_long, Option.toList_some, Option.toList_none, List.singleton_append, List.nil_append, List.cons_append, true_and, and_true, if_true, if_false, va_rf, ↓reduceIte, Nat.reduceAdd, Nat.reduceMul, Nat.reduceSub, Nat.reduceLT, Nat.reduceLeDiff, Nat.reduceEqDiff, Nat.zero_le, Nat.add_zero, Nat.le_refl, nI_add, mul_nI, lt_nI, le_nI, eq_nI, bnd_nI, ci_nI, decide_eq_true_eq, decide_true, decide_false, Bool.true_or, Bool.or_true, Bool.or_false, Bool.false_or, not_true_eq_false, not_false_eq_true, Bool.false_eq_true, Bool.false_and, Bool.true_and, Bool.and_true, Bool.and_false, Bool.not_true, Bool.not_false, false_and, and_false, and_self, ob_77, rf_77_1, rf_77_3, rf_77_4, rf_77_5, rf_77_6, rf_77_8, rf_77_9, rf_77_10, rf_77_16, rf_77_17, rf_77_18, rf_77_19, rf_77_20, ib_79, rd_79, ib_87, rd_87, t1', hS6, e87, hw, hl, h9]
            exact hq I3 (c + 1) _ _ hI3
        · have hpk : ¬ am_pk tn W R (am_sm (fun c => tn (24 + c)) D (tn 1)) c = true := fun q => hw (g2.mpr q)
          rw [show am_lo tn W R (am_sm (fun c => tn (24 + c)) D (tn 1)) (r + 1) c = am_lo tn W R (am_sm (fun c => tn (24 + c)) D (tn 1)) r (c + 1) from if_neg hpk] at hq
          simp (disch := omega) only [s7_round_174, s7_round_177, s7_round_178, s7_round_179, s7_round_180, s7_round_183, s7_round_185, s7_round_188, s7_round_190, s7_round_192, s7_round_195, am_k1_int, am_k1_ref, am_k1_none, am_cats_nil, am_cats_int, am_cats_ref, am_cats_long, Option.toList_some, Option.toList_none, List.singleton_append, List.nil_append, List.cons_append, true_and, and_true, if_true, if_false, va_rf, ↓reduceIte, Nat.reduceAdd, Nat.reduceMul, Nat.reduceSub, Nat.reduceLT, Nat.reduceLeDiff, Nat.reduceEqDiff, Nat.zero_le, Nat.add_zero, Nat.le_refl, nI_add, mul_nI, lt_nI, le_nI, eq_nI, bnd_nI, ci_nI, decide_eq_true_eq, decide_true, decide_false, Bool.true_or, Bool.or_true, Bool.or_false, Bool.false_or, not_true_eq_false, not_false_eq_true, Bool.false_eq_true, Bool.false_and, Bool.true_and, Bool.and_true, Bool.and_false, Bool.not_true, Bool.not_false, false_and, and_false, and_self, ob_77, rf_77_1, rf_77_3, rf_77_4, rf_77_5, rf_77_6, rf_77_8, rf_77_9, rf_77_10, rf_77_16, rf_77_17, rf_77_18, rf_77_19, rf_77_20, ib_79, rd_79, ib_87, rd_87, hS6, e87, hw]
          exact ih I3 _ _ hI3 hq
      by_cases k1 : t ≤ am_sm (fun c => tn (24 + c)) (D ||| 2 ^ c) (tn 1)
      · have hE2 : am_sm (fun c => tn (24 + c)) (D ||| 2 ^ c) (tn 1) + tn (36 + c) = E := by omega
        simp (disch := omega) only [s7_round_89, s7_round_90, s7_round_93, s7_round_94, s7_round_95, s7_round_98, s7_round_100, s7_round_102, s7_round_105, s7_round_106, s7_round_108, s7_round_109, s7_round_110, s7_round_111, s7_round_113, s7_round_116, s7_round_119, s7_round_121, s7_round_122, s7_round_124, s7_round_125, s7_round_126, s7_round_128, s7_round_130, s7_round_131, s7_round_134, s7_round_136, s7_round_137, s7_round_140, s7_round_142, s7_round_145, s7_round_146, s7_round_149, s7_round_151, s7_round_152, s7_round_153, s7_round_156, s7_round_158, s7_round_160, s7_round_161, s7_round_162, s7_round_163, s7_round_165, s7_round_166, s7_round_168, s7_round_170, am_k1_int, am_k1_ref, am_k1_none, am_cats_nil, am_cats_int, am_cats_ref, am_cats_long, Option.toList_some, Option.toList_none, List.singleton_append, List.nil_append, List.cons_append, true_and, and_true, if_true, if_false, va_rf, ↓reduceIte, Nat.reduceAdd, Nat.reduceMul, Nat.reduceSub, Nat.reduceLT, Nat.reduceLeDiff, Nat.reduceEqDiff, Nat.zero_le, Nat.add_zero, Nat.le_refl, nI_add, mul_nI, lt_nI, le_nI, eq_nI, bnd_nI, ci_nI, decide_eq_true_eq, decide_true, decide_false, Bool.true_or, Bool.or_true, Bool.or_false, Bool.false_or, not_true_eq_false, not_false_eq_true, Bool.false_eq_true, Bool.false_and, Bool.true_and, Bool.and_true, Bool.and_false, Bool.not_true, Bool.not_false, false_and, and_false, and_self, ob_77, rf_77_1, rf_77_3, rf_77_4, rf_77_5, rf_77_6, rf_77_8, rf_77_9, rf_77_10, rf_77_16, rf_77_17, rf_77_18, rf_77_19, rf_77_20, ib_79, rd_79, ib_86, rd_86, t1, h1, andn_nI, hdf, c7_isOf, hi, bi_t, ite_bi2, shl_nI, Nat.one_mul, or_nI, w7, u86, t36, q36, k1, hE2]
        exact hcall
      · have hE2 : t + tn (36 + c) = E := by omega
        simp (disch := omega) only [s7_round_89, s7_round_90, s7_round_93, s7_round_94, s7_round_95, s7_round_98, s7_round_100, s7_round_102, s7_round_105, s7_round_106, s7_round_108, s7_round_109, s7_round_110, s7_round_111, s7_round_113, s7_round_116, s7_round_119, s7_round_121, s7_round_122, s7_round_124, s7_round_125, s7_round_126, s7_round_128, s7_round_130, s7_round_131, s7_round_134, s7_round_136, s7_round_137, s7_round_140, s7_round_142, s7_round_145, s7_round_146, s7_round_149, s7_round_151, s7_round_152, s7_round_153, s7_round_156, s7_round_158, s7_round_160, s7_round_161, s7_round_162, s7_round_163, s7_round_165, s7_round_166, s7_round_168, s7_round_170, am_k1_int, am_k1_ref, am_k1_none, am_cats_nil, am_cats_int, am_cats_ref, am_cats_long, Option.toList_some, Option.toList_none, List.singleton_append, List.nil_append, List.cons_append, true_and, and_true, if_true, if_false, va_rf, ↓reduceIte, Nat.reduceAdd, Nat.reduceMul, Nat.reduceSub, Nat.reduceLT, Nat.reduceLeDiff, Nat.reduceEqDiff, Nat.zero_le, Nat.add_zero, Nat.le_refl, nI_add, mul_nI, lt_nI, le_nI, eq_nI, bnd_nI, ci_nI, decide_eq_true_eq, decide_true, decide_false, Bool.true_or, Bool.or_true, Bool.or_false, Bool.false_or, not_true_eq_false, not_false_eq_true, Bool.false_eq_true, Bool.false_and, Bool.true_and, Bool.and_true, Bool.and_false, Bool.not_true, Bool.not_false, false_and, and_false, and_self, ob_77, rf_77_1, rf_77_3, rf_77_4, rf_77_5, rf_77_6, rf_77_8, rf_77_9, rf_77_10, rf_77_16, rf_77_17, rf_77_18, rf_77_19, rf_77_20, ib_79, rd_79, ib_86, rd_86, t1, h1, andn_nI, hdf, c7_isOf, hi, bi_t, ite_bi2, shl_nI, Nat.one_mul, or_nI, w7, u86, t36, q36, k1, hE2]
        exact hcall
end
