section
variable {n d T : Nat} {tn : Nat → Nat} {I0 : Nat → Nat → Int32} {J : Nat → Nat → Int64} {sw : Bool} {Q : am_Post}
set_option maxHeartbeats 4000000 in
theorem l7_roundI {S k W : Nat} (hO : ar_told tn) (hA : ∀ j, j < 42 → I0 79 j = nI (tn j)) (hU : ∀ y, y < 2 ^ tn 1 → I0 86 y = nI (am_sm (fun c => tn (24 + c)) y (tn 1))) (hS2 : S < 2 ^ tn 1) (hk : k < 6) : ∀ (r i D R t : Nat) (I : Nat → Nat → Int32) (f : Int32) (l8 l9 l10 : Option Value), i + r = k → ar_st tn W D R t → S = D ||| R → r < am_pc R → (∀ a, a ≠ 87 → I a = I0 a) → (∀ I', (∀ a, a ≠ 87 → I' a = I0 a) → Q (some (.int (am_on (am_or tn W r R (am_sm (fun c => tn (24 + c)) D (tn 1)))))) (am_sh n, I', J, am_Rf sw)) → am_wp (d + 2) m7_round 74 [some (.ref 77), some (.int (nI S)), some (.int (nI k)), some (.int (nI W)), some (.int (nI D)), some (.int (nI t)), some (.int f), some (.int (nI i)), l8, l9, l10] [] (am_sh n, I, J, am_Rf sw) Q
  | r, i, D, R, t, I, f, l8, l9, l10, hm, hst, hS, hpc, hI, hq => by
    have o2 := hO.2.1
    have p6 := (pow2_6 o2).1
    obtain ⟨d1, d2, d3, d4, d5, d6⟩ := id hst
    have hR6 : R < 64 := by omega
    have h0 : R ≠ 0 := by
      rintro rfl
      exact absurd hpc (by show ¬ r < 0; omega)
    obtain ⟨x, hl⟩ := st_lo hO hst h0
    obtain ⟨hp, -, hx⟩ := lo_some _ _ hl
    have hxn : x < tn 1 := by omega
    have hx6 : x < 6 := by omega
    have hb := (pk_bit hp).1
    have p5 := pw6 hx6
    have hpw := pc_wo hR6 hx6 hb
    obtain ⟨g1, g2, g3, g4⟩ := st_test hO hst hxn hb
    have hst2 := g3 hp
    obtain ⟨w1, w2, w3, w4, w5, w6, w7, w8⟩ := or_wo d1 hR6 hx6 d3 hb
    have hM : D ||| 2 ^ x < 2 ^ tn 1 := by
      refine Nat.or_lt_two_pow ?_ (Nat.pow_lt_pow_right (by decide) (by omega))
      have : D ≤ S := by rw [hS]; exact Nat.left_le_or
      omega
    have q36 : 36 + x < 42 := by omega
    have hik : ¬ k < i := by omega
    have hn := need_le hO (D ||| 2 ^ x)
    have v36 := (hO.2.2.2.2.2.2.1 x hx6).2.2.2
    have hbehind : ∀ I' c' l9 l10, (∀ a, a ≠ 87 → I' a = I0 a) → am_wp (d + 2) m7_round 198 [some (.ref 77), some (.int (nI S)), some (.int (nI k)), some (.int (nI W)), some (.int (nI D)), some (.int (nI t)), some (.int (am_on (am_lo tn W R (am_sm (fun c => tn (24 + c)) D (tn 1)) (tn 1) 0))), some (.int (nI i)), some (.int (nI c')), l9, l10] [] (am_sh n, I', J, am_Rf sw) Q := by
      intro I' c' l9 l10 hI'
      have u86 : I' 86 (D ||| 2 ^ x) = nI (am_sm (fun c => tn (24 + c)) (D ||| 2 ^ x) (tn 1)) := by rw [hI' 86 (by omega)]; exact hU _ hM
      have t36 : I' 79 (36 + x) = nI (tn (36 + x)) := by rw [hI' 79 (by omega)]; exact hA _ (by omega)
      have h74 : am_wp (d + 2) m7_round 74 [some (.ref 77), some (.int (nI S)), some (.int (nI k)), some (.int (nI W)), some (.int (nI (D ||| 2 ^ x))), some (.int (nI (max t (am_sm (fun c => tn (24 + c)) (D ||| 2 ^ x) (tn 1)) + tn (36 + x)))), some (.int (nI x)), some (.int (nI (i + 1))), some (.int (nI c')), l9, l10] [] (am_sh n, I', J, am_Rf sw) Q := by
        cases r with
        | zero =>
          have hki : k < i + 1 := by omega
          rw [s7_round_74]
          simp (disch := omega) only [s7_round_76, s7_round_77, s7_round_250, s7_round_252, am_k1_int, am_k1_ref, am_k1_none, am_cats_nil, am_cats_int, am_cats_ref, am_cats_long, Option.toList_some, Option.toList_none, List.singleton_append, List.nil_append, List.cons_append, true_and, and_true, if_true, if_false, va_rf, ↓reduceIte, Nat.reduceAdd, Nat.reduceMul, Nat.reduceSub, Nat.reduceLT, Nat.reduceLeDiff, Nat.reduceEqDiff, Nat.zero_le, Nat.add_zero, Nat.le_refl, nI_add, mul_nI, lt_nI, le_nI, eq_nI, bnd_nI, ci_nI, decide_eq_true_eq, decide_true, decide_false, Bool.true_or, Bool.or_true, Bool.or_false, Bool.false_or, not_true_eq_false, not_false_eq_true, Bool.false_eq_true, Bool.false_and, Bool.true_and, Bool.and_true, Bool.and_false, Bool.not_true, Bool.not_false, false_and, and_false, and_self, hki]
          have := hq I' hI'
          rw [show am_or tn W 0 R (am_sm (fun c => tn (24 + c)) D (tn 1)) = some x from hl] at this
          exact this
        | succ r =>
          refine l7_roundI hO hA hU hS2 hk r (i + 1) (D ||| 2 ^ x) (am_wo R x) _ I' _ _ _ _ (by omega) hst2 (by rw [hS, w5]) (by omega) hI' (fun I2 hI2 => ?_)
          have := hq I2 hI2
          rw [show am_or tn W (r + 1) R (am_sm (fun c => tn (24 + c)) D (tn 1)) = am_or tn W r (am_wo R x) (am_sm (fun c => tn (24 + c)) D (tn 1) + tn (24 + x)) by simp only [am_or, hl], ← g1] at this
          exact this
      rw [hl]
      simp only [am_on]
      obtain ⟨E, hE⟩ : ∃ E, E = max t (am_sm (fun c => tn (24 + c)) (D ||| 2 ^ x) (tn 1)) + tn (36 + x) := ⟨_, rfl⟩
      rw [← hE] at h74
      rw [s7_round_198]
      by_cases k1 : t ≤ am_sm (fun c => tn (24 + c)) (D ||| 2 ^ x) (tn 1)
      · have hE2 : am_sm (fun c => tn (24 + c)) (D ||| 2 ^ x) (tn 1) + tn (36 + x) = E := by omega
        simp (disch := omega) only [s7_round_200, s7_round_201, s7_round_203, s7_round_204, s7_round_205, s7_round_207, s7_round_209, s7_round_210, s7_round_213, s7_round_215, s7_round_216, s7_round_219, s7_round_221, s7_round_224, s7_round_225, s7_round_228, s7_round_230, s7_round_231, s7_round_232, s7_round_235, s7_round_237, s7_round_239, s7_round_240, s7_round_241, s7_round_242, s7_round_244, s7_round_247, am_k1_int, am_k1_ref, am_k1_none, am_cats_nil, am_cats_int, am_cats_ref, am_cats_long, Option.toList_some, Option.toList_none, List.singleton_append, List.nil_append, List.cons_append, true_and, and_true, if_true, if_false, va_rf, ↓reduceIte, Nat.reduceAdd, Nat.reduceMul, Nat.reduceSub, Nat.reduceLT, Nat.reduceLeDiff, Nat.reduceEqDiff, Nat.zero_le, Nat.add_zero, Nat.le_refl, nI_add, mul_nI, lt_nI, le_nI, eq_nI, bnd_nI, ci_nI, decide_eq_true_eq, decide_true, decide_false, Bool.true_or, Bool.or_true, Bool.or_false, Bool.false_or, not_true_eq_false, not_false_eq_true, Bool.false_eq_true, Bool.false_and, Bool.true_and, Bool.and_true, Bool.and_false, Bool.not_true, Bool.not_false, false_and, and_false, and_self, ob_77, rf_77_1, rf_77_3, rf_77_4, rf_77_5, rf_77_6, rf_77_8, rf_77_9, rf_77_10, rf_77_16, rf_77_17, rf_77_18, rf_77_19, rf_77_20, ib_79, rd_79, ib_86, rd_86, shl_nI, Nat.one_mul, or_nI, w7, u86, t36, q36, k1, hE2]
        exact h74
      · have hE2 : t + tn (36 + x) = E := by omega
        simp (disch := omega) only [s7_round_200, s7_round_201, s7_round_203, s7_round_204, s7_round_205, s7_round_207, s7_round_209, s7_round_210, s7_round_213, s7_round_215, s7_round_216, s7_round_219, s7_round_221, s7_round_224, s7_round_225, s7_round_228, s7_round_230, s7_round_231, s7_round_232, s7_round_235, s7_round_237, s7_round_239, s7_round_240, s7_round_241, s7_round_242, s7_round_244, s7_round_247, am_k1_int, am_k1_ref, am_k1_none, am_cats_nil, am_cats_int, am_cats_ref, am_cats_long, Option.toList_some, Option.toList_none, List.singleton_append, List.nil_append, List.cons_append, true_and, and_true, if_true, if_false, va_rf, ↓reduceIte, Nat.reduceAdd, Nat.reduceMul, Nat.reduceSub, Nat.reduceLT, Nat.reduceLeDiff, Nat.reduceEqDiff, Nat.zero_le, Nat.add_zero, Nat.le_refl, nI_add, mul_nI, lt_nI, le_nI, eq_nI, bnd_nI, ci_nI, decide_eq_true_eq, decide_true, decide_false, Bool.true_or, Bool.or_true, Bool.or_false, Bool.false_or, not_true_eq_false, not_false_eq_true, Bool.false_eq_true, Bool.false_and, Bool.true_and, Bool.and_true, Bool.and_false, Bool.not_true, Bool.not_false, false_and, and_false, and_self, ob_77, rf_77_1, rf_77_3, rf_77_4, rf_77_5, rf_77_6, rf_77_8, rf_77_9, rf_77_10, rf_77_16, rf_77_17, rf_77_18, rf_77_19, rf_77_20, ib_79, rd_79, ib_86, rd_86, shl_nI, Nat.one_mul, or_nI, w7, u86, t36, q36, k1, hE2]
        exact h74
    rw [s7_round_74]
    simp (disch := omega) only [s7_round_76, s7_round_77, s7_round_80, s7_round_82, s7_round_84, s7_round_85, am_k1_int, am_k1_ref, am_k1_none, am_cats_nil, am_cats_int, am_cats_ref, am_cats_long, Option.toList_some, Option.toList_none, List.singleton_append, List.nil_append, List.cons_append, true_and, and_true, if_true, if_false, va_rf, ↓reduceIte, Nat.reduceAdd, Nat.reduceMul, Nat.reduceSub, Nat.reduceLT, Nat.reduceLeDiff, Nat.reduceEqDiff, Nat.zero_le, Nat.add_zero, Nat.le_refl, nI_add, mul_nI, lt_nI, le_nI, eq_nI, bnd_nI, ci_nI, decide_eq_true_eq, decide_true, decide_false, Bool.true_or, Bool.or_true, Bool.or_false, Bool.false_or, not_true_eq_false, not_false_eq_true, Bool.false_eq_true, Bool.false_and, Bool.true_and, Bool.and_true, Bool.and_false, Bool.not_true, Bool.not_false, false_and, and_false, and_self, hik]
    exact l7_roundC hO hA hU hst hS hS2 (tn 1) 0 I _ _ (by omega) hI hbehind
theorem km {y : Int32} {k : Nat} (hk : k < 1000) : y = -1 ∨ (∃ j, j < k ∧ y = nI j) ∨ (¬ y = -1 ∧ (decide (-1 ≤ y) && decide (y ≤ nI k - nI 1)) = false ∧ (y < -1 ∨ nI k ≤ y) ∧ am_bnd y k = false) := by
  by_cases h1 : y = -1
  · exact Or.inl h1
  cases hb : am_bnd y k with
  | true => exact Or.inr (Or.inl (bnd_of hb (by omega)))
  | false =>
    refine Or.inr (Or.inr ⟨h1, ?_, ?_, rfl⟩)
    · have := bnd_in (x := y) (n := k) (by omega)
      rw [hb] at this
      by_cases g : y ≤ nI k - nI 1
      · simp only [g, decide_true, Bool.and_true] at this ⊢
        simp only [decide_eq_false_iff_not] at this ⊢
        intro q
        apply h1
        rw [Int32.le_iff_toInt_le] at this q
        rw [nI_toInt (by omega)] at this
        apply Int32.toInt_inj.mp
        have h2 : (-1 : Int32).toInt = -1 := by decide
        omega
      · simp only [g, decide_false, Bool.and_false]
    · rcases bnd_f hb (by omega) with g | g
      · left
        rw [Int32.lt_iff_toInt_lt] at g ⊢
        rw [nI_toInt (by omega)] at g
        have h2 : (-1 : Int32).toInt = -1 := by decide
        have h3 : y.toInt ≠ -1 := fun q => h1 (Int32.toInt_inj.mp (q.trans h2.symm))
        omega
      · exact Or.inr g
theorem m1_lo {j : Nat} (hj : j < 1000) : ¬ nI j < -1 ∧ (-1 : Int32) ≤ nI j := by
  have h2 : (-1 : Int32).toInt = -1 := by decide
  rw [Int32.lt_iff_toInt_lt, Int32.le_iff_toInt_le, nI_toInt (by omega), h2]
  omega
end
