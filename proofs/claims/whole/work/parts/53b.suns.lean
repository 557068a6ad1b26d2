section
variable {n d : Nat} {I : Nat → Nat → Int32} {J : Nat → Nat → Int64} {sw : Bool} {Q : am_Post} {M : am_Mem}
theorem neg1 : ¬ nI 0 ≤ nI 0 - nI 1 := by decide
theorem c6_chances {x : Nat} (hx : x < 11) : ∀ (e k d : Nat) (Q : am_Post), e < 5 → k < 6 → (am_call (d + e + 1) m6_chances [.int (nI e), .int (nI x), .int (nI k - nI 1)] M Q ↔ Q (some (.int (nI (ar_ch x e k)))) M)
  | e, 0, d, Q, he, hk => by
    have e0 : ar_ch x e 0 = 0 := by cases e <;> rfl
    simp (disch := omega) only [e6_chances, s6_chances_0, s6_chances_1, s6_chances_4, s6_chances_5, s6_chances_6, s6_chances_7, s6_chances_10, s6_chances_11, s6_chances_12, s6_chances_13, s6_chances_14, s6_chances_15, s6_chances_16, s6_chances_17, s6_chances_18, s6_chances_19, s6_chances_20, s6_chances_23, s6_chances_24, s6_chances_26, s6_chances_27, s6_chances_28, s6_chances_29, s6_chances_30, s6_chances_31, s6_chances_32, s6_chances_33, s6_chances_36, s6_chances_37, s6_chances_38, am_k1_int, am_k1_ref, am_k1_none, am_cats_nil, am_cats_int, am_cats_ref, am_cats_long, Option.toList_some, Option.toList_none, List.singleton_append, List.nil_append, List.cons_append, true_and, and_true, if_true, if_false, va_rf, ↓reduceIte, Nat.reduceAdd, Nat.reduceMul, Nat.reduceSub, Nat.reduceLT, Nat.reduceLeDiff, Nat.reduceEqDiff, Nat.zero_le, Nat.add_zero, Nat.le_refl, nI_add, mul_nI, lt_nI, le_nI, eq_nI, bnd_nI, ci_nI, decide_eq_true_eq, decide_true, decide_false, Bool.true_or, Bool.or_true, Bool.or_false, Bool.false_or, not_true_eq_false, not_false_eq_true, Bool.false_eq_true, Bool.false_and, Bool.true_and, Bool.and_true, Bool.and_false, Bool.not_true, Bool.not_false, false_and, and_false, and_self, neg1, e0]
  | 0, k + 1, d, Q, he, hk => by
    simp (disch := omega) only [e6_chances, s6_chances_0, s6_chances_1, s6_chances_4, s6_chances_5, s6_chances_6, s6_chances_7, s6_chances_10, s6_chances_11, s6_chances_12, s6_chances_13, s6_chances_14, s6_chances_15, s6_chances_16, s6_chances_17, s6_chances_18, s6_chances_19, s6_chances_20, s6_chances_23, s6_chances_24, s6_chances_26, s6_chances_27, s6_chances_28, s6_chances_29, s6_chances_30, s6_chances_31, s6_chances_32, s6_chances_33, s6_chances_36, s6_chances_37, s6_chances_38, am_k1_int, am_k1_ref, am_k1_none, am_cats_nil, am_cats_int, am_cats_ref, am_cats_long, Option.toList_some, Option.toList_none, List.singleton_append, List.nil_append, List.cons_append, true_and, and_true, if_true, if_false, va_rf, ↓reduceIte, Nat.reduceAdd, Nat.reduceMul, Nat.reduceSub, Nat.reduceLT, Nat.reduceLeDiff, Nat.reduceEqDiff, Nat.zero_le, Nat.add_zero, Nat.le_refl, nI_add, mul_nI, lt_nI, le_nI, eq_nI, bnd_nI, ci_nI, decide_eq_true_eq, decide_true, decide_false, Bool.true_or, Bool.or_true, Bool.or_false, Bool.false_or, not_true_eq_false, not_false_eq_true, Bool.false_eq_true, Bool.false_and, Bool.true_and, Bool.and_true, Bool.and_false, Bool.not_true, Bool.not_false, false_and, and_false, and_self, sub_nI, Nat.add_sub_cancel, ar_ch]
  | e + 1, k + 1, d, Q, he, hk => by
    have i1 := fun Q => c6_chances hx e k d Q (by omega) (by omega)
    have i2 := fun Q => c6_chances hx e (k + 1) d Q (by omega) (by omega)
    have e1 : nI (k + 1) - nI 1 = nI k := by rw [sub_nI (by omega), Nat.add_sub_cancel]
    have e2 : nI (e + 1) - nI 1 = nI e := by rw [sub_nI (by omega), Nat.add_sub_cancel]
    have l1 := ch_le (k := k) hx (show e < 5 by omega) (by omega)
    have l2 := ch_le (k := k + 1) hx (show e < 5 by omega) (by omega)
    have e3 : nI 10 - nI x = nI (10 - x) := sub_nI (by omega)
    have n1 : 0 < e + 1 := by omega
    have n2 : ¬ nI k < nI 0 := by rw [lt_nI (by omega) (by omega)]; omega
    rw [e1] at i2
    have dd : d + (e + 1) + 1 = d + e + 1 + 1 := by omega
    rw [dd]
    rw [e1]
    simp (disch := omega) only [e6_chances, s6_chances_0, s6_chances_1, s6_chances_4, s6_chances_5, s6_chances_6, s6_chances_7, s6_chances_10, s6_chances_11, s6_chances_12, s6_chances_13, s6_chances_14, s6_chances_15, s6_chances_16, s6_chances_17, s6_chances_18, s6_chances_19, s6_chances_20, s6_chances_23, s6_chances_24, s6_chances_26, s6_chances_27, s6_chances_28, s6_chances_29, s6_chances_30, s6_chances_31, s6_chances_32, s6_chances_33, s6_chances_36, s6_chances_37, s6_chances_38, am_k1_int, am_k1_ref, am_k1_none, am_cats_nil, am_cats_int, am_cats_ref, am_cats_long, Option.toList_some, Option.toList_none, List.singleton_append, List.nil_append, List.cons_append, true_and, and_true, if_true, if_false, va_rf, ↓reduceIte, Nat.reduceAdd, Nat.reduceMul, Nat.reduceSub, Nat.reduceLT, Nat.reduceLeDiff, Nat.reduceEqDiff, Nat.zero_le, Nat.add_zero, Nat.le_refl, nI_add, mul_nI, lt_nI, le_nI, eq_nI, bnd_nI, ci_nI, decide_eq_true_eq, decide_true, decide_false, Bool.true_or, Bool.or_true, Bool.or_false, Bool.false_or, not_true_eq_false, not_false_eq_true, Bool.false_eq_true, Bool.false_and, Bool.true_and, Bool.and_true, Bool.and_false, Bool.not_true, Bool.not_false, false_and, and_false, and_self, n1, n2, e2, i1, i2, e3, ar_ch]
end
section
variable {n d : Nat} {I : Nat → Nat → Int32} {J : Nat → Nat → Int64} {sw : Bool} {Q : am_Post} {M : am_Mem}
theorem l6_gcd {x1 x2 : Nat} : ∀ (m s a b : Nat) (l5 : Option Value), s + m = 64 → b ≤ a → a < 2147483648 → a * b < 2 ^ m → (am_wp (d + 1) m6_sharedDivisor 7 [some (.int (nI x1)), some (.int (nI x2)), some (.int (nI a)), some (.int (nI b)), some (.int (nI s)), l5] [] M Q ↔ Q (some (.int (nI (max (Nat.gcd a b) 1)))) M)
  | 0, s, a, b, l5, hs, hab, ha, hm => by
    have hb : b = 0 := by
      rcases Nat.eq_zero_or_pos b with h | h
      · exact h
      · have : 1 ≤ a * b := Nat.mul_pos (by omega) h
        simp only [Nat.pow_zero] at hm
        omega
    subst hb
    obtain rfl : s = 64 := by omega
    rw [Nat.gcd_zero_right]
    simp (disch := omega) only [e6_sharedDivisor, s6_sharedDivisor_0, s6_sharedDivisor_1, s6_sharedDivisor_2, s6_sharedDivisor_3, s6_sharedDivisor_4, s6_sharedDivisor_5, s6_sharedDivisor_7, s6_sharedDivisor_9, s6_sharedDivisor_11, s6_sharedDivisor_14, s6_sharedDivisor_15, s6_sharedDivisor_18, s6_sharedDivisor_19, s6_sharedDivisor_20, s6_sharedDivisor_21, s6_sharedDivisor_23, s6_sharedDivisor_24, s6_sharedDivisor_25, s6_sharedDivisor_27, s6_sharedDivisor_28, s6_sharedDivisor_31, s6_sharedDivisor_34, s6_sharedDivisor_35, s6_sharedDivisor_36, s6_sharedDivisor_39, am_k1_int, am_k1_ref, am_k1_none, am_cats_nil, am_cats_int, am_cats_ref, am_cats_long, Option.toList_some, Option.toList_none, List.singleton_append, List.nil_append, List.cons_append, true_and, and_true, if_true, if_false, va_rf, ↓reduceIte, Nat.reduceAdd, Nat.reduceMul, Nat.reduceSub, Nat.reduceLT, Nat.reduceLeDiff, Nat.reduceEqDiff, Nat.zero_le, Nat.add_zero, Nat.le_refl, nI_add, mul_nI, lt_nI, le_nI, eq_nI, bnd_nI, ci_nI, decide_eq_true_eq, decide_true, decide_false, Bool.true_or, Bool.or_true, Bool.or_false, Bool.false_or, not_true_eq_false, not_false_eq_true, Bool.false_eq_true, Bool.false_and, Bool.true_and, Bool.and_true, Bool.and_false, Bool.not_true, Bool.not_false, false_and, and_false, and_self, cJ9_max]
  | m + 1, s, a, b, l5, hs, hab, ha, hm => by
    have h1 : ¬ 64 ≤ s := by omega
    rw [s6_sharedDivisor_7]
    by_cases hb : b = 0
    · subst hb
      rw [Nat.gcd_zero_right]
      simp (disch := omega) only [e6_sharedDivisor, s6_sharedDivisor_0, s6_sharedDivisor_1, s6_sharedDivisor_2, s6_sharedDivisor_3, s6_sharedDivisor_4, s6_sharedDivisor_5, s6_sharedDivisor_9, s6_sharedDivisor_11, s6_sharedDivisor_14, s6_sharedDivisor_15, s6_sharedDivisor_18, s6_sharedDivisor_19, s6_sharedDivisor_20, s6_sharedDivisor_21, s6_sharedDivisor_23, s6_sharedDivisor_24, s6_sharedDivisor_25, s6_sharedDivisor_27, s6_sharedDivisor_28, s6_sharedDivisor_31, s6_sharedDivisor_34, s6_sharedDivisor_35, s6_sharedDivisor_36, s6_sharedDivisor_39, am_k1_int, am_k1_ref, am_k1_none, am_cats_nil, am_cats_int, am_cats_ref, am_cats_long, Option.toList_some, Option.toList_none, List.singleton_append, List.nil_append, List.cons_append, true_and, and_true, if_true, if_false, va_rf, ↓reduceIte, Nat.reduceAdd, Nat.reduceMul, Nat.reduceSub, Nat.reduceLT, Nat.reduceLeDiff, Nat.reduceEqDiff, Nat.zero_le, Nat.add_zero, Nat.le_refl, nI_add, mul_nI, lt_nI, le_nI, eq_nI, bnd_nI, ci_nI, decide_eq_true_eq, decide_true, decide_false, Bool.true_or, Bool.or_true, Bool.or_false, Bool.false_or, not_true_eq_false, not_false_eq_true, Bool.false_eq_true, Bool.false_and, Bool.true_and, Bool.and_true, Bool.and_false, Bool.not_true, Bool.not_false, false_and, and_false, and_self, cJ9_max, h1]
    · have hb2 : ¬ b ≤ 0 := by omega
      have hlt : a % b < b := Nat.mod_lt _ (by omega)
      have h2 : 2 * (a % b) < a := by
        have := Nat.div_add_mod a b
        have h3 : 1 ≤ a / b := Nat.div_pos hab (by omega)
        have h4 : b * 1 ≤ b * (a / b) := Nat.mul_le_mul_left b h3
        omega
      have h5 : b * (a % b) < 2 ^ m := by
        have h6 : b * (2 * (a % b)) ≤ b * a := Nat.mul_le_mul_left b (by omega)
        have h7 : b * (2 * (a % b)) = 2 * (b * (a % b)) := Nat.mul_left_comm _ _ _
        have h8 : 2 ^ (m + 1) = 2 * 2 ^ m := Nat.pow_succ'
        have h9 : a * b = b * a := Nat.mul_comm _ _
        omega
      have ih := l6_gcd (x1 := x1) (x2 := x2) m (s + 1) b (a % b)
      rw [← gcd_st] at ih
      have hr := rem_nI (a := a) (b := b) ha (by omega) (by omega)
      have hz : ¬ nI b = nI 0 := by rw [eq_nI (by omega) (by omega)]; exact hb
      simp (disch := omega) only [e6_sharedDivisor, s6_sharedDivisor_0, s6_sharedDivisor_1, s6_sharedDivisor_2, s6_sharedDivisor_3, s6_sharedDivisor_4, s6_sharedDivisor_5, s6_sharedDivisor_9, s6_sharedDivisor_11, s6_sharedDivisor_14, s6_sharedDivisor_15, s6_sharedDivisor_18, s6_sharedDivisor_19, s6_sharedDivisor_20, s6_sharedDivisor_21, s6_sharedDivisor_23, s6_sharedDivisor_24, s6_sharedDivisor_25, s6_sharedDivisor_27, s6_sharedDivisor_28, s6_sharedDivisor_31, s6_sharedDivisor_34, s6_sharedDivisor_35, s6_sharedDivisor_36, s6_sharedDivisor_39, am_k1_int, am_k1_ref, am_k1_none, am_cats_nil, am_cats_int, am_cats_ref, am_cats_long, Option.toList_some, Option.toList_none, List.singleton_append, List.nil_append, List.cons_append, true_and, and_true, if_true, if_false, va_rf, true_and, and_true, lt_nI, le_nI, nI_add, not_false_eq_true, h1, hb2, hz, hr]
      exact ih _ (by omega) (by omega) (by omega) h5
end
section
variable {n d : Nat} {I : Nat → Nat → Int32} {J : Nat → Nat → Int64} {sw : Bool} {Q : am_Post} {M : am_Mem}
theorem l7_gcd {x0 x1 x2 x3 x4 : Value} {x5 : Int32} : ∀ (N a b : Nat) (l8 : Option Value), b < N → a < 2147483648 → b < 2147483648 → ∃ l8', (am_wp d m7_suns 159 [some x0, some x1, some x2, some x3, some x4, some (.int x5), some (.int (nI a)), some (.int (nI b)), l8] [] M Q ↔ am_wp d m7_suns 182 [some x0, some x1, some x2, some x3, some x4, some (.int x5), some (.int (nI (Nat.gcd a b))), some (.int (nI 0)), l8'] [] M Q)
  | 0, a, b, l8, hN, ha, hb => absurd hN (by omega)
  | N + 1, a, b, l8, hN, ha, hb => by
    rw [s7_suns_159]
    by_cases h0 : b = 0
    · subst h0
      rw [Nat.gcd_zero_right]
      refine ⟨l8, ?_⟩
      simp (disch := omega) only [s7_suns_161, am_k1_int, am_k1_ref, am_k1_none, am_cats_nil, am_cats_int, am_cats_ref, am_cats_long, Option.toList_some, Option.toList_none, List.singleton_append, List.nil_append, List.cons_append, true_and, and_true, if_true, if_false, va_rf, ↓reduceIte, Nat.reduceAdd, Nat.reduceMul, Nat.reduceSub, Nat.reduceLT, Nat.reduceLeDiff, Nat.reduceEqDiff, Nat.zero_le, Nat.add_zero, Nat.le_refl, nI_add, mul_nI, lt_nI, le_nI, eq_nI, bnd_nI, ci_nI, decide_eq_true_eq, decide_true, decide_false, Bool.true_or, Bool.or_true, Bool.or_false, Bool.false_or, not_true_eq_false, not_false_eq_true, Bool.false_eq_true, Bool.false_and, Bool.true_and, Bool.and_true, Bool.and_false, Bool.not_true, Bool.not_false, false_and, and_false, and_self]
    · have hb2 : ¬ b ≤ 0 := by omega
      have hlt : a % b < b := Nat.mod_lt _ (by omega)
      obtain ⟨l8', ih⟩ := l7_gcd (x0 := x0) (x1 := x1) (x2 := x2) (x3 := x3) (x4 := x4) (x5 := x5) N b (a % b) (some (.int (nI (a % b)))) (by omega) hb (by omega)
      rw [← gcd_st] at ih
      have hr := rem_nI (a := a) (b := b) ha (by omega) (by omega)
      have hz : ¬ nI b = nI 0 := by rw [eq_nI (by omega) (by omega)]; exact h0
      refine ⟨l8', ?_⟩
      rw [← ih]
      simp (disch := omega) only [s7_suns_161, s7_suns_164, s7_suns_166, s7_suns_168, s7_suns_169, s7_suns_171, s7_suns_173, s7_suns_175, s7_suns_177, s7_suns_179, am_k1_int, am_k1_ref, am_k1_none, am_cats_nil, am_cats_int, am_cats_ref, am_cats_long, Option.toList_some, Option.toList_none, List.singleton_append, List.nil_append, List.cons_append, true_and, and_true, if_true, if_false, va_rf, true_and, and_true, lt_nI, le_nI, not_false_eq_true, hb2, hz, hr]
end
theorem ite_bnd3 {x : Int32} {n : Nat} {A B : Prop} (hn : n < 2147483647) : (if x < nI 0 then A else if nI n < x then A else B) ↔ if am_bnd x (n + 1) = true then B else A := by
  rw [← bnd_in2 hn]
  by_cases h1 : x < nI 0
  · simp [h1, Int32.not_le.mpr h1]
  · by_cases h2 : nI n < x
    · simp [h1, h2, Int32.not_lt.mp h1, Int32.not_le.mpr h2]
    · simp [h1, h2, Int32.not_lt.mp h1, Int32.not_lt.mp h2]
section
variable {n d T : Nat} {tn : Nat → Nat} {I : Nat → Nat → Int32} {J : Nat → Nat → Int64} {sw : Bool} {Q : am_Post} {M : am_Mem}
theorem c6_shared {a b : Nat} (h : b ≤ a) (ha : a ≤ 10000) (h1 : 1 ≤ a) : am_call (d + 2) m6_sharedDivisor [.int (nI a), .int (nI b)] M Q ↔ Q (some (.int (nI (Nat.gcd b a)))) M := by
  have hm : a * b < 2 ^ 64 := by
    have : a * b ≤ 10000 * 10000 := Nat.mul_le_mul ha (by omega)
    omega
  have hg : 1 ≤ Nat.gcd a b := Nat.gcd_pos_of_pos_left _ h1
  have hl := l6_gcd (d := d) (M := M) (Q := Q) (x1 := a) (x2 := b) 64 0 a b none (by omega) h (by omega) hm
  rw [Nat.max_eq_left hg, Nat.gcd_comm] at hl
  rw [← hl]
  simp (disch := omega) only [e6_sharedDivisor, s6_sharedDivisor_0, s6_sharedDivisor_1, s6_sharedDivisor_2, s6_sharedDivisor_3, s6_sharedDivisor_4, s6_sharedDivisor_5, s6_sharedDivisor_9, s6_sharedDivisor_11, s6_sharedDivisor_14, s6_sharedDivisor_15, s6_sharedDivisor_18, s6_sharedDivisor_19, s6_sharedDivisor_20, s6_sharedDivisor_21, s6_sharedDivisor_23, s6_sharedDivisor_24, s6_sharedDivisor_25, s6_sharedDivisor_27, s6_sharedDivisor_28, s6_sharedDivisor_31, s6_sharedDivisor_34, s6_sharedDivisor_35, s6_sharedDivisor_36, s6_sharedDivisor_39, am_k1_int, am_k1_ref, am_k1_none, am_cats_nil, am_cats_int, am_cats_ref, am_cats_long, Option.toList_some, Option.toList_none, List.singleton_append, List.nil_append, List.cons_append, true_and, and_true, if_true, if_false, va_rf]
theorem l6_suns {x1 x2 x3 x4 : Int32} (hT : am_tbr sw T) (h : I T 0 = nI (tn 0)) (hn : tn 0 ≤ 4) : ∀ (r e : Nat), e + r = tn 0 → (am_wp d m6_suns 50 [some (.ref 1), some (.int x1), some (.int x2), some (.int x3), some (.int x4), some (.int (nI (10 ^ e))), some (.int (nI e))] [] (am_sh n, I, J, am_Rf sw) Q ↔ am_wp d m6_suns 75 [some (.ref 1), some (.int x1), some (.int x2), some (.int x3), some (.int x4), some (.int (nI (10 ^ tn 0))), some (.int (nI (tn 0)))] [] (am_sh n, I, J, am_Rf sw) Q)
  | 0, e, hm => by
    obtain rfl : e = tn 0 := by omega
    rw [s6_suns_50]
    rcases id hT with ⟨rfl, rfl⟩ | ⟨rfl, rfl⟩ <;> simp (disch := omega) only [s6_suns_52, s6_suns_53, s6_suns_56, s6_suns_59, am_k1_int, am_k1_ref, am_k1_none, am_cats_nil, am_cats_int, am_cats_ref, am_cats_long, Option.toList_some, Option.toList_none, List.singleton_append, List.nil_append, List.cons_append, true_and, and_true, if_true, if_false, va_rf, ↓reduceIte, Nat.reduceAdd, Nat.reduceMul, Nat.reduceSub, Nat.reduceLT, Nat.reduceLeDiff, Nat.reduceEqDiff, Nat.zero_le, Nat.add_zero, Nat.le_refl, nI_add, mul_nI, lt_nI, le_nI, eq_nI, bnd_nI, ci_nI, decide_eq_true_eq, decide_true, decide_false, Bool.true_or, Bool.or_true, Bool.or_false, Bool.false_or, not_true_eq_false, not_false_eq_true, Bool.false_eq_true, Bool.false_and, Bool.true_and, Bool.and_true, Bool.and_false, Bool.not_true, Bool.not_false, false_and, and_false, and_self, ob_1, rf_1_0, rf_1_1, rf_1_2, rf_1_3, rf_1_4, rf_1_5, rf_1_6, rf_1_7, rf_1_8, ob_2, rf_2_0, ib_3, rd_3, ob_4, rf_4_1, rf_4_2, rf_4_3, rf_4_5, rf_4_6, rf_4_7, rf_4_8, ib_5, rd_5, ib_6, rd_6, ib_7, rd_7, ib_8, rd_8, ib_9, rd_9, ib_10, rd_10, ib_11, rd_11, ob_12, rf_12_1, rf_12_2, rf_12_3, rf_12_5, rf_12_6, rf_12_7, rf_12_8, ib_13, rd_13, ib_14, rd_14, ib_15, rd_15, ib_16, rd_16, ib_17, rd_17, ib_18, rd_18, ib_19, rd_19, ob_20, rf_20_3, rf_20_4, ib_21, rd_21, ib_22, rd_22, ob_23, rf_23_0, ib_24, ix_24, rf_24_0, rf_24_1, rf_24_2, rf_24_3, rf_24_4, rf_24_5, rf_24_6, rf_24_7, rf_24_8, rf_24_9, ib_55, ix_55, rf_55_0, rf_55_1, ib_56, ob_57, rf_57_0, rf_57_1, ib_58, rd_58, ib_59, ob_60, rf_60_2, rf_60_3, rf_60_4, rf_60_5, rf_60_6, ib_61, rd_61, ib_62, ib_63, ix_63, rf_63_0, rf_63_1, rf_63_2, rf_63_3, rf_63_4, tb_t, tb_f, h]
  | r + 1, e, hm => by
    have ih := l6_suns (x1 := x1) (x2 := x2) (x3 := x3) (x4 := x4) hT h hn r (e + 1) (by omega)
    rw [Nat.pow_succ] at ih
    have h1 : ¬ tn 0 ≤ e := by omega
    rw [s6_suns_50, ← ih]
    rcases id hT with ⟨rfl, rfl⟩ | ⟨rfl, rfl⟩ <;> simp (disch := omega) only [s6_suns_52, s6_suns_53, s6_suns_56, s6_suns_59, s6_suns_62, s6_suns_64, s6_suns_66, s6_suns_67, s6_suns_69, s6_suns_72, am_k1_int, am_k1_ref, am_k1_none, am_cats_nil, am_cats_int, am_cats_ref, am_cats_long, Option.toList_some, Option.toList_none, List.singleton_append, List.nil_append, List.cons_append, true_and, and_true, if_true, if_false, va_rf, ↓reduceIte, Nat.reduceAdd, Nat.reduceMul, Nat.reduceSub, Nat.reduceLT, Nat.reduceLeDiff, Nat.reduceEqDiff, Nat.zero_le, Nat.add_zero, Nat.le_refl, nI_add, mul_nI, lt_nI, le_nI, eq_nI, bnd_nI, ci_nI, decide_eq_true_eq, decide_true, decide_false, Bool.true_or, Bool.or_true, Bool.or_false, Bool.false_or, not_true_eq_false, not_false_eq_true, Bool.false_eq_true, Bool.false_and, Bool.true_and, Bool.and_true, Bool.and_false, Bool.not_true, Bool.not_false, false_and, and_false, and_self, ob_1, rf_1_0, rf_1_1, rf_1_2, rf_1_3, rf_1_4, rf_1_5, rf_1_6, rf_1_7, rf_1_8, ob_2, rf_2_0, ib_3, rd_3, ob_4, rf_4_1, rf_4_2, rf_4_3, rf_4_5, rf_4_6, rf_4_7, rf_4_8, ib_5, rd_5, ib_6, rd_6, ib_7, rd_7, ib_8, rd_8, ib_9, rd_9, ib_10, rd_10, ib_11, rd_11, ob_12, rf_12_1, rf_12_2, rf_12_3, rf_12_5, rf_12_6, rf_12_7, rf_12_8, ib_13, rd_13, ib_14, rd_14, ib_15, rd_15, ib_16, rd_16, ib_17, rd_17, ib_18, rd_18, ib_19, rd_19, ob_20, rf_20_3, rf_20_4, ib_21, rd_21, ib_22, rd_22, ob_23, rf_23_0, ib_24, ix_24, rf_24_0, rf_24_1, rf_24_2, rf_24_3, rf_24_4, rf_24_5, rf_24_6, rf_24_7, rf_24_8, rf_24_9, ib_55, ix_55, rf_55_0, rf_55_1, ib_56, ob_57, rf_57_0, rf_57_1, ib_58, rd_58, ib_59, ob_60, rf_60_2, rf_60_3, rf_60_4, rf_60_5, rf_60_6, ib_61, rd_61, ib_62, ib_63, ix_63, rf_63_0, rf_63_1, rf_63_2, rf_63_3, rf_63_4, tb_t, tb_f, h, h1]
theorem l7_sunsA {x k : Nat} {x3 x4 x5 : Int32} {s : Nat} (hx : x < 11) (h : I 79 0 = nI (tn 0)) (hn : tn 0 ≤ 4) (hs : s < 16) : ∀ (r e : Nat), e + r = tn 0 → (am_wp (d + 1) m7_suns 58 [some (.ref 77), some (.int (nI x)), some (.int (nI k)), some (.int x3), some (.int x4), some (.int x5), some (.int (nI s)), some (.int (nI (ar_pr x s e))), some (.int (nI e))] [] (am_sh n, I, J, am_Rf sw) Q ↔ am_wp (d + 1) m7_suns 98 [some (.ref 77), some (.int (nI x)), some (.int (nI k)), some (.int x3), some (.int x4), some (.int x5), some (.int (nI s)), some (.int (nI (ar_pr x s (tn 0)))), some (.int (nI (tn 0)))] [] (am_sh n, I, J, am_Rf sw) Q)
  | 0, e, hm => by
    obtain rfl : e = tn 0 := by omega
    rw [s7_suns_58]
    simp (disch := omega) only [s7_suns_60, s7_suns_61, s7_suns_64, s7_suns_65, s7_suns_66, am_k1_int, am_k1_ref, am_k1_none, am_cats_nil, am_cats_int, am_cats_ref, am_cats_long, Option.toList_some, Option.toList_none, List.singleton_append, List.nil_append, List.cons_append, true_and, and_true, if_true, if_false, va_rf, ↓reduceIte, Nat.reduceAdd, Nat.reduceMul, Nat.reduceSub, Nat.reduceLT, Nat.reduceLeDiff, Nat.reduceEqDiff, Nat.zero_le, Nat.add_zero, Nat.le_refl, nI_add, mul_nI, lt_nI, le_nI, eq_nI, bnd_nI, ci_nI, decide_eq_true_eq, decide_true, decide_false, Bool.true_or, Bool.or_true, Bool.or_false, Bool.false_or, not_true_eq_false, not_false_eq_true, Bool.false_eq_true, Bool.false_and, Bool.true_and, Bool.and_true, Bool.and_false, Bool.not_true, Bool.not_false, false_and, and_false, and_self, ob_77, rf_77_1, rf_77_3, rf_77_4, rf_77_5, rf_77_6, rf_77_8, rf_77_9, rf_77_10, rf_77_16, rf_77_17, rf_77_18, rf_77_19, rf_77_20, ib_78, rd_78, ib_79, rd_79, ib_80, rd_80, ib_81, rd_81, ib_82, rd_82, ib_83, rd_83, ib_84, ib_85, rd_85, ib_86, rd_86, ib_87, rd_87, ib_88, ib_89, rd_89, ib_90, rd_90, h]
  | r + 1, e, hm => by
    have ih := l7_sunsA (k := k) (x3 := x3) (x4 := x4) (x5 := x5) hx h hn hs r (e + 1) (by omega)
    have h1 : ¬ tn 0 ≤ e := by omega
    have hi := isb_nI (a := s) (c := e) (by omega) (by omega)
    rw [s7_suns_58, ← ih]
    cases hd : s.testBit e with
    | true =>
      rw [hd] at hi
      have ee : ar_pr x s (e + 1) = ar_pr x s e * x := by
        show ar_pr x s e * (if s.testBit e = true then x else 10 - x) = _
        rw [if_pos hd]
      rw [ee]
      simp (disch := omega) only [s7_suns_60, s7_suns_61, s7_suns_64, s7_suns_65, s7_suns_66, s7_suns_69, s7_suns_71, s7_suns_73, s7_suns_75, s7_suns_78, s7_suns_81, s7_suns_82, s7_suns_85, s7_suns_87, s7_suns_88, s7_suns_89, s7_suns_90, s7_suns_92, s7_suns_95, am_k1_int, am_k1_ref, am_k1_none, am_cats_nil, am_cats_int, am_cats_ref, am_cats_long, Option.toList_some, Option.toList_none, List.singleton_append, List.nil_append, List.cons_append, true_and, and_true, if_true, if_false, va_rf, ↓reduceIte, Nat.reduceAdd, Nat.reduceMul, Nat.reduceSub, Nat.reduceLT, Nat.reduceLeDiff, Nat.reduceEqDiff, Nat.zero_le, Nat.add_zero, Nat.le_refl, nI_add, mul_nI, lt_nI, le_nI, eq_nI, bnd_nI, ci_nI, decide_eq_true_eq, decide_true, decide_false, Bool.true_or, Bool.or_true, Bool.or_false, Bool.false_or, not_true_eq_false, not_false_eq_true, Bool.false_eq_true, Bool.false_and, Bool.true_and, Bool.and_true, Bool.and_false, Bool.not_true, Bool.not_false, false_and, and_false, and_self, ob_77, rf_77_1, rf_77_3, rf_77_4, rf_77_5, rf_77_6, rf_77_8, rf_77_9, rf_77_10, rf_77_16, rf_77_17, rf_77_18, rf_77_19, rf_77_20, ib_78, rd_78, ib_79, rd_79, ib_80, rd_80, ib_81, rd_81, ib_82, rd_82, ib_83, rd_83, ib_84, ib_85, rd_85, ib_86, rd_86, ib_87, rd_87, ib_88, ib_89, rd_89, ib_90, rd_90, h, h1, c7_isOf, hi, bi_t, bi_f, bi_ret, ite_bi2]
    | false =>
      rw [hd] at hi
      have ee : ar_pr x s (e + 1) = ar_pr x s e * (10 - x) := by
        show ar_pr x s e * (if s.testBit e = true then x else 10 - x) = _
        rw [if_neg (by rw [hd]; decide)]
      rw [ee]
      simp (disch := omega) only [s7_suns_60, s7_suns_61, s7_suns_64, s7_suns_65, s7_suns_66, s7_suns_69, s7_suns_71, s7_suns_73, s7_suns_75, s7_suns_78, s7_suns_81, s7_suns_82, s7_suns_85, s7_suns_87, s7_suns_88, s7_suns_89, s7_suns_90, s7_suns_92, s7_suns_95, am_k1_int, am_k1_ref, am_k1_none, am_cats_nil, am_cats_int, am_cats_ref, am_cats_long, Option.toList_some, Option.toList_none, List.singleton_append, List.nil_append, List.cons_append, true_and, and_true, if_true, if_false, va_rf, ↓reduceIte, Nat.reduceAdd, Nat.reduceMul, Nat.reduceSub, Nat.reduceLT, Nat.reduceLeDiff, Nat.reduceEqDiff, Nat.zero_le, Nat.add_zero, Nat.le_refl, nI_add, mul_nI, lt_nI, le_nI, eq_nI, bnd_nI, ci_nI, decide_eq_true_eq, decide_true, decide_false, Bool.true_or, Bool.or_true, Bool.or_false, Bool.false_or, not_true_eq_false, not_false_eq_true, Bool.false_eq_true, Bool.false_and, Bool.true_and, Bool.and_true, Bool.and_false, Bool.not_true, Bool.not_false, false_and, and_false, and_self, ob_77, rf_77_1, rf_77_3, rf_77_4, rf_77_5, rf_77_6, rf_77_8, rf_77_9, rf_77_10, rf_77_16, rf_77_17, rf_77_18, rf_77_19, rf_77_20, ib_78, rd_78, ib_79, rd_79, ib_80, rd_80, ib_81, rd_81, ib_82, rd_82, ib_83, rd_83, ib_84, ib_85, rd_85, ib_86, rd_86, ib_87, rd_87, ib_88, ib_89, rd_89, ib_90, rd_90, h, h1, c7_isOf, hi, bi_t, bi_f, bi_ret, ite_bi2, sub_nI]
theorem l7_sunsB {x k : Nat} {x3 x5 : Int32} (hx : x < 11) (hk : k < 5) (h : I 79 0 = nI (tn 0)) (hn : tn 0 ≤ 4) : ∀ (r s : Nat) (l7 l8 : Option Value), s + r = 2 ^ tn 0 → ∃ l7' l8', (am_wp (d + 1) m7_suns 39 [some (.ref 77), some (.int (nI x)), some (.int (nI k)), some (.int x3), some (.int (nI (ar_ab x (tn 0) k s))), some (.int x5), some (.int (nI s)), l7, l8] [] (am_sh n, I, J, am_Rf sw) Q ↔ am_wp (d + 1) m7_suns 124 [some (.ref 77), some (.int (nI x)), some (.int (nI k)), some (.int x3), some (.int (nI (ar_ab x (tn 0) k (2 ^ tn 0)))), some (.int x5), some (.int (nI (2 ^ tn 0))), l7', l8'] [] (am_sh n, I, J, am_Rf sw) Q)
  | 0, s, l7, l8, hm => by
    have h16 := p4 hn
    obtain rfl : s = 2 ^ tn 0 := by omega
    refine ⟨l7, l8, ?_⟩
    rw [s7_suns_39]
    simp (disch := omega) only [s7_suns_41, s7_suns_42, s7_suns_43, s7_suns_46, s7_suns_47, s7_suns_48, s7_suns_49, am_k1_int, am_k1_ref, am_k1_none, am_cats_nil, am_cats_int, am_cats_ref, am_cats_long, Option.toList_some, Option.toList_none, List.singleton_append, List.nil_append, List.cons_append, true_and, and_true, if_true, if_false, va_rf, ↓reduceIte, Nat.reduceAdd, Nat.reduceMul, Nat.reduceSub, Nat.reduceLT, Nat.reduceLeDiff, Nat.reduceEqDiff, Nat.zero_le, Nat.add_zero, Nat.le_refl, nI_add, mul_nI, lt_nI, le_nI, eq_nI, bnd_nI, ci_nI, decide_eq_true_eq, decide_true, decide_false, Bool.true_or, Bool.or_true, Bool.or_false, Bool.false_or, not_true_eq_false, not_false_eq_true, Bool.false_eq_true, Bool.false_and, Bool.true_and, Bool.and_true, Bool.and_false, Bool.not_true, Bool.not_false, false_and, and_false, and_self, ob_77, rf_77_1, rf_77_3, rf_77_4, rf_77_5, rf_77_6, rf_77_8, rf_77_9, rf_77_10, rf_77_16, rf_77_17, rf_77_18, rf_77_19, rf_77_20, ib_78, rd_78, ib_79, rd_79, ib_80, rd_80, ib_81, rd_81, ib_82, rd_82, ib_83, rd_83, ib_84, ib_85, rd_85, ib_86, rd_86, ib_87, rd_87, ib_88, ib_89, rd_89, ib_90, rd_90, h, shl_nI, Nat.one_mul]
  | r + 1, s, l7, l8, hm => by
    have h16 := p4 hn
    obtain ⟨l7', l8', ih⟩ := l7_sunsB (x3 := x3) (x5 := x5) hx hk h hn r (s + 1) (some (.int (nI (ar_pr x s (tn 0))))) (some (.int (nI (tn 0)))) (by omega)
    refine ⟨l7', l8', ?_⟩
    have h1 : ¬ 2 ^ tn 0 ≤ s := by omega
    have hA := l7_sunsA (d := d) (n := n) (J := J) (sw := sw) (Q := Q) (k := k) (x3 := x3) (x4 := nI (ar_ab x (tn 0) k s)) (x5 := x5) (s := s) hx h hn (by omega) (tn 0) 0 (by omega)
    have e0 : ar_pr x s 0 = 1 := rfl
    rw [e0] at hA
    rw [s7_suns_39, ← ih]
    simp (disch := omega) only [s7_suns_41, s7_suns_42, s7_suns_43, s7_suns_46, s7_suns_47, s7_suns_48, s7_suns_49, s7_suns_52, s7_suns_53, s7_suns_55, s7_suns_56, am_k1_int, am_k1_ref, am_k1_none, am_cats_nil, am_cats_int, am_cats_ref, am_cats_long, Option.toList_some, Option.toList_none, List.singleton_append, List.nil_append, List.cons_append, true_and, and_true, if_true, if_false, va_rf, ↓reduceIte, Nat.reduceAdd, Nat.reduceMul, Nat.reduceSub, Nat.reduceLT, Nat.reduceLeDiff, Nat.reduceEqDiff, Nat.zero_le, Nat.add_zero, Nat.le_refl, nI_add, mul_nI, lt_nI, le_nI, eq_nI, bnd_nI, ci_nI, decide_eq_true_eq, decide_true, decide_false, Bool.true_or, Bool.or_true, Bool.or_false, Bool.false_or, not_true_eq_false, not_false_eq_true, Bool.false_eq_true, Bool.false_and, Bool.true_and, Bool.and_true, Bool.and_false, Bool.not_true, Bool.not_false, false_and, and_false, and_self, ob_77, rf_77_1, rf_77_3, rf_77_4, rf_77_5, rf_77_6, rf_77_8, rf_77_9, rf_77_10, rf_77_16, rf_77_17, rf_77_18, rf_77_19, rf_77_20, ib_78, rd_78, ib_79, rd_79, ib_80, rd_80, ib_81, rd_81, ib_82, rd_82, ib_83, rd_83, ib_84, ib_85, rd_85, ib_86, rd_86, ib_87, rd_87, ib_88, ib_89, rd_89, ib_90, rd_90, h, h1, shl_nI, Nat.one_mul, hA]
    have hpc : am_pc s ≤ 6 := by unfold am_pc; omega
    by_cases hq : am_pc s ≤ k
    · have hq2 : ¬ k < am_pc s := by omega
      have ee : ar_ab x (tn 0) k (s + 1) = ar_ab x (tn 0) k s + ar_pr x s (tn 0) := by
        show ar_ab x (tn 0) k s + (if am_pc s ≤ k then ar_pr x s (tn 0) else 0) = _
        rw [if_pos hq]
      rw [ee]
      simp (disch := omega) only [s7_suns_98, s7_suns_100, s7_suns_102, s7_suns_105, s7_suns_106, s7_suns_109, s7_suns_111, s7_suns_114, s7_suns_115, s7_suns_116, s7_suns_118, s7_suns_121, am_k1_int, am_k1_ref, am_k1_none, am_cats_nil, am_cats_int, am_cats_ref, am_cats_long, Option.toList_some, Option.toList_none, List.singleton_append, List.nil_append, List.cons_append, true_and, and_true, if_true, if_false, va_rf, ↓reduceIte, Nat.reduceAdd, Nat.reduceMul, Nat.reduceSub, Nat.reduceLT, Nat.reduceLeDiff, Nat.reduceEqDiff, Nat.zero_le, Nat.add_zero, Nat.le_refl, nI_add, mul_nI, lt_nI, le_nI, eq_nI, bnd_nI, ci_nI, decide_eq_true_eq, decide_true, decide_false, Bool.true_or, Bool.or_true, Bool.or_false, Bool.false_or, not_true_eq_false, not_false_eq_true, Bool.false_eq_true, Bool.false_and, Bool.true_and, Bool.and_true, Bool.and_false, Bool.not_true, Bool.not_false, false_and, and_false, and_self, c7_ones, hq2]
    · have hq2 : k < am_pc s := by omega
      have ee : ar_ab x (tn 0) k (s + 1) = ar_ab x (tn 0) k s := by
        show ar_ab x (tn 0) k s + (if am_pc s ≤ k then ar_pr x s (tn 0) else 0) = _
        rw [if_neg hq, Nat.add_zero]
      rw [ee]
      simp (disch := omega) only [s7_suns_98, s7_suns_100, s7_suns_102, s7_suns_105, s7_suns_106, s7_suns_109, s7_suns_111, s7_suns_114, s7_suns_115, s7_suns_116, s7_suns_118, s7_suns_121, am_k1_int, am_k1_ref, am_k1_none, am_cats_nil, am_cats_int, am_cats_ref, am_cats_long, Option.toList_some, Option.toList_none, List.singleton_append, List.nil_append, List.cons_append, true_and, and_true, if_true, if_false, va_rf, ↓reduceIte, Nat.reduceAdd, Nat.reduceMul, Nat.reduceSub, Nat.reduceLT, Nat.reduceLeDiff, Nat.reduceEqDiff, Nat.zero_le, Nat.add_zero, Nat.le_refl, nI_add, mul_nI, lt_nI, le_nI, eq_nI, bnd_nI, ci_nI, decide_eq_true_eq, decide_true, decide_false, Bool.true_or, Bool.or_true, Bool.or_false, Bool.false_or, not_true_eq_false, not_false_eq_true, Bool.false_eq_true, Bool.false_and, Bool.true_and, Bool.and_true, Bool.and_false, Bool.not_true, Bool.not_false, false_and, and_false, and_self, c7_ones, hq2]
theorem l7_sunsC {x1 x2 x3 x4 : Int32} {l7 l8 : Option Value} (h : I 79 0 = nI (tn 0)) (hn : tn 0 ≤ 4) : ∀ (r e : Nat), e + r = tn 0 → (am_wp d m7_suns 127 [some (.ref 77), some (.int x1), some (.int x2), some (.int x3), some (.int x4), some (.int (nI (10 ^ e))), some (.int (nI e)), l7, l8] [] (am_sh n, I, J, am_Rf sw) Q ↔ am_wp d m7_suns 151 [some (.ref 77), some (.int x1), some (.int x2), some (.int x3), some (.int x4), some (.int (nI (10 ^ tn 0))), some (.int (nI (tn 0))), l7, l8] [] (am_sh n, I, J, am_Rf sw) Q)
  | 0, e, hm => by
    obtain rfl : e = tn 0 := by omega
    rw [s7_suns_127]
    simp (disch := omega) only [s7_suns_129, s7_suns_130, s7_suns_133, s7_suns_134, s7_suns_135, am_k1_int, am_k1_ref, am_k1_none, am_cats_nil, am_cats_int, am_cats_ref, am_cats_long, Option.toList_some, Option.toList_none, List.singleton_append, List.nil_append, List.cons_append, true_and, and_true, if_true, if_false, va_rf, ↓reduceIte, Nat.reduceAdd, Nat.reduceMul, Nat.reduceSub, Nat.reduceLT, Nat.reduceLeDiff, Nat.reduceEqDiff, Nat.zero_le, Nat.add_zero, Nat.le_refl, nI_add, mul_nI, lt_nI, le_nI, eq_nI, bnd_nI, ci_nI, decide_eq_true_eq, decide_true, decide_false, Bool.true_or, Bool.or_true, Bool.or_false, Bool.false_or, not_true_eq_false, not_false_eq_true, Bool.false_eq_true, Bool.false_and, Bool.true_and, Bool.and_true, Bool.and_false, Bool.not_true, Bool.not_false, false_and, and_false, and_self, ob_77, rf_77_1, rf_77_3, rf_77_4, rf_77_5, rf_77_6, rf_77_8, rf_77_9, rf_77_10, rf_77_16, rf_77_17, rf_77_18, rf_77_19, rf_77_20, ib_78, rd_78, ib_79, rd_79, ib_80, rd_80, ib_81, rd_81, ib_82, rd_82, ib_83, rd_83, ib_84, ib_85, rd_85, ib_86, rd_86, ib_87, rd_87, ib_88, ib_89, rd_89, ib_90, rd_90, h]
  | r + 1, e, hm => by
    have ih := l7_sunsC (x1 := x1) (x2 := x2) (x3 := x3) (x4 := x4) (l7 := l7) (l8 := l8) h hn r (e + 1) (by omega)
    rw [Nat.pow_succ] at ih
    have h1 : ¬ tn 0 ≤ e := by omega
    rw [s7_suns_127, ← ih]
    simp (disch := omega) only [s7_suns_129, s7_suns_130, s7_suns_133, s7_suns_134, s7_suns_135, s7_suns_138, s7_suns_140, s7_suns_142, s7_suns_143, s7_suns_145, s7_suns_148, am_k1_int, am_k1_ref, am_k1_none, am_cats_nil, am_cats_int, am_cats_ref, am_cats_long, Option.toList_some, Option.toList_none, List.singleton_append, List.nil_append, List.cons_append, true_and, and_true, if_true, if_false, va_rf, ↓reduceIte, Nat.reduceAdd, Nat.reduceMul, Nat.reduceSub, Nat.reduceLT, Nat.reduceLeDiff, Nat.reduceEqDiff, Nat.zero_le, Nat.add_zero, Nat.le_refl, nI_add, mul_nI, lt_nI, le_nI, eq_nI, bnd_nI, ci_nI, decide_eq_true_eq, decide_true, decide_false, Bool.true_or, Bool.or_true, Bool.or_false, Bool.false_or, not_true_eq_false, not_false_eq_true, Bool.false_eq_true, Bool.false_and, Bool.true_and, Bool.and_true, Bool.and_false, Bool.not_true, Bool.not_false, false_and, and_false, and_self, ob_77, rf_77_1, rf_77_3, rf_77_4, rf_77_5, rf_77_6, rf_77_8, rf_77_9, rf_77_10, rf_77_16, rf_77_17, rf_77_18, rf_77_19, rf_77_20, ib_78, rd_78, ib_79, rd_79, ib_80, rd_80, ib_81, rd_81, ib_82, rd_82, ib_83, rd_83, ib_84, ib_85, rd_85, ib_86, rd_86, ib_87, rd_87, ib_88, ib_89, rd_89, ib_90, rd_90, h, h1]
end
section
variable {n d : Nat} {x y z : Int32}
set_option maxHeartbeats 4000000 in
theorem p_suns : am_pr n (d + 8) m6_suns m7_suns [.ref 1, .int x, .int y, .int z] [.ref 77, .int x, .int y, .int z] := by
  intro sw I J hR
  obtain ⟨T, tn, sn, pn, im, tx, fm, fi, nx, m, ln, pm, hT, hO, hA, hS, hP, hI, hX, hF, hC, hJ⟩ := id hR
  have o1 := hO.1
  have t0 := hA.1 0 (by omega)
  have a2 := hA.2.1
  cases hb : am_bnd x 11 with
  | false =>
    simp (disch := omega) only [e6_suns, s6_suns_0, s6_suns_1, s6_suns_4, s6_suns_5, s6_suns_7, s6_suns_28, s6_suns_29, e7_suns, s7_suns_0, s7_suns_1, s7_suns_2, s7_suns_4, s7_suns_7, s7_suns_28, s7_suns_29, am_k1_int, am_k1_ref, am_k1_none, am_cats_nil, am_cats_int, am_cats_ref, am_cats_long, Option.toList_some, Option.toList_none, List.singleton_append, List.nil_append, List.cons_append, true_and, and_true, if_true, if_false, va_rf, ↓reduceIte, Nat.reduceAdd, Nat.reduceMul, Nat.reduceSub, Nat.reduceLT, Nat.reduceLeDiff, Nat.reduceEqDiff, Nat.zero_le, Nat.add_zero, Nat.le_refl, nI_add, mul_nI, lt_nI, le_nI, eq_nI, bnd_nI, ci_nI, decide_eq_true_eq, decide_true, decide_false, Bool.true_or, Bool.or_true, Bool.or_false, Bool.false_or, not_true_eq_false, not_false_eq_true, Bool.false_eq_true, Bool.false_and, Bool.true_and, Bool.and_true, Bool.and_false, Bool.not_true, Bool.not_false, false_and, and_false, and_self, c7_in, bnd_in2, ite_bnd3, hb, bi_ret, bi_t, bi_f, ite_bi2]
    exact ⟨⟨_, rfl⟩, sw, I, J, rfl, fun _ => rfl, hR⟩
  | true =>
  obtain ⟨a, ha, rfl⟩ := bnd_of hb (by omega)
  have ga : ¬ a < 0 := by omega
  have ga2 : ¬ 10 < a := by omega
  have ga3 : a ≤ 10 := by omega
  cases hb2 : am_bnd y 5 with
  | false =>
    simp (disch := omega) only [e6_suns, s6_suns_0, s6_suns_1, s6_suns_4, s6_suns_5, s6_suns_7, s6_suns_10, s6_suns_11, s6_suns_14, s6_suns_15, s6_suns_16, s6_suns_28, s6_suns_29, e7_suns, s7_suns_0, s7_suns_1, s7_suns_2, s7_suns_4, s7_suns_7, s7_suns_10, s7_suns_11, s7_suns_12, s7_suns_13, s7_suns_16, s7_suns_28, s7_suns_29, am_k1_int, am_k1_ref, am_k1_none, am_cats_nil, am_cats_int, am_cats_ref, am_cats_long, Option.toList_some, Option.toList_none, List.singleton_append, List.nil_append, List.cons_append, true_and, and_true, if_true, if_false, va_rf, ↓reduceIte, Nat.reduceAdd, Nat.reduceMul, Nat.reduceSub, Nat.reduceLT, Nat.reduceLeDiff, Nat.reduceEqDiff, Nat.zero_le, Nat.add_zero, Nat.le_refl, nI_add, mul_nI, lt_nI, le_nI, eq_nI, bnd_nI, ci_nI, decide_eq_true_eq, decide_true, decide_false, Bool.true_or, Bool.or_true, Bool.or_false, Bool.false_or, not_true_eq_false, not_false_eq_true, Bool.false_eq_true, Bool.false_and, Bool.true_and, Bool.and_true, Bool.and_false, Bool.not_true, Bool.not_false, false_and, and_false, and_self, c7_in, bnd_in2, ite_bnd3, hb2, ga, ga2, ga3, bi_ret, bi_t, bi_f, ite_bi2]
    exact ⟨⟨_, rfl⟩, sw, I, J, rfl, fun _ => rfl, hR⟩
  | true =>
  obtain ⟨b, hb5, rfl⟩ := bnd_of hb2 (by omega)
  have gb : ¬ b < 0 := by omega
  have gb2 : ¬ 4 < b := by omega
  have gb3 : b ≤ 4 := by omega
  cases hb3 : am_bnd z 2 with
  | false =>
    simp (disch := omega) only [e6_suns, s6_suns_0, s6_suns_1, s6_suns_4, s6_suns_5, s6_suns_7, s6_suns_10, s6_suns_11, s6_suns_14, s6_suns_15, s6_suns_16, s6_suns_19, s6_suns_20, s6_suns_23, s6_suns_24, s6_suns_25, s6_suns_28, s6_suns_29, e7_suns, s7_suns_0, s7_suns_1, s7_suns_2, s7_suns_4, s7_suns_7, s7_suns_10, s7_suns_11, s7_suns_12, s7_suns_13, s7_suns_16, s7_suns_19, s7_suns_20, s7_suns_21, s7_suns_22, s7_suns_25, s7_suns_28, s7_suns_29, am_k1_int, am_k1_ref, am_k1_none, am_cats_nil, am_cats_int, am_cats_ref, am_cats_long, Option.toList_some, Option.toList_none, List.singleton_append, List.nil_append, List.cons_append, true_and, and_true, if_true, if_false, va_rf, ↓reduceIte, Nat.reduceAdd, Nat.reduceMul, Nat.reduceSub, Nat.reduceLT, Nat.reduceLeDiff, Nat.reduceEqDiff, Nat.zero_le, Nat.add_zero, Nat.le_refl, nI_add, mul_nI, lt_nI, le_nI, eq_nI, bnd_nI, ci_nI, decide_eq_true_eq, decide_true, decide_false, Bool.true_or, Bool.or_true, Bool.or_false, Bool.false_or, not_true_eq_false, not_false_eq_true, Bool.false_eq_true, Bool.false_and, Bool.true_and, Bool.and_true, Bool.and_false, Bool.not_true, Bool.not_false, false_and, and_false, and_self, c7_in, bnd_in2, ite_bnd2, hb3, ga, ga2, ga3, gb, gb2, gb3, bi_ret, bi_t, bi_f, ite_bi2]
    exact ⟨⟨_, rfl⟩, sw, I, J, rfl, fun _ => rfl, hR⟩
  | true =>
  obtain ⟨e, he, rfl⟩ := bnd_of hb3 (by omega)
  have ge : ¬ e < 0 := by omega
  have ge3 : e ≤ 1 := by omega
  obtain ⟨q1, q2⟩ := ch_ab ha (show tn 0 < 5 by omega) hb5
  obtain ⟨q3, q4⟩ := ten_le (show tn 0 < 5 by omega)
  obtain ⟨U, hU⟩ : ∃ U, U = ar_ch a (tn 0) (b + 1) := ⟨_, rfl⟩
  obtain ⟨W, hW⟩ : ∃ W, W = 10 ^ tn 0 := ⟨_, rfl⟩
  rw [← hU] at q1 q2
  rw [← hW] at q2 q3 q4
  have hg1 : 1 ≤ Nat.gcd U W := Nat.gcd_pos_of_pos_right _ (by omega)
  have hg2 : Nat.gcd U W ≤ W := Nat.gcd_le_right _ (by omega)
  have hgz : ¬ Nat.gcd U W = 0 := by omega
  have hch : ∀ Q, am_call (d + 7) m6_chances [.int (nI (tn 0)), .int (nI a), .int (nI b)] (am_sh n, I, J, am_Rf sw) Q ↔ Q (some (.int (nI U))) (am_sh n, I, J, am_Rf sw) := by
    intro Q
    have h := c6_chances (M := (am_sh n, I, J, am_Rf sw)) ha (tn 0) (b + 1) (d + 6 - tn 0) Q (by omega) (by omega)
    rw [show d + 6 - tn 0 + tn 0 + 1 = d + 7 by omega, sub_nI (by omega), Nat.add_sub_cancel, ← hU] at h
    exact h
  have hl6 := fun Q (x3 x4 : Int32) => l6_suns (d := d + 7) (n := n) (J := J) (Q := Q) (x1 := nI a) (x2 := nI b) (x3 := x3) (x4 := x4) hT a2 o1 (tn 0) 0 (by omega)
  rw [show 10 ^ 0 = 1 from rfl, ← hW] at hl6
  have key : am_call (d + 8) m6_suns [.ref 1, .int (nI a), .int (nI b), .int (nI e)] (am_sh n, I, J, am_Rf sw) (fun v M1 => v = some (.int (nI ((if e = 0 then U else W) / Nat.gcd U W))) ∧ M1 = (am_sh n, I, J, am_Rf sw)) := by
    rcases (show e = 0 ∨ e = 1 by omega) with rfl | rfl <;> rcases id hT with ⟨rfl, rfl⟩ | ⟨rfl, rfl⟩ <;> simp (disch := omega) only [e6_suns, s6_suns_0, s6_suns_1, s6_suns_4, s6_suns_5, s6_suns_7, s6_suns_10, s6_suns_11, s6_suns_14, s6_suns_15, s6_suns_16, s6_suns_19, s6_suns_20, s6_suns_23, s6_suns_24, s6_suns_25, s6_suns_28, s6_suns_29, s6_suns_30, s6_suns_31, s6_suns_34, s6_suns_37, s6_suns_38, s6_suns_39, s6_suns_42, s6_suns_44, s6_suns_45, s6_suns_47, s6_suns_48, am_k1_int, am_k1_ref, am_k1_none, am_cats_nil, am_cats_int, am_cats_ref, am_cats_long, Option.toList_some, Option.toList_none, List.singleton_append, List.nil_append, List.cons_append, true_and, and_true, if_true, if_false, va_rf, ↓reduceIte, Nat.reduceAdd, Nat.reduceMul, Nat.reduceSub, Nat.reduceLT, Nat.reduceLeDiff, Nat.reduceEqDiff, Nat.zero_le, Nat.add_zero, Nat.le_refl, nI_add, mul_nI, lt_nI, le_nI, eq_nI, bnd_nI, ci_nI, decide_eq_true_eq, decide_true, decide_false, Bool.true_or, Bool.or_true, Bool.or_false, Bool.false_or, not_true_eq_false, not_false_eq_true, Bool.false_eq_true, Bool.false_and, Bool.true_and, Bool.and_true, Bool.and_false, Bool.not_true, Bool.not_false, false_and, and_false, and_self, ob_1, rf_1_0, rf_1_1, rf_1_2, rf_1_3, rf_1_4, rf_1_5, rf_1_6, rf_1_7, rf_1_8, ob_2, rf_2_0, ib_3, rd_3, ob_4, rf_4_1, rf_4_2, rf_4_3, rf_4_5, rf_4_6, rf_4_7, rf_4_8, ib_5, rd_5, ib_6, rd_6, ib_7, rd_7, ib_8, rd_8, ib_9, rd_9, ib_10, rd_10, ib_11, rd_11, ob_12, rf_12_1, rf_12_2, rf_12_3, rf_12_5, rf_12_6, rf_12_7, rf_12_8, ib_13, rd_13, ib_14, rd_14, ib_15, rd_15, ib_16, rd_16, ib_17, rd_17, ib_18, rd_18, ib_19, rd_19, ob_20, rf_20_3, rf_20_4, ib_21, rd_21, ib_22, rd_22, ob_23, rf_23_0, ib_24, ix_24, rf_24_0, rf_24_1, rf_24_2, rf_24_3, rf_24_4, rf_24_5, rf_24_6, rf_24_7, rf_24_8, rf_24_9, ib_55, ix_55, rf_55_0, rf_55_1, ib_56, ob_57, rf_57_0, rf_57_1, ib_58, rd_58, ib_59, ob_60, rf_60_2, rf_60_3, rf_60_4, rf_60_5, rf_60_6, ib_61, rd_61, ib_62, ib_63, ix_63, rf_63_0, rf_63_1, rf_63_2, rf_63_3, rf_63_4, tb_t, tb_f, a2, ga, ga2, ga3, gb, gb2, gb3, hch, hl6] <;> simp (disch := omega) only [s6_suns_75, s6_suns_77, s6_suns_79, s6_suns_82, s6_suns_84, s6_suns_85, s6_suns_88, s6_suns_90, s6_suns_93, s6_suns_95, s6_suns_97, s6_suns_98, am_k1_int, am_k1_ref, am_k1_none, am_cats_nil, am_cats_int, am_cats_ref, am_cats_long, Option.toList_some, Option.toList_none, List.singleton_append, List.nil_append, List.cons_append, true_and, and_true, if_true, if_false, va_rf, ↓reduceIte, Nat.reduceAdd, Nat.reduceMul, Nat.reduceSub, Nat.reduceLT, Nat.reduceLeDiff, Nat.reduceEqDiff, Nat.zero_le, Nat.add_zero, Nat.le_refl, nI_add, mul_nI, lt_nI, le_nI, eq_nI, bnd_nI, ci_nI, decide_eq_true_eq, decide_true, decide_false, Bool.true_or, Bool.or_true, Bool.or_false, Bool.false_or, not_true_eq_false, not_false_eq_true, Bool.false_eq_true, Bool.false_and, Bool.true_and, Bool.and_true, Bool.and_false, Bool.not_true, Bool.not_false, false_and, and_false, and_self, c6_shared q2 q3 q4, hgz, pk_div]
  refine am_call_mono _ _ _ _ _ _ ?_ key
  rintro v M1 ⟨rfl, rfl⟩
  have hmod : am_call (d + 8) m7_suns [.ref 77, .int (nI a), .int (nI b), .int (nI e)] (am_sh n, I, J, am_Rf sw) (fun v M1 => v = some (.int (nI ((if e = 0 then U else W) / Nat.gcd U W))) ∧ M1 = (am_sh n, I, J, am_Rf sw)) := by
    obtain ⟨l7', l8', hB⟩ := l7_sunsB (d := d + 6) (n := n) (J := J) (sw := sw) (Q := fun v M1 => v = some (.int (nI ((if e = 0 then U else W) / Nat.gcd U W))) ∧ M1 = (am_sh n, I, J, am_Rf sw)) (x3 := nI e) (x5 := nI 1) ha hb5 t0 o1 (2 ^ tn 0) 0 none none (by omega)
    rw [show ar_ab a (tn 0) b 0 = 0 from rfl, q1] at hB
    simp (disch := omega) only [e7_suns, s7_suns_0, s7_suns_1, s7_suns_2, s7_suns_4, s7_suns_7, s7_suns_10, s7_suns_11, s7_suns_12, s7_suns_13, s7_suns_16, s7_suns_19, s7_suns_20, s7_suns_21, s7_suns_22, s7_suns_25, s7_suns_28, s7_suns_29, s7_suns_30, s7_suns_31, s7_suns_33, s7_suns_34, s7_suns_36, s7_suns_37, am_k1_int, am_k1_ref, am_k1_none, am_cats_nil, am_cats_int, am_cats_ref, am_cats_long, Option.toList_some, Option.toList_none, List.singleton_append, List.nil_append, List.cons_append, true_and, and_true, if_true, if_false, va_rf, ↓reduceIte, Nat.reduceAdd, Nat.reduceMul, Nat.reduceSub, Nat.reduceLT, Nat.reduceLeDiff, Nat.reduceEqDiff, Nat.zero_le, Nat.add_zero, Nat.le_refl, nI_add, mul_nI, lt_nI, le_nI, eq_nI, bnd_nI, ci_nI, decide_eq_true_eq, decide_true, decide_false, Bool.true_or, Bool.or_true, Bool.or_false, Bool.false_or, not_true_eq_false, not_false_eq_true, Bool.false_eq_true, Bool.false_and, Bool.true_and, Bool.and_true, Bool.and_false, Bool.not_true, Bool.not_false, false_and, and_false, and_self, c7_in, ga3, gb3, ge3, bi_ret, bi_t, bi_f, ite_bi2]
    rw [hB, s7_suns_124]
    have hC7 := fun Q => l7_sunsC (d := d + 7) (n := n) (J := J) (sw := sw) (Q := Q) (x1 := nI a) (x2 := nI b) (x3 := nI e) (x4 := nI U) (l7 := l7') (l8 := l8') t0 o1 (tn 0) 0 (by omega)
    rw [show 10 ^ 0 = 1 from rfl, ← hW] at hC7
    simp (disch := omega) only [s7_suns_125, am_k1_int, am_k1_ref, am_k1_none, am_cats_nil, am_cats_int, am_cats_ref, am_cats_long, Option.toList_some, Option.toList_none, List.singleton_append, List.nil_append, List.cons_append, true_and, and_true, if_true, if_false, va_rf, hC7]
    obtain ⟨l8'', hG⟩ := l7_gcd (d := d + 7) (M := (am_sh n, I, J, am_Rf sw)) (Q := fun v M1 => v = some (.int (nI ((if e = 0 then U else W) / Nat.gcd U W))) ∧ M1 = (am_sh n, I, J, am_Rf sw)) (x0 := .ref 77) (x1 := .int (nI a)) (x2 := .int (nI b)) (x3 := .int (nI e)) (x4 := .int (nI U)) (x5 := nI W) (W + 1) U W l8' (by omega) (by omega) (by omega)
    simp (disch := omega) only [s7_suns_151, s7_suns_153, s7_suns_155, s7_suns_157, am_k1_int, am_k1_ref, am_k1_none, am_cats_nil, am_cats_int, am_cats_ref, am_cats_long, Option.toList_some, Option.toList_none, List.singleton_append, List.nil_append, List.cons_append, true_and, and_true, if_true, if_false, va_rf]
    rw [hG]
    rcases (show e = 0 ∨ e = 1 by omega) with rfl | rfl <;> simp (disch := omega) only [s7_suns_182, s7_suns_183, s7_suns_186, s7_suns_188, s7_suns_190, s7_suns_191, s7_suns_194, s7_suns_196, s7_suns_198, s7_suns_199, am_k1_int, am_k1_ref, am_k1_none, am_cats_nil, am_cats_int, am_cats_ref, am_cats_long, Option.toList_some, Option.toList_none, List.singleton_append, List.nil_append, List.cons_append, true_and, and_true, if_true, if_false, va_rf, ↓reduceIte, Nat.reduceAdd, Nat.reduceMul, Nat.reduceSub, Nat.reduceLT, Nat.reduceLeDiff, Nat.reduceEqDiff, Nat.zero_le, Nat.add_zero, Nat.le_refl, nI_add, mul_nI, lt_nI, le_nI, eq_nI, bnd_nI, ci_nI, decide_eq_true_eq, decide_true, decide_false, Bool.true_or, Bool.or_true, Bool.or_false, Bool.false_or, not_true_eq_false, not_false_eq_true, Bool.false_eq_true, Bool.false_and, Bool.true_and, Bool.and_true, Bool.and_false, Bool.not_true, Bool.not_false, false_and, and_false, and_self, hgz, pk_div]
  refine am_call_mono _ _ _ _ _ _ ?_ hmod
  rintro v M2 ⟨rfl, rfl⟩
  exact ⟨rfl, ⟨_, rfl⟩, sw, I, J, rfl, fun _ => rfl, hR⟩
end
