theorem pc_le6 (k : Nat) : am_pc k ≤ 6 := by
  unfold am_pc
  omega
theorem ms1_le {tn nxt : Nat → Nat} {e s B : Nat} (h : ∀ x, nxt x ≤ B) : ∀ q, am_ms1 tn nxt e s q ≤ 6 + B
  | 0 => by
    show 0 ≤ _
    omega
  | q + 1 => by
    have ih := ms1_le (tn := tn) (e := e) (s := s) h q
    have h1 := pc_le6 q
    have h2 := h (s &&& (63 - q))
    simp only [am_ms1]
    split <;> omega
theorem msE_le {tn : Nat → Nat} : ∀ k x, am_msE tn k x ≤ 6 * k
  | 0, x => Nat.le_refl _
  | k + 1, x => by
    have := ms1_le (tn := tn) (e := tn 0 - (k + 1)) (s := x) (msE_le (tn := tn) k) (x + 1)
    show am_ms1 tn (am_msE tn k) (tn 0 - (k + 1)) x (x + 1) ≤ _
    omega
theorem rf_63 {e : Nat} (h : e < 5) (sw : Bool) (n : Nat) : am_Rf sw 63 e = some (64 + e) ∧ (∀ j, am_rd (am_sh n) (64 + e) j = am_bnd j 64) ∧ (∀ j, am_inb (am_sh n) (64 + e) 8 j = am_bnd j 64) := by
  rcases (show e = 0 ∨ e = 1 ∨ e = 2 ∨ e = 3 ∨ e = 4 by omega) with rfl | rfl | rfl | rfl | rfl <;> exact ⟨rfl, fun j => Bool.or_false _, fun j => rfl⟩
section
variable {n d T : Nat} {tn nxt : Nat → Nat} {I : Nat → Nat → Int32} {J : Nat → Nat → Int64} {sw : Bool} {Q : am_Post}
theorem l0_mostOf {e s : Nat} (hO : ar_told tn) (he : e < tn 0) (hs : s < 2 ^ tn 1) (hJ : J 62 e = lN (am_clo tn e (2 ^ tn 1))) (hN : ∀ x, x < 2 ^ tn 1 → I (65 + e) x = nI (nxt x)) (hB : ∀ x, nxt x ≤ 24) : ∀ (r q : Nat), q + r = s + 1 → (am_wp (d + 1) m0_mostOf 5 [some (.ref 60), some (.int (nI e)), some (.int (nI s)), some (.int (nI (am_ms1 tn nxt e s q))), some (.int (nI q))] [] (am_sh n, I, J, am_Rf sw) Q ↔ Q (some (.int (nI (am_ms1 tn nxt e s (s + 1))))) (am_sh n, I, J, am_Rf sw))
  | 0, q, hm => by
    have p6 := (pow2_6 hO.2.1).1
    obtain rfl : q = s + 1 := by omega
    have h1 : s < s + 1 := by omega
    simp (disch := omega) only [e0_mostOf, s0_mostOf_0, s0_mostOf_1, s0_mostOf_2, s0_mostOf_3, s0_mostOf_5, s0_mostOf_7, s0_mostOf_8, s0_mostOf_11, s0_mostOf_13, s0_mostOf_14, s0_mostOf_15, s0_mostOf_16, s0_mostOf_17, s0_mostOf_20, s0_mostOf_21, s0_mostOf_22, s0_mostOf_24, s0_mostOf_27, s0_mostOf_30, s0_mostOf_31, s0_mostOf_33, s0_mostOf_36, s0_mostOf_37, s0_mostOf_40, s0_mostOf_41, s0_mostOf_42, s0_mostOf_43, s0_mostOf_44, s0_mostOf_45, s0_mostOf_47, s0_mostOf_48, s0_mostOf_49, s0_mostOf_50, s0_mostOf_51, s0_mostOf_52, s0_mostOf_55, s0_mostOf_56, s0_mostOf_59, s0_mostOf_62, s0_mostOf_63, am_k1_int, am_k1_ref, am_k1_none, am_cats_nil, am_cats_int, am_cats_ref, am_cats_long, Option.toList_some, Option.toList_none, List.singleton_append, List.nil_append, List.cons_append, true_and, and_true, if_true, if_false, va_rf, ↓reduceIte, Nat.reduceAdd, Nat.reduceMul, Nat.reduceSub, Nat.reduceLT, Nat.reduceLeDiff, Nat.reduceEqDiff, Nat.zero_le, Nat.add_zero, Nat.le_refl, nI_add, mul_nI, lt_nI, le_nI, eq_nI, bnd_nI, ci_nI, decide_eq_true_eq, decide_true, decide_false, Bool.true_or, Bool.or_true, Bool.or_false, Bool.false_or, not_true_eq_false, not_false_eq_true, Bool.false_eq_true, Bool.false_and, Bool.true_and, Bool.and_true, Bool.and_false, Bool.not_true, Bool.not_false, false_and, and_false, and_self, h1]
  | r + 1, q, hm => by
    have o1 := hO.1
    have p6 := (pow2_6 hO.2.1).1
    have ih := l0_mostOf hO he hs hJ hN hB r (q + 1) (by omega)
    have h1 : ¬ s < q := by omega
    have he4 : e < 4 := by omega
    have he5 : e + 1 < 5 := by omega
    have hq : q < 64 := by omega
    have hcl := fun Q => c0_clothes_ (d := d) (n := n) (I := I) (sw := sw) (Q := Q) he4 hq hJ
    rw [clo_bit _ (by omega)] at hcl
    obtain ⟨r1, r2, -⟩ := rf_63 he5 sw n
    rw [show 64 + (e + 1) = 65 + e by omega] at r1 r2
    have hx : s &&& (63 - q) ≤ s := Nat.and_le_left
    have hx64 : s &&& (63 - q) < 64 := by omega
    have hv := hN (s &&& (63 - q)) (by omega)
    have hb := hB (s &&& (63 - q))
    have hm1 := ms1_le (tn := tn) (e := e) (s := s) hB q
    have hpc := pc_le6 q
    have hqz : q &&& (63 - s) ≤ q := Nat.and_le_left
    rw [s0_mostOf_5, ← ih]
    by_cases hz : q &&& (63 - s) = 0
    · cases hc : am_can tn e q with
      | true =>
        rw [hc] at hcl
        rw [show am_ms1 tn nxt e s (q + 1) = max (am_ms1 tn nxt e s q) (am_pc q + nxt (s &&& (63 - q))) from if_pos ⟨hz, hc⟩]
        simp (disch := omega) only [e0_mostOf, s0_mostOf_0, s0_mostOf_1, s0_mostOf_2, s0_mostOf_3, s0_mostOf_7, s0_mostOf_8, s0_mostOf_11, s0_mostOf_13, s0_mostOf_14, s0_mostOf_15, s0_mostOf_16, s0_mostOf_17, s0_mostOf_20, s0_mostOf_21, s0_mostOf_22, s0_mostOf_24, s0_mostOf_27, s0_mostOf_30, s0_mostOf_31, s0_mostOf_33, s0_mostOf_36, s0_mostOf_37, s0_mostOf_40, s0_mostOf_41, s0_mostOf_42, s0_mostOf_43, s0_mostOf_44, s0_mostOf_45, s0_mostOf_47, s0_mostOf_48, s0_mostOf_49, s0_mostOf_50, s0_mostOf_51, s0_mostOf_52, s0_mostOf_55, s0_mostOf_56, s0_mostOf_59, s0_mostOf_62, s0_mostOf_63, am_k1_int, am_k1_ref, am_k1_none, am_cats_nil, am_cats_int, am_cats_ref, am_cats_long, Option.toList_some, Option.toList_none, List.singleton_append, List.nil_append, List.cons_append, true_and, and_true, if_true, if_false, va_rf, ↓reduceIte, Nat.reduceAdd, Nat.reduceMul, Nat.reduceSub, Nat.reduceLT, Nat.reduceLeDiff, Nat.reduceEqDiff, Nat.zero_le, Nat.add_zero, Nat.le_refl, nI_add, mul_nI, lt_nI, le_nI, eq_nI, bnd_nI, ci_nI, decide_eq_true_eq, decide_true, decide_false, Bool.true_or, Bool.or_true, Bool.or_false, Bool.false_or, not_true_eq_false, not_false_eq_true, Bool.false_eq_true, Bool.false_and, Bool.true_and, Bool.and_true, Bool.and_false, Bool.not_true, Bool.not_false, false_and, and_false, and_self, ob_60, rf_60_2, rf_60_3, rf_60_4, rf_60_5, rf_60_6, ib_63, ix_63, rf_63_0, rf_63_1, rf_63_2, rf_63_3, rf_63_4, h1, andn_nI, hz, hcl, bi_t, ite_bi2, cJ6_bitCount, he5, r1, r2, hx64, hv, cJ9_max]
      | false =>
        rw [hc] at hcl
        rw [show am_ms1 tn nxt e s (q + 1) = am_ms1 tn nxt e s q from if_neg (by rw [hc]; simp)]
        simp (disch := omega) only [e0_mostOf, s0_mostOf_0, s0_mostOf_1, s0_mostOf_2, s0_mostOf_3, s0_mostOf_7, s0_mostOf_8, s0_mostOf_11, s0_mostOf_13, s0_mostOf_14, s0_mostOf_15, s0_mostOf_16, s0_mostOf_17, s0_mostOf_20, s0_mostOf_21, s0_mostOf_22, s0_mostOf_24, s0_mostOf_27, s0_mostOf_30, s0_mostOf_31, s0_mostOf_33, s0_mostOf_36, s0_mostOf_37, s0_mostOf_40, s0_mostOf_41, s0_mostOf_42, s0_mostOf_43, s0_mostOf_44, s0_mostOf_45, s0_mostOf_47, s0_mostOf_48, s0_mostOf_49, s0_mostOf_50, s0_mostOf_51, s0_mostOf_52, s0_mostOf_55, s0_mostOf_56, s0_mostOf_59, s0_mostOf_62, s0_mostOf_63, am_k1_int, am_k1_ref, am_k1_none, am_cats_nil, am_cats_int, am_cats_ref, am_cats_long, Option.toList_some, Option.toList_none, List.singleton_append, List.nil_append, List.cons_append, true_and, and_true, if_true, if_false, va_rf, ↓reduceIte, Nat.reduceAdd, Nat.reduceMul, Nat.reduceSub, Nat.reduceLT, Nat.reduceLeDiff, Nat.reduceEqDiff, Nat.zero_le, Nat.add_zero, Nat.le_refl, nI_add, mul_nI, lt_nI, le_nI, eq_nI, bnd_nI, ci_nI, decide_eq_true_eq, decide_true, decide_false, Bool.true_or, Bool.or_true, Bool.or_false, Bool.false_or, not_true_eq_false, not_false_eq_true, Bool.false_eq_true, Bool.false_and, Bool.true_and, Bool.and_true, Bool.and_false, Bool.not_true, Bool.not_false, false_and, and_false, and_self, ob_60, rf_60_2, rf_60_3, rf_60_4, rf_60_5, rf_60_6, ib_63, ix_63, rf_63_0, rf_63_1, rf_63_2, rf_63_3, rf_63_4, h1, andn_nI, hz, hcl, bi_f, ite_bi2]
    · rw [show am_ms1 tn nxt e s (q + 1) = am_ms1 tn nxt e s q from if_neg (fun h => hz h.1)]
      simp (disch := omega) only [e0_mostOf, s0_mostOf_0, s0_mostOf_1, s0_mostOf_2, s0_mostOf_3, s0_mostOf_7, s0_mostOf_8, s0_mostOf_11, s0_mostOf_13, s0_mostOf_14, s0_mostOf_15, s0_mostOf_16, s0_mostOf_17, s0_mostOf_20, s0_mostOf_21, s0_mostOf_22, s0_mostOf_24, s0_mostOf_27, s0_mostOf_30, s0_mostOf_31, s0_mostOf_33, s0_mostOf_36, s0_mostOf_37, s0_mostOf_40, s0_mostOf_41, s0_mostOf_42, s0_mostOf_43, s0_mostOf_44, s0_mostOf_45, s0_mostOf_47, s0_mostOf_48, s0_mostOf_49, s0_mostOf_50, s0_mostOf_51, s0_mostOf_52, s0_mostOf_55, s0_mostOf_56, s0_mostOf_59, s0_mostOf_62, s0_mostOf_63, am_k1_int, am_k1_ref, am_k1_none, am_cats_nil, am_cats_int, am_cats_ref, am_cats_long, Option.toList_some, Option.toList_none, List.singleton_append, List.nil_append, List.cons_append, true_and, and_true, if_true, if_false, va_rf, ↓reduceIte, Nat.reduceAdd, Nat.reduceMul, Nat.reduceSub, Nat.reduceLT, Nat.reduceLeDiff, Nat.reduceEqDiff, Nat.zero_le, Nat.add_zero, Nat.le_refl, nI_add, mul_nI, lt_nI, le_nI, eq_nI, bnd_nI, ci_nI, decide_eq_true_eq, decide_true, decide_false, Bool.true_or, Bool.or_true, Bool.or_false, Bool.false_or, not_true_eq_false, not_false_eq_true, Bool.false_eq_true, Bool.false_and, Bool.true_and, Bool.and_true, Bool.and_false, Bool.not_true, Bool.not_false, false_and, and_false, and_self, ob_60, rf_60_2, rf_60_3, rf_60_4, rf_60_5, rf_60_6, ib_63, ix_63, rf_63_0, rf_63_1, rf_63_2, rf_63_3, rf_63_4, h1, andn_nI, hz]
theorem c0_mostOf {e s : Nat} (hO : ar_told tn) (he : e < tn 0) (hs : s < 2 ^ tn 1) (hJ : J 62 e = lN (am_clo tn e (2 ^ tn 1))) (hN : ∀ x, x < 2 ^ tn 1 → I (65 + e) x = nI (am_most tn (e + 1) x)) : am_call (d + 2) m0_mostOf [.ref 60, .int (nI e), .int (nI s)] (am_sh n, I, J, am_Rf sw) Q ↔ Q (some (.int (nI (am_most tn e s)))) (am_sh n, I, J, am_Rf sw) := by
  have o1 := hO.1
  have hB : ∀ x, am_most tn (e + 1) x ≤ 24 := by
    intro x
    have := msE_le (tn := tn) (tn 0 - (e + 1)) x
    show am_msE tn (tn 0 - (e + 1)) x ≤ 24
    omega
  have hv : am_most tn e s = am_ms1 tn (am_most tn (e + 1)) e s (s + 1) := by
    show am_msE tn (tn 0 - e) s = _
    rw [show tn 0 - e = (tn 0 - (e + 1)) + 1 by omega]
    show am_ms1 tn (am_msE tn (tn 0 - (e + 1))) (tn 0 - (tn 0 - (e + 1) + 1)) s (s + 1) = _
    rw [show tn 0 - (tn 0 - (e + 1) + 1) = e by omega]
    rfl
  rw [hv, ← l0_mostOf (d := d) (n := n) (sw := sw) (Q := Q) hO he hs hJ hN hB (s + 1) 0 (by omega)]
  simp (disch := omega) only [e0_mostOf, s0_mostOf_0, s0_mostOf_1, s0_mostOf_2, s0_mostOf_3, s0_mostOf_7, s0_mostOf_8, s0_mostOf_11, s0_mostOf_13, s0_mostOf_14, s0_mostOf_15, s0_mostOf_16, s0_mostOf_17, s0_mostOf_20, s0_mostOf_21, s0_mostOf_22, s0_mostOf_24, s0_mostOf_27, s0_mostOf_30, s0_mostOf_31, s0_mostOf_33, s0_mostOf_36, s0_mostOf_37, s0_mostOf_40, s0_mostOf_41, s0_mostOf_42, s0_mostOf_43, s0_mostOf_44, s0_mostOf_45, s0_mostOf_47, s0_mostOf_48, s0_mostOf_49, s0_mostOf_50, s0_mostOf_51, s0_mostOf_52, s0_mostOf_55, s0_mostOf_56, s0_mostOf_59, s0_mostOf_62, s0_mostOf_63, am_k1_int, am_k1_ref, am_k1_none, am_cats_nil, am_cats_int, am_cats_ref, am_cats_long, Option.toList_some, Option.toList_none, List.singleton_append, List.nil_append, List.cons_append, true_and, and_true, if_true, if_false, va_rf, ↓reduceIte, Nat.reduceAdd, Nat.reduceMul, Nat.reduceSub, Nat.reduceLT, Nat.reduceLeDiff, Nat.reduceEqDiff, Nat.zero_le, Nat.add_zero, Nat.le_refl, nI_add, mul_nI, lt_nI, le_nI, eq_nI, bnd_nI, ci_nI, decide_eq_true_eq, decide_true, decide_false, Bool.true_or, Bool.or_true, Bool.or_false, Bool.false_or, not_true_eq_false, not_false_eq_true, Bool.false_eq_true, Bool.false_and, Bool.true_and, Bool.and_true, Bool.and_false, Bool.not_true, Bool.not_false, false_and, and_false, and_self]
  rfl
end
