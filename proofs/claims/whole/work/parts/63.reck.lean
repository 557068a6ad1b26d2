/-! reckon -/
def ar_R1 (tn : Nat → Nat) (I0 I : Nat → Nat → Int32) (s : Nat) : Prop := (∀ a, a < 60 ∨ 68 < a → I a = I0 a) ∧ I 60 0 = nI (tn 0) ∧ I 60 1 = nI (tn 1) ∧ (∀ y, y < s → I 61 y = nI (am_soon tn y)) ∧ ∀ y, y < s → I (64 + tn 0) y = nI 0
theorem told_fr {T : Nat} {tn : Nat → Nat} {I I' : Nat → Nat → Int32} (hT : T = 4 ∨ T = 12) (h : ∀ a, a < 60 ∨ 68 < a → I' a = I a) (hA : ar_T T tn I) : ar_T T tn I' := by
  rcases hT with rfl | rfl
  · exact fr_T_ (Or.inr ⟨rfl, rfl⟩) ⟨h 79 (by omega), fun a h1 h2 => h a (by omega)⟩ hA
  · exact fr_T_ (Or.inl ⟨rfl, rfl⟩) ⟨h 79 (by omega), fun a h1 h2 => h a (by omega)⟩ hA
section
variable {n d T : Nat} {tn : Nat → Nat} {I0 : Nat → Nat → Int32} {J : Nat → Nat → Int64} {sw : Bool} {Q : am_Post}
theorem l0_reckon1 (hT : T = 4 ∨ T = 12) (hO : ar_told tn) (hA : ar_T T tn I0) (hq : ∀ I, ar_R1 tn I0 I (2 ^ tn 1) → am_wp (d + 3) m0_reckon 58 [some (.ref 60), some (.ref T), some (.int (nI (2 ^ tn 1))), none] [] (am_sh n, I, J, am_Rf sw) Q) : ∀ (r s : Nat) (I : Nat → Nat → Int32), s + r = 2 ^ tn 1 → ar_R1 tn I0 I s → am_wp (d + 3) m0_reckon 18 [some (.ref 60), some (.ref T), some (.int (nI s)), none] [] (am_sh n, I, J, am_Rf sw) Q
  | 0, s, I, hm, hR => by
    have p6 := (pow2_6 hO.2.1).1
    have o2 := hO.2.1
    obtain rfl : s = 2 ^ tn 1 := by omega
    have h1 := hR.2.2.1
    rw [s0_reckon_18]
    simp (disch := omega) only [s0_reckon_19, s0_reckon_20, s0_reckon_21, s0_reckon_24, s0_reckon_25, am_k1_int, am_k1_ref, am_k1_none, am_cats_nil, am_cats_int, am_cats_ref, am_cats_long, Option.toList_some, Option.toList_none, List.singleton_append, List.nil_append, List.cons_append, true_and, and_true, if_true, if_false, va_rf, ↓reduceIte, Nat.reduceAdd, Nat.reduceMul, Nat.reduceSub, Nat.reduceLT, Nat.reduceLeDiff, Nat.reduceEqDiff, Nat.zero_le, Nat.add_zero, Nat.le_refl, nI_add, mul_nI, lt_nI, le_nI, eq_nI, bnd_nI, ci_nI, decide_eq_true_eq, decide_true, decide_false, Bool.true_or, Bool.or_true, Bool.or_false, Bool.false_or, not_true_eq_false, not_false_eq_true, Bool.false_eq_true, Bool.false_and, Bool.true_and, Bool.and_true, Bool.and_false, Bool.not_true, Bool.not_false, false_and, and_false, and_self, ob_60, rf_60_2, rf_60_3, rf_60_4, rf_60_5, rf_60_6, h1, shl_nI, Nat.one_mul]
    exact hq I hR
  | r + 1, s, I, hm, hR => by
    have p6 := (pow2_6 hO.2.1).1
    have o1 := hO.1
    have o2 := hO.2.1
    obtain ⟨g1, g2, g3, g4, g5⟩ := id hR
    have h2 : ¬ 2 ^ tn 1 ≤ s := by omega
    have hs : s < 64 := by omega
    have hA2 := told_fr hT g1 hA
    have n5 : tn 0 < 5 := by omega
    obtain ⟨r1, r2, r3⟩ := rf_63 n5 sw n
    have z1 : (0 : Nat) < 61 := by decide
    have z2 : (0 : Nat) < 64 + tn 0 := by omega
    have hne : 64 + tn 0 ≠ 61 := by omega
    rw [s0_reckon_18]
    simp (disch := omega) only [s0_reckon_19, s0_reckon_20, s0_reckon_21, s0_reckon_24, s0_reckon_25, s0_reckon_28, s0_reckon_29, s0_reckon_32, s0_reckon_33, s0_reckon_34, s0_reckon_35, s0_reckon_36, s0_reckon_39, s0_reckon_40, s0_reckon_41, s0_reckon_44, s0_reckon_45, s0_reckon_48, s0_reckon_49, s0_reckon_50, s0_reckon_51, s0_reckon_52, s0_reckon_55, am_k1_int, am_k1_ref, am_k1_none, am_cats_nil, am_cats_int, am_cats_ref, am_cats_long, Option.toList_some, Option.toList_none, List.singleton_append, List.nil_append, List.cons_append, true_and, and_true, if_true, if_false, va_rf, ↓reduceIte, Nat.reduceAdd, Nat.reduceMul, Nat.reduceSub, Nat.reduceLT, Nat.reduceLeDiff, Nat.reduceEqDiff, Nat.zero_le, Nat.add_zero, Nat.le_refl, nI_add, mul_nI, lt_nI, le_nI, eq_nI, bnd_nI, ci_nI, decide_eq_true_eq, decide_true, decide_false, Bool.true_or, Bool.or_true, Bool.or_false, Bool.false_or, not_true_eq_false, not_false_eq_true, Bool.false_eq_true, Bool.false_and, Bool.true_and, Bool.and_true, Bool.and_false, Bool.not_true, Bool.not_false, false_and, and_false, and_self, ob_60, rf_60_2, rf_60_3, rf_60_4, rf_60_5, rf_60_6, ib_61, rd_61, ib_63, ix_63, rf_63_0, rf_63_1, rf_63_2, rf_63_3, rf_63_4, g2, g3, h2, hs, n5, shl_nI, Nat.one_mul, c0_soonestOf hT hO hA2 g3 hs g4, up_n, r1, r3, z1, z2]
    refine l0_reckon1 hT hO hA hq r (s + 1) _ (by omega) ⟨fun a ha => ?_, ?_, ?_, fun y hy => ?_, fun y hy => ?_⟩
    · rw [am_up_ne (by omega), am_up_ne (by omega)]
      exact g1 a ha
    · rw [up_n (by omega), up_n (by omega)]; exact g2
    · rw [up_n (by omega), up_n (by omega)]; exact g3
    · rw [up_n (by omega)]
      by_cases hy2 : y = s
      · subst hy2; rw [up_s]
      · rw [up_n (by omega)]; exact g4 y (by omega)
    · by_cases hy2 : y = s
      · subst hy2; rw [up_s]
      · rw [up_n (by omega), up_n (by omega)]; exact g5 y (by omega)
end
