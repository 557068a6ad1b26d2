def ar_R2 (tn : Nat → Nat) (I0 I : Nat → Nat → Int32) (J0 J : Nat → Nat → Int64) (e : Nat) : Prop := (∀ a, a < 60 ∨ 68 < a → I a = I0 a) ∧ I 60 0 = nI (tn 0) ∧ I 60 1 = nI (tn 1) ∧ (∀ y, y < 2 ^ tn 1 → I 61 y = nI (am_soon tn y)) ∧ (∀ a, a ≠ 62 → J a = J0 a) ∧ (∀ e', e ≤ e' → e' < tn 0 → J 62 e' = lN (am_clo tn e' (2 ^ tn 1))) ∧ ∀ e', e ≤ e' → e' ≤ tn 0 → ∀ y, y < 2 ^ tn 1 → I (64 + e') y = nI (am_most tn e' y)
def ar_R3 (tn : Nat → Nat) (I0 I : Nat → Nat → Int32) (J0 J : Nat → Nat → Int64) (e s : Nat) : Prop := ar_R2 tn I0 I J0 J (e + 1) ∧ J 62 e = lN (am_clo tn e (2 ^ tn 1)) ∧ ∀ y, y < s → I (64 + e) y = nI (am_most tn e y)
section
variable {n d T : Nat} {tn : Nat → Nat} {I0 : Nat → Nat → Int32} {J0 : Nat → Nat → Int64} {sw : Bool} {Q : am_Post}
theorem l0_reckon3 {e : Nat} {J : Nat → Nat → Int64} (hO : ar_told tn) (he : e < tn 0) (hq : ∀ I l3, ar_R3 tn I0 I J0 J e (2 ^ tn 1) → am_wp (d + 3) m0_reckon 113 [some (.ref 60), some (.ref T), some (.int (nI e)), some (.int l3)] [] (am_sh n, I, J, am_Rf sw) Q) : ∀ (r s : Nat) (I : Nat → Nat → Int32), s + r = 2 ^ tn 1 → ar_R3 tn I0 I J0 J e s → am_wp (d + 3) m0_reckon 83 [some (.ref 60), some (.ref T), some (.int (nI e)), some (.int (nI s))] [] (am_sh n, I, J, am_Rf sw) Q
  | 0, s, I, hm, hR => by
    have p6 := (pow2_6 hO.2.1).1
    have o2 := hO.2.1
    obtain rfl : s = 2 ^ tn 1 := by omega
    have h1 := hR.1.2.2.1
    rw [s0_reckon_83]
    simp (disch := omega) only [s0_reckon_84, s0_reckon_85, s0_reckon_86, s0_reckon_89, s0_reckon_90, am_k1_int, am_k1_ref, am_k1_none, am_cats_nil, am_cats_int, am_cats_ref, am_cats_long, Option.toList_some, Option.toList_none, List.singleton_append, List.nil_append, List.cons_append, true_and, and_true, if_true, if_false, va_rf, ↓reduceIte, Nat.reduceAdd, Nat.reduceMul, Nat.reduceSub, Nat.reduceLT, Nat.reduceLeDiff, Nat.reduceEqDiff, Nat.zero_le, Nat.add_zero, Nat.le_refl, nI_add, mul_nI, lt_nI, le_nI, eq_nI, bnd_nI, ci_nI, decide_eq_true_eq, decide_true, decide_false, Bool.true_or, Bool.or_true, Bool.or_false, Bool.false_or, not_true_eq_false, not_false_eq_true, Bool.false_eq_true, Bool.false_and, Bool.true_and, Bool.and_true, Bool.and_false, Bool.not_true, Bool.not_false, false_and, and_false, and_self, ob_60, rf_60_2, rf_60_3, rf_60_4, rf_60_5, rf_60_6, h1, shl_nI, Nat.one_mul]
    exact hq I _ hR
  | r + 1, s, I, hm, hR => by
    have p6 := (pow2_6 hO.2.1).1
    have o1 := hO.1
    have o2 := hO.2.1
    obtain ⟨⟨g1, g2, g3, g4, g5, g6, g7⟩, gJ, g8⟩ := id hR
    have h2 : ¬ 2 ^ tn 1 ≤ s := by omega
    have hs : s < 64 := by omega
    have he5 : e < 5 := by omega
    obtain ⟨r1, r2, r3⟩ := rf_63 he5 sw n
    have z2 : (0 : Nat) < 64 + e := by omega
    have hN : ∀ x, x < 2 ^ tn 1 → I (65 + e) x = nI (am_most tn (e + 1) x) := by
      intro x hx
      have := g7 (e + 1) (by omega) (by omega) x hx
      rwa [show 64 + (e + 1) = 65 + e by omega] at this
    rw [s0_reckon_83]
    simp (disch := omega) only [s0_reckon_84, s0_reckon_85, s0_reckon_86, s0_reckon_89, s0_reckon_90, s0_reckon_93, s0_reckon_94, s0_reckon_97, s0_reckon_98, s0_reckon_99, s0_reckon_100, s0_reckon_101, s0_reckon_102, s0_reckon_103, s0_reckon_106, s0_reckon_107, s0_reckon_110, am_k1_int, am_k1_ref, am_k1_none, am_cats_nil, am_cats_int, am_cats_ref, am_cats_long, Option.toList_some, Option.toList_none, List.singleton_append, List.nil_append, List.cons_append, true_and, and_true, if_true, if_false, va_rf, ↓reduceIte, Nat.reduceAdd, Nat.reduceMul, Nat.reduceSub, Nat.reduceLT, Nat.reduceLeDiff, Nat.reduceEqDiff, Nat.zero_le, Nat.add_zero, Nat.le_refl, nI_add, mul_nI, lt_nI, le_nI, eq_nI, bnd_nI, ci_nI, decide_eq_true_eq, decide_true, decide_false, Bool.true_or, Bool.or_true, Bool.or_false, Bool.false_or, not_true_eq_false, not_false_eq_true, Bool.false_eq_true, Bool.false_and, Bool.true_and, Bool.and_true, Bool.and_false, Bool.not_true, Bool.not_false, false_and, and_false, and_self, ob_60, rf_60_2, rf_60_3, rf_60_4, rf_60_5, rf_60_6, ib_63, ix_63, rf_63_0, rf_63_1, rf_63_2, rf_63_3, rf_63_4, g3, h2, hs, he5, shl_nI, Nat.one_mul, c0_mostOf hO he (show s < 2 ^ tn 1 by omega) gJ hN, r1, r3, z2]
    refine l0_reckon3 hO he hq r (s + 1) _ (by omega) ⟨⟨fun a ha => ?_, ?_, ?_, fun y hy => ?_, g5, g6, fun e' h1 h2 y hy => ?_⟩, gJ, fun y hy => ?_⟩
    · rw [am_up_ne (by omega)]
      exact g1 a ha
    · rw [up_n (by omega)]; exact g2
    · rw [up_n (by omega)]; exact g3
    · rw [up_n (by omega)]; exact g4 y hy
    · rw [up_n (by omega)]; exact g7 e' h1 h2 y hy
    · by_cases hy2 : y = s
      · subst hy2; rw [up_s]
      · rw [up_n (by omega)]; exact g8 y (by omega)
theorem m1_sub (x : Int32) : x + (-1) = x - nI 1 := by
  rw [show (-1 : Int32) = -nI 1 by decide, ← Int32.sub_eq_add_neg]
theorem l0_reckon2 (hT : T = 4 ∨ T = 12) (hO : ar_told tn) (hA : ar_T T tn I0) (hq : ∀ I J, ar_R2 tn I0 I J0 J 0 → Q none (am_sh n, I, J, am_Rf sw)) : ∀ (k : Nat) (I : Nat → Nat → Int32) (J : Nat → Nat → Int64) (l3 : Option Value), k ≤ tn 0 → ar_R2 tn I0 I J0 J k → am_wp (d + 3) m0_reckon 65 [some (.ref 60), some (.ref T), some (.int (nI k - nI 1)), l3] [] (am_sh n, I, J, am_Rf sw) Q
  | 0, I, J, l3, hk, hR => by
    have hn : nI 0 - nI 1 < nI 0 := by decide
    rw [s0_reckon_65]
    simp (disch := omega) only [s0_reckon_66, s0_reckon_119, am_k1_int, am_k1_ref, am_k1_none, am_cats_nil, am_cats_int, am_cats_ref, am_cats_long, Option.toList_some, Option.toList_none, List.singleton_append, List.nil_append, List.cons_append, true_and, and_true, if_true, if_false, va_rf, ↓reduceIte, Nat.reduceAdd, Nat.reduceMul, Nat.reduceSub, Nat.reduceLT, Nat.reduceLeDiff, Nat.reduceEqDiff, Nat.zero_le, Nat.add_zero, Nat.le_refl, nI_add, mul_nI, lt_nI, le_nI, eq_nI, bnd_nI, ci_nI, decide_eq_true_eq, decide_true, decide_false, Bool.true_or, Bool.or_true, Bool.or_false, Bool.false_or, not_true_eq_false, not_false_eq_true, Bool.false_eq_true, Bool.false_and, Bool.true_and, Bool.and_true, Bool.and_false, Bool.not_true, Bool.not_false, false_and, and_false, and_self, hn]
    exact hq I J hR
  | k + 1, I, J, l3, hk, hR => by
    have o1 := hO.1
    have p6 := (pow2_6 hO.2.1).1
    obtain ⟨g1, g2, g3, g4, g5, g6, g7⟩ := id hR
    have hA2 := told_fr hT g1 hA
    have e1 : nI (k + 1) - nI 1 = nI k := by rw [sub_nI (by omega), Nat.add_sub_cancel]
    have hk4 : k < 4 := by omega
    have z2 : (0 : Nat) < 62 := by decide
    have hk0 : ¬ k < 0 := by omega
    rw [s0_reckon_65, e1]
    simp (disch := omega) only [s0_reckon_66, s0_reckon_69, s0_reckon_70, s0_reckon_73, s0_reckon_74, s0_reckon_75, s0_reckon_76, s0_reckon_77, s0_reckon_80, s0_reckon_81, s0_reckon_82, am_k1_int, am_k1_ref, am_k1_none, am_cats_nil, am_cats_int, am_cats_ref, am_cats_long, Option.toList_some, Option.toList_none, List.singleton_append, List.nil_append, List.cons_append, true_and, and_true, if_true, if_false, va_rf, ↓reduceIte, Nat.reduceAdd, Nat.reduceMul, Nat.reduceSub, Nat.reduceLT, Nat.reduceLeDiff, Nat.reduceEqDiff, Nat.zero_le, Nat.add_zero, Nat.le_refl, nI_add, mul_nI, lt_nI, le_nI, eq_nI, bnd_nI, ci_nI, decide_eq_true_eq, decide_true, decide_false, Bool.true_or, Bool.or_true, Bool.or_false, Bool.false_or, not_true_eq_false, not_false_eq_true, Bool.false_eq_true, Bool.false_and, Bool.true_and, Bool.and_true, Bool.and_false, Bool.not_true, Bool.not_false, false_and, and_false, and_self, ob_60, rf_60_2, rf_60_3, rf_60_4, rf_60_5, rf_60_6, ib_62, hk0, hk4, z2, c0_clothedBy hT hO hA2 g3 (show k < tn 0 by omega) g4]
    refine l0_reckon3 (I0 := I0) (J0 := J0) (e := k) hO (by omega) (fun I' l3' hR' => ?_) (2 ^ tn 1) 0 I (by omega) ⟨⟨g1, g2, g3, g4, fun a ha => ?_, fun e' h1 h2 => ?_, g7⟩, ?_, (fun y hy => absurd hy (by omega))⟩
    · obtain ⟨⟨q1, q2, q3, q4, q5, q6, q7⟩, qJ, q8⟩ := hR'
      rw [s0_reckon_113]
      simp (disch := omega) only [s0_reckon_116, am_k1_int, am_k1_ref, am_k1_none, am_cats_nil, am_cats_int, am_cats_ref, am_cats_long, Option.toList_some, Option.toList_none, List.singleton_append, List.nil_append, List.cons_append, true_and, and_true, if_true, if_false, va_rf, m1_sub]
      refine l0_reckon2 hT hO hA hq k I' _ _ (by omega) ⟨q1, q2, q3, q4, q5, fun e' h1 h2 => ?_, fun e' h1 h2 y hy => ?_⟩
      · by_cases h3 : e' = k
        · subst h3; exact qJ
        · exact q6 e' (by omega) h2
      · by_cases h3 : e' = k
        · subst h3; exact q8 y hy
        · exact q7 e' (by omega) h2 y hy
    · rw [am_up_ne ha]; exact g5 a ha
    · rw [up_n (by omega)]; exact g6 e' (by omega) h2
    · rw [up_s]
theorem c0_reckon {I : Nat → Nat → Int32} {J : Nat → Nat → Int64} (hT : T = 4 ∨ T = 12) (hO : ar_told tn) (hA : ar_T T tn I) (hq : ∀ I' J', (∀ a, a < 60 ∨ 68 < a → I' a = I a) → (∀ a, a ≠ 62 → J' a = J a) → ar_C tn I' J' → Q none (am_sh n, I', J', am_Rf sw)) : am_call (d + 4) m0_reckon [.ref 60, .ref T] (am_sh n, I, J, am_Rf sw) Q := by
  obtain ⟨a1, a2, a3, -⟩ := id hA
  have z : (0 : Nat) < 60 := by decide
  have hT4 : T ≠ 60 := by omega
  rw [e0_reckon]
  simp (disch := omega) only [s0_reckon_0, s0_reckon_1, s0_reckon_2, s0_reckon_5, s0_reckon_8, s0_reckon_9, s0_reckon_10, s0_reckon_13, s0_reckon_16, s0_reckon_17, am_k1_int, am_k1_ref, am_k1_none, am_cats_nil, am_cats_int, am_cats_ref, am_cats_long, Option.toList_some, Option.toList_none, List.singleton_append, List.nil_append, List.cons_append, true_and, and_true, if_true, if_false, va_rf, ↓reduceIte, Nat.reduceAdd, Nat.reduceMul, Nat.reduceSub, Nat.reduceLT, Nat.reduceLeDiff, Nat.reduceEqDiff, Nat.zero_le, Nat.add_zero, Nat.le_refl, nI_add, mul_nI, lt_nI, le_nI, eq_nI, bnd_nI, ci_nI, decide_eq_true_eq, decide_true, decide_false, Bool.true_or, Bool.or_true, Bool.or_false, Bool.false_or, not_true_eq_false, not_false_eq_true, Bool.false_eq_true, Bool.false_and, Bool.true_and, Bool.and_true, Bool.and_false, Bool.not_true, Bool.not_false, false_and, and_false, and_self, ob_60, rf_60_2, rf_60_3, rf_60_4, rf_60_5, rf_60_6, ob_T hT, a2, a3, up_n, z, Value.category]
  refine l0_reckon1 (I0 := I) hT hO hA (fun I1 hR => ?_) (2 ^ tn 1) 0 _ (by omega) ⟨fun a ha => ?_, ?_, ?_, (fun y hy => absurd hy (by omega)), (fun y hy => absurd hy (by omega))⟩
  · obtain ⟨g1, g2, g3, g4, g5⟩ := hR
    rw [s0_reckon_58]
    simp (disch := omega) only [s0_reckon_59, s0_reckon_62, s0_reckon_63, s0_reckon_64, am_k1_int, am_k1_ref, am_k1_none, am_cats_nil, am_cats_int, am_cats_ref, am_cats_long, Option.toList_some, Option.toList_none, List.singleton_append, List.nil_append, List.cons_append, true_and, and_true, if_true, if_false, va_rf, ↓reduceIte, Nat.reduceAdd, Nat.reduceMul, Nat.reduceSub, Nat.reduceLT, Nat.reduceLeDiff, Nat.reduceEqDiff, Nat.zero_le, Nat.add_zero, Nat.le_refl, nI_add, mul_nI, lt_nI, le_nI, eq_nI, bnd_nI, ci_nI, decide_eq_true_eq, decide_true, decide_false, Bool.true_or, Bool.or_true, Bool.or_false, Bool.false_or, not_true_eq_false, not_false_eq_true, Bool.false_eq_true, Bool.false_and, Bool.true_and, Bool.and_true, Bool.and_false, Bool.not_true, Bool.not_false, false_and, and_false, and_self, ob_60, rf_60_2, rf_60_3, rf_60_4, rf_60_5, rf_60_6, g2]
    refine l0_reckon2 (I0 := I) (J0 := J) hT hO hA (fun I' J' hR' => ?_) (tn 0) I1 J _ (Nat.le_refl _) ⟨g1, g2, g3, g4, fun _ _ => rfl, (fun e' h1 h2 => absurd h2 (by omega)), fun e' h1 h2 y hy => ?_⟩
    · obtain ⟨q1, q2, q3, q4, q5, q6, q7⟩ := hR'
      exact hq I' J' q1 q5 ⟨q2, q3, q4, fun e he => q6 e (by omega) he, fun e he s hs => q7 e (by omega) he s hs⟩
    · obtain rfl : e' = tn 0 := by omega
      rw [g5 y hy]
      show nI 0 = nI (am_msE tn (tn 0 - tn 0) y)
      rw [Nat.sub_self]
      rfl
  · rw [am_up_ne (by omega), am_up_ne (by omega)]
  · rw [up_n (by omega), up_s]
  · rw [up_s]
end
