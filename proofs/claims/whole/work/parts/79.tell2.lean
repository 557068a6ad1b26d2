section
variable {n d : Nat} {tn : Nat → Nat} {J : Nat → Nat → Int64} {sw : Bool} {F U : Nat}
theorem te_ret {D : Nat} {I' : Nat → Nat → Int32} {Q : am_Post} {b : Bool} (h1 : b = true → Q (some (.int (nI 1))) (am_sh n, I', J, am_Rf sw)) (h2 : b = false → Q (some (.int (nI 0))) (am_sh n, I', J, am_Rf sw)) {l0 l1 l2 l3 l4 l5 l6 l7 : Option Value} : am_wp D m0_tell 143 [l0, l1, l2, l3, l4, l5, l6, l7] [.int (am_bi b)] (am_sh n, I', J, am_Rf sw) Q := by
  cases b with
  | true =>
    simp (disch := omega) only [s0_tell_143, s0_tell_146, s0_tell_147, s0_tell_150, s0_tell_151, am_k1_int, am_k1_ref, am_k1_none, am_cats_nil, am_cats_int, am_cats_ref, am_cats_long, Option.toList_some, Option.toList_none, List.singleton_append, List.nil_append, List.cons_append, true_and, and_true, if_true, if_false, va_rf, ↓reduceIte, Nat.reduceAdd, Nat.reduceMul, Nat.reduceSub, Nat.reduceLT, Nat.reduceLeDiff, Nat.reduceEqDiff, Nat.zero_le, Nat.add_zero, Nat.le_refl, nI_add, mul_nI, lt_nI, le_nI, eq_nI, bnd_nI, ci_nI, decide_eq_true_eq, decide_true, decide_false, Bool.true_or, Bool.or_true, Bool.or_false, Bool.false_or, not_true_eq_false, not_false_eq_true, Bool.false_eq_true, Bool.false_and, Bool.true_and, Bool.and_true, Bool.and_false, Bool.not_true, Bool.not_false, false_and, and_false, and_self, bi_t, ite_bi2, ret_1]
    exact h1 rfl
  | false =>
    simp (disch := omega) only [s0_tell_143, s0_tell_146, s0_tell_147, s0_tell_150, s0_tell_151, am_k1_int, am_k1_ref, am_k1_none, am_cats_nil, am_cats_int, am_cats_ref, am_cats_long, Option.toList_some, Option.toList_none, List.singleton_append, List.nil_append, List.cons_append, true_and, and_true, if_true, if_false, va_rf, ↓reduceIte, Nat.reduceAdd, Nat.reduceMul, Nat.reduceSub, Nat.reduceLT, Nat.reduceLeDiff, Nat.reduceEqDiff, Nat.zero_le, Nat.add_zero, Nat.le_refl, nI_add, mul_nI, lt_nI, le_nI, eq_nI, bnd_nI, ci_nI, decide_eq_true_eq, decide_true, decide_false, Bool.true_or, Bool.or_true, Bool.or_false, Bool.false_or, not_true_eq_false, not_false_eq_true, Bool.false_eq_true, Bool.false_and, Bool.true_and, Bool.and_true, Bool.and_false, Bool.not_true, Bool.not_false, false_and, and_false, and_self, bi_f, ite_bi2, ret_0]
    exact h2 rfl
theorem tell_B {c P P' O r M Tw : Nat} {a : Nat → Nat} {I : Nat → Nat → Int32} {Q : am_Post} (hO : ar_told tn) (hF : F ≤ tn 0) (hU : U < 2 ^ tn 1) (hIH : ar_tS n d tn J sw F U r) (hC : ar_C tn I J) (hl : ar_tl tn F U (r + 1) c P a) (hu : (U.testBit c = true ∧ P' = P * (tn 0 - F + 1) + (tn 0 - F)) ∨ (U.testBit c = false ∧ P' = P ∧ tn 0 - F = tn 0 - F)) (hV : O < 2 ^ tn 1) (hVb : ∀ k, k < 6 → O.testBit k = (U.testBit k && decide (c < k))) (h69 : ∀ j, j < tn 0 - F → I 69 (F + j) = nI (am_as a j c)) (hM : M = am_most tn F O) (hTw : Tw = am_most tn F U - am_ct a (tn 0 - F) c) (hq : ∀ b I', ar_te tn F U (r + 1) c P I I' b → Q (some (.int (am_bi b))) (am_sh n, I', J, am_Rf sw)) : ∀ (I1 : Nat → Nat → Int32) (l3 l7 : Option Value), (∀ q, q ≠ 69 → q ≠ 70 → I1 q = I q) → (∀ k, k < c → I1 70 k = I 70 k) → (∀ q, q < 4 → I1 69 q = I 69 q) → (∀ z, z / am_W (tn 0 - F + 1) U (tn 1) (r + 1) = P → am_dg (tn 0 - F) U (tn 1) z c < tn 0 - F → ¬ am_oT tn F U z) → am_wp (d + r + 3) m0_tell 116 [some (.ref 60), some (.int (nI c)), some (.int (nI F)), l3, some (.int (nI Tw)), some (.int (nI O)), some (.int (nI M)), l7] [] (am_sh n, I1, J, am_Rf sw) Q := by
  intro I1 l3 l7 g1 g2 g3 g4
  obtain ⟨h1, h2, h3, h4⟩ := id hl
  have o1 := hO.1
  have o2 := hO.2.1
  have p6 := (pow2_6 o2).1
  have hc6 : c < 6 := by omega
  have z2 : (0 : Nat) < 70 := by decide
  have hml := most_le tn F U hO
  have hml2 := most_le tn F O hO
  have hsub : ∀ z, z / am_W (tn 0 - F + 1) U (tn 1) (r + 1) = P → ¬ am_dg (tn 0 - F) U (tn 1) z c < tn 0 - F → z / am_W (tn 0 - F + 1) U (tn 1) r = P' := by
    intro z hz hd
    have hle := dg_le (K := tn 0 - F) (U := U) (n := tn 1) (x := z) (k := c)
    rcases hu with ⟨u1, u2⟩ | ⟨u1, u2, -⟩
    · have := cd_out h1 u1 hz
      rw [this, u2]
      omega
    · obtain ⟨y1, -⟩ := cd_no (K := tn 0 - F) (x := z) h1 u1
      rw [y1] at hz
      rw [u2]; exact hz
  have hsub2 : ∀ x, x / am_W (tn 0 - F + 1) U (tn 1) r = P' → x / am_W (tn 0 - F + 1) U (tn 1) (r + 1) = P ∧ am_dg (tn 0 - F) U (tn 1) x c = tn 0 - F := by
    intro x hx
    rcases hu with ⟨u1, u2⟩ | ⟨u1, u2, -⟩
    · rw [u2] at hx
      exact cd_in h1 u1 (Nat.le_refl _) hx
    · obtain ⟨y1, y2⟩ := cd_no (K := tn 0 - F) (x := x) h1 u1
      exact ⟨by rw [y1, ← u2]; exact hx, y2⟩
  have hdK : am_dvo F (tn 0 - F) (tn 0 - F) = -9 := if_neg (by omega)
  rw [s0_tell_116]
  by_cases g : M < Tw
  · have hfin := hq false (am_up I1 70 c (-9)) ⟨fun q q1 q2 => by rw [am_up_ne q2]; exact g1 q q1 q2, fun k hk => by rw [up_n (by omega)]; exact g2 k hk, fun h => absurd h (by decide), fun _ => ⟨fun z hz hT => by
      by_cases hd : am_dg (tn 0 - F) U (tn 1) z c < tn 0 - F
      · exact g4 z hz hd hT
      · have := tl_prune hO hF hl hz hT.1 hV hVb
        rw [if_neg hd] at this
        have := hT.2
        omega, fun q hq => by rw [am_up_ne (by decide)]; exact g3 q hq⟩⟩
    simp (disch := omega) only [s0_tell_0, s0_tell_1, s0_tell_2, s0_tell_5, s0_tell_8, s0_tell_10, s0_tell_13, s0_tell_14, s0_tell_17, s0_tell_18, s0_tell_19, s0_tell_20, s0_tell_21, s0_tell_22, s0_tell_23, s0_tell_24, s0_tell_25, s0_tell_26, s0_tell_28, s0_tell_29, s0_tell_32, s0_tell_33, s0_tell_34, s0_tell_36, s0_tell_37, s0_tell_39, s0_tell_41, s0_tell_42, s0_tell_45, s0_tell_47, s0_tell_48, s0_tell_49, s0_tell_51, s0_tell_54, s0_tell_55, s0_tell_59, s0_tell_60, s0_tell_63, s0_tell_66, s0_tell_67, s0_tell_68, s0_tell_70, s0_tell_73, s0_tell_76, s0_tell_77, s0_tell_78, s0_tell_79, s0_tell_80, s0_tell_81, s0_tell_83, s0_tell_85, s0_tell_86, s0_tell_87, s0_tell_90, s0_tell_93, s0_tell_94, s0_tell_95, s0_tell_96, s0_tell_99, s0_tell_101, s0_tell_102, s0_tell_103, s0_tell_104, s0_tell_105, s0_tell_106, s0_tell_107, s0_tell_108, s0_tell_109, s0_tell_110, s0_tell_113, s0_tell_117, s0_tell_120, s0_tell_121, s0_tell_123, s0_tell_124, s0_tell_126, s0_tell_128, s0_tell_131, s0_tell_132, s0_tell_133, s0_tell_134, s0_tell_135, s0_tell_136, s0_tell_138, s0_tell_140, s0_tell_143, s0_tell_146, s0_tell_147, s0_tell_150, s0_tell_151, am_k1_int, am_k1_ref, am_k1_none, am_cats_nil, am_cats_int, am_cats_ref, am_cats_long, Option.toList_some, Option.toList_none, List.singleton_append, List.nil_append, List.cons_append, true_and, and_true, if_true, if_false, va_rf, ↓reduceIte, Nat.reduceAdd, Nat.reduceMul, Nat.reduceSub, Nat.reduceLT, Nat.reduceLeDiff, Nat.reduceEqDiff, Nat.zero_le, Nat.add_zero, Nat.le_refl, nI_add, mul_nI, lt_nI, le_nI, eq_nI, bnd_nI, ci_nI, decide_eq_true_eq, decide_true, decide_false, Bool.true_or, Bool.or_true, Bool.or_false, Bool.false_or, not_true_eq_false, not_false_eq_true, Bool.false_eq_true, Bool.false_and, Bool.true_and, Bool.and_true, Bool.and_false, Bool.not_true, Bool.not_false, false_and, and_false, and_self, ob_60, rf_60_2, rf_60_3, rf_60_4, rf_60_5, rf_60_6, ib_70, rd_70, hc6, z2, g, ret_0]
    exact hfin
  · have hnx := tl_next (j := tn 0 - F) hl (Nat.le_refl _) hu (fun h => absurd h (by omega))
    have hC2 : ar_C tn (am_up I1 70 c (-9)) J := fr_C_ hO ⟨by rw [am_up_ne (by decide), g1 _ (by decide) (by decide)], by rw [am_up_ne (by decide), g1 _ (by decide) (by decide)], by rw [am_up_ne (by decide), g1 _ (by decide) (by decide)], fun q q1 q2 => by rw [am_up_ne (by omega), g1 _ (by omega) (by omega)]⟩ hC
    have e9 : am_ct (am_sa a c (tn 0 - F)) (tn 0 - F) (c + 1) = am_ct a (tn 0 - F) c := by rw [ct_sa, if_neg (by omega), Nat.add_zero]
    have hcall := hIH (c + 1) P' O (am_sa a c (tn 0 - F)) (am_up I1 70 c (-9)) (fun v M' => am_wp (d + r + 3) m0_tell 143 [some (.ref 60), some (.int (nI c)), some (.int (nI F)), l3, some (.int (nI Tw)), some (.int (nI O)), some (.int (nI M)), l7] (v.toList ++ []) M' Q) hC2 hnx hV (fun k hk => hVb k hk) (fun j hj => by
        rw [am_up_ne (by decide), g3 _ (by omega), h69 j hj, as_sa, if_neg (by omega), Nat.or_zero]) (fun b I3 hte => by
        obtain ⟨t1, t2, t3, t4⟩ := hte
        simp only [Option.toList_some, List.append_nil]
        refine te_ret (fun hb => ?_) (fun hb => ?_)
        · obtain ⟨x, x1, x2, x3, x4⟩ := t3 hb
          have := hq true I3 ⟨fun q q1 q2 => by rw [t1 q q1 q2, am_up_ne q2]; exact g1 q q1 q2, fun k hk => by rw [t2 k (by omega), up_n (by omega)]; exact g2 k hk, fun _ => ⟨x, (hsub2 x x1).1, x2, fun z hz hz2 => ?_, fun k hk1 hk2 => ?_⟩, fun h => absurd h (by decide)⟩
          · exact this
          · by_cases hd : am_dg (tn 0 - F) U (tn 1) z c < tn 0 - F
            · exact g4 z hz2 hd
            · exact x3 z hz (hsub z hz2 hd)
          · by_cases e : k = c
            · rw [e, t2 c (by omega), up_s, (hsub2 x x1).2, hdK]
            · exact x4 k (by omega) hk2
        · obtain ⟨x3, x4⟩ := t4 hb
          have := hq false I3 ⟨fun q q1 q2 => by rw [t1 q q1 q2, am_up_ne q2]; exact g1 q q1 q2, fun k hk => by rw [t2 k (by omega), up_n (by omega)]; exact g2 k hk, fun h => absurd h (by decide), fun _ => ⟨fun z hz => ?_, fun q hq => ?_⟩⟩
          · exact this
          · by_cases hd : am_dg (tn 0 - F) U (tn 1) z c < tn 0 - F
            · exact g4 z hz hd
            · exact x3 z (hsub z hz hd)
          · rw [x4 q hq, am_up_ne (by decide)]; exact g3 q hq)
    rw [e9, ← hTw] at hcall
    simp (disch := omega) only [s0_tell_117, s0_tell_120, s0_tell_121, s0_tell_123, s0_tell_124, s0_tell_126, s0_tell_128, s0_tell_131, s0_tell_132, s0_tell_133, s0_tell_134, s0_tell_135, s0_tell_136, s0_tell_138, s0_tell_140, am_k1_int, am_k1_ref, am_k1_none, am_cats_nil, am_cats_int, am_cats_ref, am_cats_long, Option.toList_some, Option.toList_none, List.singleton_append, List.nil_append, List.cons_append, true_and, and_true, if_true, if_false, va_rf, ↓reduceIte, Nat.reduceAdd, Nat.reduceMul, Nat.reduceSub, Nat.reduceLT, Nat.reduceLeDiff, Nat.reduceEqDiff, Nat.zero_le, Nat.add_zero, Nat.le_refl, nI_add, mul_nI, lt_nI, le_nI, eq_nI, bnd_nI, ci_nI, decide_eq_true_eq, decide_true, decide_false, Bool.true_or, Bool.or_true, Bool.or_false, Bool.false_or, not_true_eq_false, not_false_eq_true, Bool.false_eq_true, Bool.false_and, Bool.true_and, Bool.and_true, Bool.and_false, Bool.not_true, Bool.not_false, false_and, and_false, and_self, ob_60, rf_60_2, rf_60_3, rf_60_4, rf_60_5, rf_60_6, ib_70, rd_70, hc6, z2, g]
    exact hcall
end
