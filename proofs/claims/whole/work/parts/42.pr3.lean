/-- a client's yards, as a number -/
def ar_y (sn : Nat → Nat) (c : Nat) : Nat := sn (7 + 4 * c) + sn (7 + 4 * c + 1) + sn (7 + 4 * c + 2) + sn (7 + 4 * c + 3)
def ar_p1 (x : Nat) : Nat := if x ≤ 0 then 0 else 1
def ar_pt (sn : Nat → Nat) (c : Nat) : Nat := ar_p1 (sn (7 + 4 * c)) + ar_p1 (sn (7 + 4 * c + 1)) + ar_p1 (sn (7 + 4 * c + 2)) + ar_p1 (sn (7 + 4 * c + 3)) - 1
section
variable {tn sn : Nat → Nat} {I : Nat → Nat → Int32} {c : Nat}
theorem S_cell (hS : ar_S tn sn I) (hc : c < 6) : ∀ e, e < 4 → I 22 (c * 4 + e) = nI (sn (7 + 4 * c + e)) ∧ I 81 (7 + 4 * c + e) = nI (sn (7 + 4 * c + e)) ∧ sn (7 + 4 * c + e) ≤ 100 := by
  intro e he
  have h1 := hS.2.2.2.2.2.2 (c * 4 + e) (by omega)
  have h2 := hS.1 (7 + 4 * c + e) (by omega)
  rw [show 7 + (c * 4 + e) = 7 + 4 * c + e by omega] at h1
  exact ⟨h1, h2, hS.2.1.1 _⟩
theorem S_yds (hS : ar_S tn sn I) (hc : c < 6) : am_yds (I 22) c = nI (ar_y sn c) ∧ am_myd (I 81) c = nI (ar_y sn c) ∧ ar_y sn c ≤ 400 := by
  obtain ⟨a0, b0, c0⟩ := S_cell hS hc 0 (by omega)
  obtain ⟨a1, b1, c1⟩ := S_cell hS hc 1 (by omega)
  obtain ⟨a2, b2, c2⟩ := S_cell hS hc 2 (by omega)
  obtain ⟨a3, b3, c3⟩ := S_cell hS hc 3 (by omega)
  simp only [Nat.add_zero] at a0 b0
  unfold am_yds am_myd ar_y
  rw [a0, a1, a2, a3, b0, b1, b2, b3]
  simp only [nI_add, Nat.zero_add, true_and]
  simp only [Nat.add_zero] at c0
  omega
theorem pos_nI {k : Nat} (h : k < 2147483648) : am_pos (nI k) = ar_p1 k := by
  unfold am_pos ar_p1
  simp only [le_nI h (by decide : 0 < 2147483648)]
theorem S_pat (hS : ar_S tn sn I) (hc : c < 6) : am_pat (I 22) c = ar_pt sn c ∧ am_mpt (I 81) c = ar_pt sn c := by
  obtain ⟨a0, b0, c0⟩ := S_cell hS hc 0 (by omega)
  obtain ⟨a1, b1, c1⟩ := S_cell hS hc 1 (by omega)
  obtain ⟨a2, b2, c2⟩ := S_cell hS hc 2 (by omega)
  obtain ⟨a3, b3, c3⟩ := S_cell hS hc 3 (by omega)
  simp only [Nat.add_zero] at a0 b0 c0
  unfold am_pat am_mpt ar_pt
  rw [a0, a1, a2, a3, b0, b1, b2, b3, pos_nI (by omega), pos_nI (by omega), pos_nI (by omega), pos_nI (by omega)]
  exact ⟨rfl, rfl⟩
theorem p1_le (x : Nat) : ar_p1 x ≤ 1 := by
  unfold ar_p1
  split <;> omega
theorem pt_le : ar_pt sn c ≤ 3 := by
  unfold ar_pt
  have := p1_le (sn (7 + 4 * c))
  have := p1_le (sn (7 + 4 * c + 1))
  have := p1_le (sn (7 + 4 * c + 2))
  have := p1_le (sn (7 + 4 * c + 3))
  omega
end
theorem cs4 (x : Int32) : x = nI 0 ∨ x = nI 1 ∨ x = nI 2 ∨ x = nI 3 ∨ x = nI 4 ∨ x = nI 5 ∨ x = nI 6 ∨ (¬ x = nI 0 ∧ ¬ x = nI 1 ∧ ¬ x = nI 2 ∧ ¬ x = nI 3 ∧ ¬ x = nI 4 ∧ ¬ x = nI 5 ∧ ¬ x = nI 6) := by
  by_cases h0 : x = nI 0
  · exact Or.inl h0
  by_cases h1 : x = nI 1
  · exact Or.inr (Or.inl h1)
  by_cases h2 : x = nI 2
  · exact Or.inr (Or.inr (Or.inl h2))
  by_cases h3 : x = nI 3
  · exact Or.inr (Or.inr (Or.inr (Or.inl h3)))
  by_cases h4 : x = nI 4
  · exact Or.inr (Or.inr (Or.inr (Or.inr (Or.inl h4))))
  by_cases h5 : x = nI 5
  · exact Or.inr (Or.inr (Or.inr (Or.inr (Or.inr (Or.inl h5)))))
  by_cases h6 : x = nI 6
  · exact Or.inr (Or.inr (Or.inr (Or.inr (Or.inr (Or.inr (Or.inl h6))))))
  exact Or.inr (Or.inr (Or.inr (Or.inr (Or.inr (Or.inr (Or.inr ⟨h0, h1, h2, h3, h4, h5, h6⟩))))))
section
variable {n d : Nat} {x y z : Int32}
set_option maxHeartbeats 4000000 in
theorem p_clear : am_pr n (d + 4) m6_clear m7_clear [.ref 1] [.ref 77] := by
  intro sw I J hR
  obtain ⟨T, tn, sn, pn, im, tx, fm, fi, nx, m, ln, pm, hT, hO, hA, hS, hP, hI, hX, hF, hC, hJ⟩ := id hR
  obtain ⟨a1, a2, a3, a4⟩ := id hX
  have z1 : (0 : Nat) < 2 := by decide
  have z2 : (0 : Nat) < 77 := by decide
  simp (disch := omega) only [e6_clear, s6_clear_0, s6_clear_1, s6_clear_4, s6_clear_7, s6_clear_8, s6_clear_9, s6_clear_12, s6_clear_13, s6_clear_16, s6_clear_17, e7_clear, s7_clear_0, s7_clear_1, s7_clear_4, s7_clear_5, s7_clear_6, s7_clear_7, s7_clear_10, s7_clear_11, am_k1_int, am_k1_ref, am_k1_none, am_cats_nil, am_cats_int, am_cats_ref, am_cats_long, Option.toList_some, Option.toList_none, List.singleton_append, List.nil_append, List.cons_append, true_and, and_true, if_true, if_false, va_rf, ↓reduceIte, Nat.reduceAdd, Nat.reduceMul, Nat.reduceSub, Nat.reduceLT, Nat.reduceLeDiff, Nat.reduceEqDiff, Nat.zero_le, Nat.add_zero, Nat.le_refl, nI_add, mul_nI, lt_nI, le_nI, eq_nI, bnd_nI, ci_nI, decide_eq_true_eq, decide_true, decide_false, Bool.true_or, Bool.or_true, Bool.or_false, Bool.false_or, not_true_eq_false, not_false_eq_true, Bool.false_eq_true, Bool.false_and, Bool.true_and, Bool.and_true, Bool.and_false, Bool.not_true, Bool.not_false, false_and, and_false, and_self, ob_1, rf_1_0, rf_1_1, rf_1_2, rf_1_3, rf_1_4, rf_1_5, rf_1_6, rf_1_7, rf_1_8, ob_2, rf_2_0, ib_3, rd_3, ob_4, rf_4_1, rf_4_2, rf_4_3, rf_4_5, rf_4_6, rf_4_7, rf_4_8, ib_5, rd_5, ib_6, rd_6, ib_7, rd_7, ib_8, rd_8, ib_9, rd_9, ib_10, rd_10, ib_11, rd_11, ob_12, rf_12_1, rf_12_2, rf_12_3, rf_12_5, rf_12_6, rf_12_7, rf_12_8, ib_13, rd_13, ib_14, rd_14, ib_15, rd_15, ib_16, rd_16, ib_17, rd_17, ib_18, rd_18, ib_19, rd_19, ob_20, rf_20_3, rf_20_4, ib_21, rd_21, ib_22, rd_22, ob_23, rf_23_0, ib_24, ix_24, rf_24_0, rf_24_1, rf_24_2, rf_24_3, rf_24_4, rf_24_5, rf_24_6, rf_24_7, rf_24_8, rf_24_9, ib_55, ix_55, rf_55_0, rf_55_1, ib_56, ob_57, rf_57_0, rf_57_1, ib_58, rd_58, ib_59, ob_60, rf_60_2, rf_60_3, rf_60_4, rf_60_5, rf_60_6, ib_61, rd_61, ib_62, ib_63, ix_63, rf_63_0, rf_63_1, rf_63_2, rf_63_3, rf_63_4, ob_77, rf_77_1, rf_77_3, rf_77_4, rf_77_5, rf_77_6, rf_77_8, rf_77_9, rf_77_10, rf_77_16, rf_77_17, rf_77_18, rf_77_19, rf_77_20, ib_78, rd_78, ib_79, rd_79, ib_80, rd_80, ib_81, rd_81, ib_82, rd_82, ib_83, rd_83, ib_84, ib_85, rd_85, ib_86, rd_86, ib_87, rd_87, ib_88, ib_89, rd_89, ib_90, rd_90, up_s, up_n, a2, a3, z1, z2, Value.category]
  refine ⟨⟨_, rfl⟩, sw, _, J, rfl, fun j => ?_, T, tn, sn, pn, im, tx, fm, fi, nx, m, 0, pm, hT, hO, fr_T_ hT ⟨?_, ?_⟩ hA, fr_S_ ⟨?_, ?_, ?_, ?_⟩ hS, fr_P_ ⟨?_, ?_, ?_, ?_⟩ hP, fr_I_ ⟨?_, ?_, ?_, ?_⟩ hI, ?gX, fr_F_ ⟨?_, ?_, ?_, ?_, ?_⟩ hF, fr_C_ hO ⟨?_, ?_, ?_, ?_⟩ hC, hJ⟩
  case gX =>
    refine ⟨by omega, ?_, ?_, (fun j hj => absurd hj (by omega))⟩ <;> simp (disch := omega) only [up_s, up_n]
  all_goals (intros; simp (disch := omega) only [am_up_ne, am_row_ne, up_n])
set_option maxHeartbeats 4000000 in
theorem p_forget : am_pr n (d + 4) m6_forget m7_forget [.ref 1] [.ref 77] := by
  intro sw I J hR
  obtain ⟨T, tn, sn, pn, im, tx, fm, fi, nx, m, ln, pm, hT, hO, hA, hS, hP, hI, hX, hF, hC, hJ⟩ := id hR
  obtain ⟨a1, a2, a3, a4⟩ := id hF
  have z1 : (0 : Nat) < 57 := by decide
  have z2 : (0 : Nat) < 77 := by decide
  simp (disch := omega) only [e6_forget, s6_forget_0, s6_forget_1, s6_forget_4, s6_forget_7, s6_forget_8, s6_forget_9, s6_forget_12, s6_forget_13, s6_forget_16, s6_forget_17, e7_forget, s7_forget_0, s7_forget_1, s7_forget_4, s7_forget_5, s7_forget_6, s7_forget_7, s7_forget_10, s7_forget_11, am_k1_int, am_k1_ref, am_k1_none, am_cats_nil, am_cats_int, am_cats_ref, am_cats_long, Option.toList_some, Option.toList_none, List.singleton_append, List.nil_append, List.cons_append, true_and, and_true, if_true, if_false, va_rf, ↓reduceIte, Nat.reduceAdd, Nat.reduceMul, Nat.reduceSub, Nat.reduceLT, Nat.reduceLeDiff, Nat.reduceEqDiff, Nat.zero_le, Nat.add_zero, Nat.le_refl, nI_add, mul_nI, lt_nI, le_nI, eq_nI, bnd_nI, ci_nI, decide_eq_true_eq, decide_true, decide_false, Bool.true_or, Bool.or_true, Bool.or_false, Bool.false_or, not_true_eq_false, not_false_eq_true, Bool.false_eq_true, Bool.false_and, Bool.true_and, Bool.and_true, Bool.and_false, Bool.not_true, Bool.not_false, false_and, and_false, and_self, ob_1, rf_1_0, rf_1_1, rf_1_2, rf_1_3, rf_1_4, rf_1_5, rf_1_6, rf_1_7, rf_1_8, ob_2, rf_2_0, ib_3, rd_3, ob_4, rf_4_1, rf_4_2, rf_4_3, rf_4_5, rf_4_6, rf_4_7, rf_4_8, ib_5, rd_5, ib_6, rd_6, ib_7, rd_7, ib_8, rd_8, ib_9, rd_9, ib_10, rd_10, ib_11, rd_11, ob_12, rf_12_1, rf_12_2, rf_12_3, rf_12_5, rf_12_6, rf_12_7, rf_12_8, ib_13, rd_13, ib_14, rd_14, ib_15, rd_15, ib_16, rd_16, ib_17, rd_17, ib_18, rd_18, ib_19, rd_19, ob_20, rf_20_3, rf_20_4, ib_21, rd_21, ib_22, rd_22, ob_23, rf_23_0, ib_24, ix_24, rf_24_0, rf_24_1, rf_24_2, rf_24_3, rf_24_4, rf_24_5, rf_24_6, rf_24_7, rf_24_8, rf_24_9, ib_55, ix_55, rf_55_0, rf_55_1, ib_56, ob_57, rf_57_0, rf_57_1, ib_58, rd_58, ib_59, ob_60, rf_60_2, rf_60_3, rf_60_4, rf_60_5, rf_60_6, ib_61, rd_61, ib_62, ib_63, ix_63, rf_63_0, rf_63_1, rf_63_2, rf_63_3, rf_63_4, ob_77, rf_77_1, rf_77_3, rf_77_4, rf_77_5, rf_77_6, rf_77_8, rf_77_9, rf_77_10, rf_77_16, rf_77_17, rf_77_18, rf_77_19, rf_77_20, ib_78, rd_78, ib_79, rd_79, ib_80, rd_80, ib_81, rd_81, ib_82, rd_82, ib_83, rd_83, ib_84, ib_85, rd_85, ib_86, rd_86, ib_87, rd_87, ib_88, ib_89, rd_89, ib_90, rd_90, up_s, up_n, a2, a3, z1, z2, Value.category]
  refine ⟨⟨_, rfl⟩, sw, _, J, rfl, fun j => ?_, T, tn, sn, pn, im, tx, fm, fi, nx, m, ln, 0, hT, hO, fr_T_ hT ⟨?_, ?_⟩ hA, fr_S_ ⟨?_, ?_, ?_, ?_⟩ hS, fr_P_ ⟨?_, ?_, ?_, ?_⟩ hP, fr_I_ ⟨?_, ?_, ?_, ?_⟩ hI, fr_X_ ⟨?_, ?_, ?_, ?_⟩ hX, ?gF, fr_C_ hO ⟨?_, ?_, ?_, ?_⟩ hC, hJ⟩
  case gF =>
    refine ⟨by omega, ?_, ?_, (fun j hj => absurd hj (by omega))⟩ <;> simp (disch := omega) only [up_s, up_n]
  all_goals (intros; simp (disch := omega) only [am_up_ne, am_row_ne, up_n])
set_option maxHeartbeats 4000000 in
theorem p_count : am_pr n (d + 4) m6_count m7_count [.ref 1, .int x] [.ref 77, .int x] := by
  intro sw I J hR
  obtain ⟨T, tn, sn, pn, im, tx, fm, fi, nx, m, ln, pm, hT, hO, hA, hS, hP, hI, hX, hF, hC, hJ⟩ := id hR
  obtain ⟨a1, a2, a3, a4, a5, -⟩ := id hA
  obtain ⟨-, x2, x3, -⟩ := id hX
  obtain ⟨-, f2, f3, -⟩ := id hF
  have t0 := a1 0 (by omega)
  have t1 := a1 1 (by omega)
  have t2 := a1 2 (by omega)
  have t3 := a1 3 (by omega)
  rcases cs4 x with rfl | rfl | rfl | rfl | rfl | rfl | rfl | ⟨w0, w1, w2, w3, w4, w5, w6⟩ <;> rcases id hT with ⟨rfl, rfl⟩ | ⟨rfl, rfl⟩ <;> simp (disch := omega) only [e6_count, s6_count_0, s6_count_1, s6_count_40, s6_count_41, s6_count_44, s6_count_47, s6_count_48, s6_count_49, s6_count_52, s6_count_55, s6_count_56, s6_count_57, s6_count_60, s6_count_63, s6_count_64, s6_count_65, s6_count_68, s6_count_71, s6_count_72, s6_count_73, s6_count_76, s6_count_79, s6_count_80, s6_count_81, s6_count_84, s6_count_87, s6_count_88, s6_count_89, e7_count, s7_count_0, s7_count_1, s7_count_40, s7_count_41, s7_count_44, s7_count_45, s7_count_46, s7_count_47, s7_count_48, s7_count_51, s7_count_52, s7_count_53, s7_count_54, s7_count_55, s7_count_58, s7_count_59, s7_count_60, s7_count_61, s7_count_62, s7_count_65, s7_count_66, s7_count_67, s7_count_68, s7_count_69, s7_count_72, s7_count_73, s7_count_74, s7_count_77, s7_count_78, s7_count_79, am_k1_int, am_k1_ref, am_k1_none, am_cats_nil, am_cats_int, am_cats_ref, am_cats_long, Option.toList_some, Option.toList_none, List.singleton_append, List.nil_append, List.cons_append, true_and, and_true, if_true, if_false, va_rf, ↓reduceIte, Nat.reduceAdd, Nat.reduceMul, Nat.reduceSub, Nat.reduceLT, Nat.reduceLeDiff, Nat.reduceEqDiff, Nat.zero_le, Nat.add_zero, Nat.le_refl, nI_add, mul_nI, lt_nI, le_nI, eq_nI, bnd_nI, ci_nI, decide_eq_true_eq, decide_true, decide_false, Bool.true_or, Bool.or_true, Bool.or_false, Bool.false_or, not_true_eq_false, not_false_eq_true, Bool.false_eq_true, Bool.false_and, Bool.true_and, Bool.and_true, Bool.and_false, Bool.not_true, Bool.not_false, false_and, and_false, and_self, ob_1, rf_1_0, rf_1_1, rf_1_2, rf_1_3, rf_1_4, rf_1_5, rf_1_6, rf_1_7, rf_1_8, ob_2, rf_2_0, ib_3, rd_3, ob_4, rf_4_1, rf_4_2, rf_4_3, rf_4_5, rf_4_6, rf_4_7, rf_4_8, ib_5, rd_5, ib_6, rd_6, ib_7, rd_7, ib_8, rd_8, ib_9, rd_9, ib_10, rd_10, ib_11, rd_11, ob_12, rf_12_1, rf_12_2, rf_12_3, rf_12_5, rf_12_6, rf_12_7, rf_12_8, ib_13, rd_13, ib_14, rd_14, ib_15, rd_15, ib_16, rd_16, ib_17, rd_17, ib_18, rd_18, ib_19, rd_19, ob_20, rf_20_3, rf_20_4, ib_21, rd_21, ib_22, rd_22, ob_23, rf_23_0, ib_24, ix_24, rf_24_0, rf_24_1, rf_24_2, rf_24_3, rf_24_4, rf_24_5, rf_24_6, rf_24_7, rf_24_8, rf_24_9, ib_55, ix_55, rf_55_0, rf_55_1, ib_56, ob_57, rf_57_0, rf_57_1, ib_58, rd_58, ib_59, ob_60, rf_60_2, rf_60_3, rf_60_4, rf_60_5, rf_60_6, ib_61, rd_61, ib_62, ib_63, ix_63, rf_63_0, rf_63_1, rf_63_2, rf_63_3, rf_63_4, ob_77, rf_77_1, rf_77_3, rf_77_4, rf_77_5, rf_77_6, rf_77_8, rf_77_9, rf_77_10, rf_77_16, rf_77_17, rf_77_18, rf_77_19, rf_77_20, ib_78, rd_78, ib_79, rd_79, ib_80, rd_80, ib_81, rd_81, ib_82, rd_82, ib_83, rd_83, ib_84, ib_85, rd_85, ib_86, rd_86, ib_87, rd_87, ib_88, ib_89, rd_89, ib_90, rd_90, tb_t, tb_f, t0, t1, t2, t3, a2, a3, a4, a5, x2, x3, f2, f3, *]
  all_goals exact ⟨⟨_, rfl⟩, _, I, J, rfl, fun _ => rfl, hR⟩
end
