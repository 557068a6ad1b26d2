theorem cpy_in {α : Type} {f g : Nat → α} {sp dp n j : Nat} (h : j < n) : va_cpy f g sp dp n (dp + j) = f (sp + j) := by
  unfold va_cpy
  rw [if_pos (by omega)]
  congr 1
  omega
theorem cpy_out {α : Type} {f g : Nat → α} {sp dp n j : Nat} (h : j < dp ∨ dp + n ≤ j) : va_cpy f g sp dp n j = g j := by
  unfold va_cpy
  rw [if_neg (by omega)]
theorem cpy_in0 {α : Type} {f g : Nat → α} {sp n j : Nat} (h : j < n) : va_cpy f g sp 0 n j = f (sp + j) := by
  have := cpy_in (f := f) (g := g) (sp := sp) (dp := 0) h
  rwa [Nat.zero_add] at this
theorem eq_bec {nd k o : Nat} {sn : Nat → Nat} {I : Nat → Nat → Int32} (hn : nd ≤ 4) (hk : am_isSt k = true) (ho : am_isSt o = true) (h : ar_eq nd I o sn) : ar_eq nd (am_bec I k o) k sn := by
  obtain ⟨h0, h1, h2, h3, h4⟩ := h
  refine ⟨?_, ?_, ?_, fun e he => ?_, fun q hq => ?_⟩ <;> unfold am_bec
  · simp [h0]
  · simp [h1]
  · simp [h2]
  · rw [if_neg (by omega), if_pos rfl, if_pos (by omega)]
    exact h3 e he
  · rw [if_neg (by omega), if_neg (by omega), if_pos rfl, if_pos (by omega)]
    exact h4 q hq
theorem eq_fr {nd k : Nat} {sn : Nat → Nat} {I I' : Nat → Nat → Int32} (h0 : I' k = I k) (h1 : I' (k + 1) = I (k + 1)) (h2 : I' (k + 2) = I (k + 2)) (h : ar_eq nd I k sn) : ar_eq nd I' k sn := by
  unfold ar_eq at *
  rw [h0, h1, h2]
  exact h
section
variable {n d : Nat} {x y z : Int32} {tn sn : Nat → Nat} {I : Nat → Nat → Int32} {J : Nat → Nat → Int64} {sw : Bool} {Q : am_Post}
theorem l7_keep {q : Nat} (hq : q < 2) : ∀ (m i : Nat), i + m = 31 → (am_wp d m7_keep 13 [some (.ref 77), some (.int (nI q)), some (.int (nI i))] [] (am_sh n, am_row I 83 (va_cpy (I 81) (I 83) 0 (31 * q) i), J, am_Rf sw) Q ↔ am_wp d m7_keep 42 [some (.ref 77), some (.int (nI q)), some (.int (nI 31))] [] (am_sh n, am_row I 83 (va_cpy (I 81) (I 83) 0 (31 * q) 31), J, am_Rf sw) Q)
  | 0, i, hm => by
    obtain rfl : i = 31 := by omega
    rw [s7_keep_13]
    simp (disch := omega) only [s7_keep_14, s7_keep_16, am_k1_int, am_k1_ref, am_k1_none, am_cats_nil, am_cats_int, am_cats_ref, am_cats_long, Option.toList_some, Option.toList_none, List.singleton_append, List.nil_append, List.cons_append, true_and, and_true, if_true, if_false, va_rf, ↓reduceIte, Nat.reduceAdd, Nat.reduceMul, Nat.reduceSub, Nat.reduceLT, Nat.reduceLeDiff, Nat.reduceEqDiff, Nat.zero_le, Nat.add_zero, Nat.le_refl, nI_add, mul_nI, lt_nI, le_nI, eq_nI, bnd_nI, ci_nI, decide_eq_true_eq, decide_true, decide_false, Bool.true_or, Bool.or_true, Bool.or_false, Bool.false_or, not_true_eq_false, not_false_eq_true, Bool.false_eq_true, Bool.false_and, Bool.true_and, Bool.and_true, Bool.and_false, Bool.not_true, Bool.not_false, false_and, and_false, and_self]
  | m + 1, i, hm => by
    have h1 : ¬ 31 ≤ i := by omega
    have h2 : i < 31 := by omega
    have h3 : 31 * q + i < 62 := by omega
    have z : (0 : Nat) < 83 := by decide
    have ih := l7_keep hq m (i + 1) (by omega)
    have e2 := cpy_up (I := I) (a := 83) (f := I 81) (g := I 83) (sp := 0) (dp := 31 * q) (i := i)
    rw [Nat.zero_add] at e2
    rw [s7_keep_13]
    simp (disch := omega) only [e7_keep, s7_keep_0, s7_keep_1, s7_keep_2, s7_keep_3, s7_keep_6, s7_keep_9, s7_keep_10, s7_keep_11, s7_keep_12, s7_keep_14, s7_keep_16, s7_keep_19, s7_keep_20, s7_keep_23, s7_keep_25, s7_keep_26, s7_keep_27, s7_keep_28, s7_keep_29, s7_keep_30, s7_keep_33, s7_keep_34, s7_keep_35, s7_keep_36, s7_keep_39, s7_keep_43, s7_keep_46, s7_keep_47, s7_keep_48, s7_keep_49, s7_keep_50, s7_keep_53, s7_keep_54, s7_keep_55, am_k1_int, am_k1_ref, am_k1_none, am_cats_nil, am_cats_int, am_cats_ref, am_cats_long, Option.toList_some, Option.toList_none, List.singleton_append, List.nil_append, List.cons_append, true_and, and_true, if_true, if_false, va_rf, ↓reduceIte, Nat.reduceAdd, Nat.reduceMul, Nat.reduceSub, Nat.reduceLT, Nat.reduceLeDiff, Nat.reduceEqDiff, Nat.zero_le, Nat.add_zero, Nat.le_refl, nI_add, mul_nI, lt_nI, le_nI, eq_nI, bnd_nI, ci_nI, decide_eq_true_eq, decide_true, decide_false, Bool.true_or, Bool.or_true, Bool.or_false, Bool.false_or, not_true_eq_false, not_false_eq_true, Bool.false_eq_true, Bool.false_and, Bool.true_and, Bool.and_true, Bool.and_false, Bool.not_true, Bool.not_false, false_and, and_false, and_self, ob_77, rf_77_1, rf_77_3, rf_77_4, rf_77_5, rf_77_6, rf_77_8, rf_77_9, rf_77_10, rf_77_16, rf_77_17, rf_77_18, rf_77_19, rf_77_20, ib_81, rd_81, ib_83, rd_83, h1, h2, h3, z, row_n, e2]
    exact ih
theorem l7_back {q : Nat} (hq : q < 2) : ∀ (m i : Nat), i + m = 31 → (am_wp d m7_back 25 [some (.ref 77), some (.int (nI q)), some (.int (nI i))] [] (am_sh n, am_row I 81 (va_cpy (I 83) (I 81) (31 * q) 0 i), J, am_Rf sw) Q ↔ am_wp d m7_back 54 [some (.ref 77), some (.int (nI q)), some (.int (nI 31))] [] (am_sh n, am_row I 81 (va_cpy (I 83) (I 81) (31 * q) 0 31), J, am_Rf sw) Q)
  | 0, i, hm => by
    obtain rfl : i = 31 := by omega
    rw [s7_back_25]
    simp (disch := omega) only [s7_back_26, s7_back_28, am_k1_int, am_k1_ref, am_k1_none, am_cats_nil, am_cats_int, am_cats_ref, am_cats_long, Option.toList_some, Option.toList_none, List.singleton_append, List.nil_append, List.cons_append, true_and, and_true, if_true, if_false, va_rf, ↓reduceIte, Nat.reduceAdd, Nat.reduceMul, Nat.reduceSub, Nat.reduceLT, Nat.reduceLeDiff, Nat.reduceEqDiff, Nat.zero_le, Nat.add_zero, Nat.le_refl, nI_add, mul_nI, lt_nI, le_nI, eq_nI, bnd_nI, ci_nI, decide_eq_true_eq, decide_true, decide_false, Bool.true_or, Bool.or_true, Bool.or_false, Bool.false_or, not_true_eq_false, not_false_eq_true, Bool.false_eq_true, Bool.false_and, Bool.true_and, Bool.and_true, Bool.and_false, Bool.not_true, Bool.not_false, false_and, and_false, and_self]
  | m + 1, i, hm => by
    have h1 : ¬ 31 ≤ i := by omega
    have h2 : i < 31 := by omega
    have h3 : 31 * q + i < 62 := by omega
    have z : (0 : Nat) < 81 := by decide
    have ih := l7_back hq m (i + 1) (by omega)
    have e2 := cpy_up (I := I) (a := 81) (f := I 83) (g := I 81) (sp := 31 * q) (dp := 0) (i := i)
    rw [Nat.zero_add] at e2
    rw [s7_back_25]
    simp (disch := omega) only [e7_back, s7_back_0, s7_back_1, s7_back_2, s7_back_3, s7_back_6, s7_back_9, s7_back_10, s7_back_11, s7_back_12, s7_back_15, s7_back_16, s7_back_17, s7_back_20, s7_back_22, s7_back_23, s7_back_24, s7_back_26, s7_back_28, s7_back_31, s7_back_32, s7_back_35, s7_back_36, s7_back_37, s7_back_40, s7_back_42, s7_back_43, s7_back_44, s7_back_45, s7_back_46, s7_back_47, s7_back_48, s7_back_51, s7_back_55, s7_back_56, s7_back_59, s7_back_60, s7_back_63, s7_back_64, s7_back_65, am_k1_int, am_k1_ref, am_k1_none, am_cats_nil, am_cats_int, am_cats_ref, am_cats_long, Option.toList_some, Option.toList_none, List.singleton_append, List.nil_append, List.cons_append, true_and, and_true, if_true, if_false, va_rf, ↓reduceIte, Nat.reduceAdd, Nat.reduceMul, Nat.reduceSub, Nat.reduceLT, Nat.reduceLeDiff, Nat.reduceEqDiff, Nat.zero_le, Nat.add_zero, Nat.le_refl, nI_add, mul_nI, lt_nI, le_nI, eq_nI, bnd_nI, ci_nI, decide_eq_true_eq, decide_true, decide_false, Bool.true_or, Bool.or_true, Bool.or_false, Bool.false_or, not_true_eq_false, not_false_eq_true, Bool.false_eq_true, Bool.false_and, Bool.true_and, Bool.and_true, Bool.and_false, Bool.not_true, Bool.not_false, false_and, and_false, and_self, ob_77, rf_77_1, rf_77_3, rf_77_4, rf_77_5, rf_77_6, rf_77_8, rf_77_9, rf_77_10, rf_77_16, rf_77_17, rf_77_18, rf_77_19, rf_77_20, ib_81, rd_81, ib_83, rd_83, h1, h2, h3, z, row_n, e2]
    exact ih
theorem l7_undo {q : Nat} (hq : q < 10) (hI : I 77 7 = nI q) : ∀ (m i : Nat), i + m = 31 → (am_wp d m7_undo 22 [some (.ref 77), some (.int (nI i))] [] (am_sh n, am_row I 81 (va_cpy (I 82) (I 81) (31 * q) 0 i), J, am_Rf sw) Q ↔ am_wp d m7_undo 54 [some (.ref 77), some (.int (nI 31))] [] (am_sh n, am_row I 81 (va_cpy (I 82) (I 81) (31 * q) 0 31), J, am_Rf sw) Q)
  | 0, i, hm => by
    obtain rfl : i = 31 := by omega
    rw [s7_undo_22]
    simp (disch := omega) only [s7_undo_23, s7_undo_25, am_k1_int, am_k1_ref, am_k1_none, am_cats_nil, am_cats_int, am_cats_ref, am_cats_long, Option.toList_some, Option.toList_none, List.singleton_append, List.nil_append, List.cons_append, true_and, and_true, if_true, if_false, va_rf, ↓reduceIte, Nat.reduceAdd, Nat.reduceMul, Nat.reduceSub, Nat.reduceLT, Nat.reduceLeDiff, Nat.reduceEqDiff, Nat.zero_le, Nat.add_zero, Nat.le_refl, nI_add, mul_nI, lt_nI, le_nI, eq_nI, bnd_nI, ci_nI, decide_eq_true_eq, decide_true, decide_false, Bool.true_or, Bool.or_true, Bool.or_false, Bool.false_or, not_true_eq_false, not_false_eq_true, Bool.false_eq_true, Bool.false_and, Bool.true_and, Bool.and_true, Bool.and_false, Bool.not_true, Bool.not_false, false_and, and_false, and_self]
  | m + 1, i, hm => by
    have h1 : ¬ 31 ≤ i := by omega
    have h2 : i < 31 := by omega
    have h3 : 31 * q + i < 310 := by omega
    have z : (0 : Nat) < 81 := by decide
    have ih := l7_undo hq hI m (i + 1) (by omega)
    have e2 := cpy_up (I := I) (a := 81) (f := I 82) (g := I 81) (sp := 31 * q) (dp := 0) (i := i)
    rw [Nat.zero_add] at e2
    rw [s7_undo_22]
    simp (disch := omega) only [e7_undo, s7_undo_0, s7_undo_1, s7_undo_4, s7_undo_7, s7_undo_9, s7_undo_10, s7_undo_11, s7_undo_12, s7_undo_15, s7_undo_16, s7_undo_17, s7_undo_20, s7_undo_21, s7_undo_23, s7_undo_25, s7_undo_28, s7_undo_29, s7_undo_32, s7_undo_33, s7_undo_34, s7_undo_37, s7_undo_39, s7_undo_40, s7_undo_43, s7_undo_44, s7_undo_45, s7_undo_46, s7_undo_47, s7_undo_48, s7_undo_51, s7_undo_55, s7_undo_58, am_k1_int, am_k1_ref, am_k1_none, am_cats_nil, am_cats_int, am_cats_ref, am_cats_long, Option.toList_some, Option.toList_none, List.singleton_append, List.nil_append, List.cons_append, true_and, and_true, if_true, if_false, va_rf, ↓reduceIte, Nat.reduceAdd, Nat.reduceMul, Nat.reduceSub, Nat.reduceLT, Nat.reduceLeDiff, Nat.reduceEqDiff, Nat.zero_le, Nat.add_zero, Nat.le_refl, nI_add, mul_nI, lt_nI, le_nI, eq_nI, bnd_nI, ci_nI, decide_eq_true_eq, decide_true, decide_false, Bool.true_or, Bool.or_true, Bool.or_false, Bool.false_or, not_true_eq_false, not_false_eq_true, Bool.false_eq_true, Bool.false_and, Bool.true_and, Bool.and_true, Bool.and_false, Bool.not_true, Bool.not_false, false_and, and_false, and_self, ob_77, rf_77_1, rf_77_3, rf_77_4, rf_77_5, rf_77_6, rf_77_8, rf_77_9, rf_77_10, rf_77_16, rf_77_17, rf_77_18, rf_77_19, rf_77_20, ib_81, rd_81, ib_82, rd_82, h1, h2, h3, z, row_n, hI, e2]
    exact ih
set_option maxHeartbeats 4000000 in
theorem p_keep : am_pr n (d + 4) m6_keep m7_keep [.ref 1, .int x] [.ref 77, .int x] := by
  intro sw I J hR
  obtain ⟨T, tn, sn, pn, im, tx, fm, fi, nx, m, ln, pm, hT, hO, hA, hS, hP, hI, hX, hF, hC, hJ⟩ := id hR
  have o1 := hO.1
  cases hb : am_bnd x 2 with
  | false =>
    simp (disch := omega) only [e6_keep, s6_keep_0, s6_keep_1, s6_keep_4, s6_keep_7, s6_keep_8, s6_keep_9, s6_keep_10, s6_keep_13, s6_keep_14, s6_keep_15, s6_keep_16, s6_keep_19, s6_keep_22, s6_keep_23, s6_keep_26, s6_keep_27, s6_keep_28, s6_keep_29, s6_keep_30, s6_keep_33, s6_keep_36, e7_keep, s7_keep_0, s7_keep_1, s7_keep_2, s7_keep_3, s7_keep_6, s7_keep_9, s7_keep_10, s7_keep_11, s7_keep_12, s7_keep_14, s7_keep_16, s7_keep_19, s7_keep_20, s7_keep_23, s7_keep_25, s7_keep_26, s7_keep_27, s7_keep_28, s7_keep_29, s7_keep_30, s7_keep_33, s7_keep_34, s7_keep_35, s7_keep_36, s7_keep_39, s7_keep_42, s7_keep_43, s7_keep_46, s7_keep_47, s7_keep_48, s7_keep_49, s7_keep_50, s7_keep_53, s7_keep_54, s7_keep_55, am_k1_int, am_k1_ref, am_k1_none, am_cats_nil, am_cats_int, am_cats_ref, am_cats_long, Option.toList_some, Option.toList_none, List.singleton_append, List.nil_append, List.cons_append, true_and, and_true, if_true, if_false, va_rf, ↓reduceIte, Nat.reduceAdd, Nat.reduceMul, Nat.reduceSub, Nat.reduceLT, Nat.reduceLeDiff, Nat.reduceEqDiff, Nat.zero_le, Nat.add_zero, Nat.le_refl, nI_add, mul_nI, lt_nI, le_nI, eq_nI, bnd_nI, ci_nI, decide_eq_true_eq, decide_true, decide_false, Bool.true_or, Bool.or_true, Bool.or_false, Bool.false_or, not_true_eq_false, not_false_eq_true, Bool.false_eq_true, Bool.false_and, Bool.true_and, Bool.and_true, Bool.and_false, Bool.not_true, Bool.not_false, false_and, and_false, and_self, ob_1, rf_1_0, rf_1_1, rf_1_2, rf_1_3, rf_1_4, rf_1_5, rf_1_6, rf_1_7, rf_1_8, ob_2, rf_2_0, ib_3, rd_3, ob_4, rf_4_1, rf_4_2, rf_4_3, rf_4_5, rf_4_6, rf_4_7, rf_4_8, ib_5, rd_5, ib_6, rd_6, ib_7, rd_7, ib_8, rd_8, ib_9, rd_9, ib_10, rd_10, ib_11, rd_11, ob_12, rf_12_1, rf_12_2, rf_12_3, rf_12_5, rf_12_6, rf_12_7, rf_12_8, ib_13, rd_13, ib_14, rd_14, ib_15, rd_15, ib_16, rd_16, ib_17, rd_17, ib_18, rd_18, ib_19, rd_19, ob_20, rf_20_3, rf_20_4, ib_21, rd_21, ib_22, rd_22, ob_23, rf_23_0, ib_24, ix_24, rf_24_0, rf_24_1, rf_24_2, rf_24_3, rf_24_4, rf_24_5, rf_24_6, rf_24_7, rf_24_8, rf_24_9, ib_55, ix_55, rf_55_0, rf_55_1, ib_56, ob_57, rf_57_0, rf_57_1, ib_58, rd_58, ib_59, ob_60, rf_60_2, rf_60_3, rf_60_4, rf_60_5, rf_60_6, ib_61, rd_61, ib_62, ib_63, ix_63, rf_63_0, rf_63_1, rf_63_2, rf_63_3, rf_63_4, ob_77, rf_77_1, rf_77_3, rf_77_4, rf_77_5, rf_77_6, rf_77_8, rf_77_9, rf_77_10, rf_77_16, rf_77_17, rf_77_18, rf_77_19, rf_77_20, ib_78, rd_78, ib_79, rd_79, ib_80, rd_80, ib_81, rd_81, ib_82, rd_82, ib_83, rd_83, ib_84, ib_85, rd_85, ib_86, rd_86, ib_87, rd_87, ib_88, ib_89, rd_89, ib_90, rd_90, c6_isImage, c7_in, bnd_in2, hb, bi_ret, bi_t, bi_f, ite_bi2]
    exact ⟨⟨_, rfl⟩, sw, I, J, rfl, fun _ => rfl, hR⟩
  | true =>
    obtain ⟨q, hq, rfl⟩ := bnd_of hb (by omega)
    have q1 : q ≤ 1 := by omega
    have z1 : (0 : Nat) < 56 := by decide
    have z2 : (0 : Nat) < 84 := by decide
    have hst : am_isSt (71 + 3 * q) = true ∧ 71 + 3 * q ≠ 20 ∧ am_Rf sw 55 q = some (71 + 3 * q) := by
      rcases (show q = 0 ∨ q = 1 by omega) with rfl | rfl <;> exact ⟨rfl, by decide, rfl⟩
    have key : am_call (d + 4) m6_keep [.ref 1, .int (nI q)] (am_sh n, I, J, am_Rf sw) (fun v M1 => v = some (.int (I 20 0)) ∧ M1 = (am_sh n, am_up (am_bec I (71 + 3 * q) 20) 56 q (nI 1), J, am_Rf sw)) := by
      simp (disch := omega) only [e6_keep, s6_keep_0, s6_keep_1, s6_keep_4, s6_keep_7, s6_keep_8, s6_keep_9, s6_keep_10, s6_keep_13, s6_keep_14, s6_keep_15, s6_keep_16, s6_keep_19, s6_keep_22, s6_keep_23, s6_keep_26, s6_keep_27, s6_keep_28, s6_keep_29, s6_keep_30, s6_keep_33, s6_keep_36, am_k1_int, am_k1_ref, am_k1_none, am_cats_nil, am_cats_int, am_cats_ref, am_cats_long, Option.toList_some, Option.toList_none, List.singleton_append, List.nil_append, List.cons_append, true_and, and_true, if_true, if_false, va_rf, ↓reduceIte, Nat.reduceAdd, Nat.reduceMul, Nat.reduceSub, Nat.reduceLT, Nat.reduceLeDiff, Nat.reduceEqDiff, Nat.zero_le, Nat.add_zero, Nat.le_refl, nI_add, mul_nI, lt_nI, le_nI, eq_nI, bnd_nI, ci_nI, decide_eq_true_eq, decide_true, decide_false, Bool.true_or, Bool.or_true, Bool.or_false, Bool.false_or, not_true_eq_false, not_false_eq_true, Bool.false_eq_true, Bool.false_and, Bool.true_and, Bool.and_true, Bool.and_false, Bool.not_true, Bool.not_false, false_and, and_false, and_self, ob_1, rf_1_0, rf_1_1, rf_1_2, rf_1_3, rf_1_4, rf_1_5, rf_1_6, rf_1_7, rf_1_8, ob_2, rf_2_0, ib_3, rd_3, ob_4, rf_4_1, rf_4_2, rf_4_3, rf_4_5, rf_4_6, rf_4_7, rf_4_8, ib_5, rd_5, ib_6, rd_6, ib_7, rd_7, ib_8, rd_8, ib_9, rd_9, ib_10, rd_10, ib_11, rd_11, ob_12, rf_12_1, rf_12_2, rf_12_3, rf_12_5, rf_12_6, rf_12_7, rf_12_8, ib_13, rd_13, ib_14, rd_14, ib_15, rd_15, ib_16, rd_16, ib_17, rd_17, ib_18, rd_18, ib_19, rd_19, ob_20, rf_20_3, rf_20_4, ib_21, rd_21, ib_22, rd_22, ob_23, rf_23_0, ib_24, ix_24, rf_24_0, rf_24_1, rf_24_2, rf_24_3, rf_24_4, rf_24_5, rf_24_6, rf_24_7, rf_24_8, rf_24_9, ib_55, ix_55, rf_55_0, rf_55_1, ib_56, ob_57, rf_57_0, rf_57_1, ib_58, rd_58, ib_59, ob_60, rf_60_2, rf_60_3, rf_60_4, rf_60_5, rf_60_6, ib_61, rd_61, ib_62, ib_63, ix_63, rf_63_0, rf_63_1, rf_63_2, rf_63_3, rf_63_4, ob_77, rf_77_1, rf_77_3, rf_77_4, rf_77_5, rf_77_6, rf_77_8, rf_77_9, rf_77_10, rf_77_16, rf_77_17, rf_77_18, rf_77_19, rf_77_20, ib_78, rd_78, ib_79, rd_79, ib_80, rd_80, ib_81, rd_81, ib_82, rd_82, ib_83, rd_83, ib_84, ib_85, rd_85, ib_86, rd_86, ib_87, rd_87, ib_88, ib_89, rd_89, ib_90, rd_90, c6_isImage, hb, hq, hst.2.2, (st_all hst.1 n sw).1, c3_become hst.1 st20 hst.2.1, bi_ret, bi_t, bi_f, ite_bi2, z1, up_n, bec_n, zo_1]
    refine am_call_mono _ _ _ _ _ _ ?_ key
    rintro v M1 ⟨rfl, rfl⟩
    have k1 := fun Q => l7_keep (Q := Q) (I := am_up (am_bec I (71 + 3 * q) 20) 56 q (nI 1)) (J := J) (n := n) (d := d + 3) (sw := sw) hq 31 0 (by omega)
    simp only [cpy_0, row_id] at k1
    have q6 : q < 2 := hq
    simp (disch := omega) only [e7_keep, s7_keep_0, s7_keep_1, s7_keep_2, s7_keep_3, s7_keep_6, s7_keep_9, s7_keep_10, s7_keep_11, s7_keep_12, s7_keep_14, s7_keep_16, s7_keep_19, s7_keep_20, s7_keep_23, s7_keep_25, s7_keep_26, s7_keep_27, s7_keep_28, s7_keep_29, s7_keep_30, s7_keep_33, s7_keep_34, s7_keep_35, s7_keep_36, s7_keep_39, s7_keep_43, s7_keep_46, s7_keep_47, s7_keep_48, s7_keep_49, s7_keep_50, s7_keep_53, s7_keep_54, s7_keep_55, am_k1_int, am_k1_ref, am_k1_none, am_cats_nil, am_cats_int, am_cats_ref, am_cats_long, Option.toList_some, Option.toList_none, List.singleton_append, List.nil_append, List.cons_append, true_and, and_true, if_true, if_false, va_rf, ↓reduceIte, Nat.reduceAdd, Nat.reduceMul, Nat.reduceSub, Nat.reduceLT, Nat.reduceLeDiff, Nat.reduceEqDiff, Nat.zero_le, Nat.add_zero, Nat.le_refl, nI_add, mul_nI, lt_nI, le_nI, eq_nI, bnd_nI, ci_nI, decide_eq_true_eq, decide_true, decide_false, Bool.true_or, Bool.or_true, Bool.or_false, Bool.false_or, not_true_eq_false, not_false_eq_true, Bool.false_eq_true, Bool.false_and, Bool.true_and, Bool.and_true, Bool.and_false, Bool.not_true, Bool.not_false, false_and, and_false, and_self, ob_1, rf_1_0, rf_1_1, rf_1_2, rf_1_3, rf_1_4, rf_1_5, rf_1_6, rf_1_7, rf_1_8, ob_2, rf_2_0, ib_3, rd_3, ob_4, rf_4_1, rf_4_2, rf_4_3, rf_4_5, rf_4_6, rf_4_7, rf_4_8, ib_5, rd_5, ib_6, rd_6, ib_7, rd_7, ib_8, rd_8, ib_9, rd_9, ib_10, rd_10, ib_11, rd_11, ob_12, rf_12_1, rf_12_2, rf_12_3, rf_12_5, rf_12_6, rf_12_7, rf_12_8, ib_13, rd_13, ib_14, rd_14, ib_15, rd_15, ib_16, rd_16, ib_17, rd_17, ib_18, rd_18, ib_19, rd_19, ob_20, rf_20_3, rf_20_4, ib_21, rd_21, ib_22, rd_22, ob_23, rf_23_0, ib_24, ix_24, rf_24_0, rf_24_1, rf_24_2, rf_24_3, rf_24_4, rf_24_5, rf_24_6, rf_24_7, rf_24_8, rf_24_9, ib_55, ix_55, rf_55_0, rf_55_1, ib_56, ob_57, rf_57_0, rf_57_1, ib_58, rd_58, ib_59, ob_60, rf_60_2, rf_60_3, rf_60_4, rf_60_5, rf_60_6, ib_61, rd_61, ib_62, ib_63, ix_63, rf_63_0, rf_63_1, rf_63_2, rf_63_3, rf_63_4, ob_77, rf_77_1, rf_77_3, rf_77_4, rf_77_5, rf_77_6, rf_77_8, rf_77_9, rf_77_10, rf_77_16, rf_77_17, rf_77_18, rf_77_19, rf_77_20, ib_78, rd_78, ib_79, rd_79, ib_80, rd_80, ib_81, rd_81, ib_82, rd_82, ib_83, rd_83, ib_84, ib_85, rd_85, ib_86, rd_86, ib_87, rd_87, ib_88, ib_89, rd_89, ib_90, rd_90, c7_in, bnd_in2, hb, q1, bi_ret, bi_t, bi_f, ite_bi2, k1]
    simp (disch := omega) only [s7_keep_42, s7_keep_43, s7_keep_46, s7_keep_47, s7_keep_48, s7_keep_49, s7_keep_50, s7_keep_53, s7_keep_54, s7_keep_55, am_k1_int, am_k1_ref, am_k1_none, am_cats_nil, am_cats_int, am_cats_ref, am_cats_long, Option.toList_some, Option.toList_none, List.singleton_append, List.nil_append, List.cons_append, true_and, and_true, if_true, if_false, va_rf, ↓reduceIte, Nat.reduceAdd, Nat.reduceMul, Nat.reduceSub, Nat.reduceLT, Nat.reduceLeDiff, Nat.reduceEqDiff, Nat.zero_le, Nat.add_zero, Nat.le_refl, nI_add, mul_nI, lt_nI, le_nI, eq_nI, bnd_nI, ci_nI, decide_eq_true_eq, decide_true, decide_false, Bool.true_or, Bool.or_true, Bool.or_false, Bool.false_or, not_true_eq_false, not_false_eq_true, Bool.false_eq_true, Bool.false_and, Bool.true_and, Bool.and_true, Bool.and_false, Bool.not_true, Bool.not_false, false_and, and_false, and_self, ob_77, rf_77_1, rf_77_3, rf_77_4, rf_77_5, rf_77_6, rf_77_8, rf_77_9, rf_77_10, rf_77_16, rf_77_17, rf_77_18, rf_77_19, rf_77_20, ib_78, rd_78, ib_79, rd_79, ib_80, rd_80, ib_81, rd_81, ib_82, rd_82, ib_83, rd_83, ib_84, ib_85, rd_85, ib_86, rd_86, ib_87, rd_87, ib_88, ib_89, rd_89, ib_90, rd_90, hq, z2, zo_1, row_n, up_n, bec_n, hS.1 0 (by omega), hS.2.2.1]
    refine ⟨⟨_, rfl⟩, sw, _, J, rfl, fun j => ?_, T, tn, sn, pn, (fun a => if a = q then sn else im a), tx, fm, fi, nx, m, ln, pm, hT, hO, fr_T_ hT ⟨?_, ?_⟩ hA, fr_S_ ⟨?_, ?_, ?_, ?_⟩ hS, fr_P_ ⟨?_, ?_, ?_, ?_⟩ hP, ?gI, fr_X_ ⟨?_, ?_, ?_, ?_⟩ hX, fr_F_ ⟨?_, ?_, ?_, ?_, ?_⟩ hF, fr_C_ hO ⟨?_, ?_, ?_, ?_⟩ hC, ?gJ⟩
    case gJ => exact hJ
    case gI =>
      intro a ha
      by_cases haq : a = q
      · subst haq
        refine Or.inr ⟨?_, ?_, fun j hj => ?_, ?_, ?_⟩
        · simp (disch := omega) only [up_s, up_n, row_n]
        · simp (disch := omega) only [up_s, up_n, row_n]
        · simp (disch := omega) only [up_s, up_n, row_s, cpy_in, bec_n, am_up_ne, Nat.zero_add, if_true]
          exact hS.1 j hj
        · simp only [if_true]
          exact hS.2.1
        · simp only [if_true]
          refine eq_fr ?_ ?_ ?_ (eq_bec (I := I) o1 hst.1 st20 hS.2.2) <;> simp (disch := omega) only [am_up_ne, am_row_ne]
      · have hc : (71 + 3 * a ≠ 71 + 3 * q) ∧ a + q = 1 := by omega
        rcases hI a ha with ⟨i1, i2⟩ | ⟨i1, i2, i3, i4, i5⟩
        · refine Or.inl ⟨?_, ?_⟩ <;> simp (disch := omega) only [up_s, up_n, row_n, bec_n, i1, i2]
        · refine Or.inr ⟨?_, ?_, fun j hj => ?_, ?_, ?_⟩
          · simp (disch := omega) only [up_s, up_n, row_n, bec_n, i1, i2]
          · simp (disch := omega) only [up_s, up_n, row_n, bec_n, i1, i2]
          · simp (disch := omega) only [up_s, up_n, row_s, cpy_out, bec_n, i3, haq, if_false]
          · simp only [haq, if_false]
            exact i4
          · simp only [haq, if_false]
            refine eq_fr ?_ ?_ ?_ i5 <;> simp (disch := omega) only [am_up_ne, am_row_ne, bec_row]
    all_goals (intros; simp (disch := omega) only [am_up_ne, am_row_ne, up_n, row_n, bec_row, bec_n])
end
