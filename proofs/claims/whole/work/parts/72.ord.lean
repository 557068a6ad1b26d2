/-! the class's order -/
theorem ne9 {x : Nat} (h : x < 6) : ¬ nI x = -9 := by
  have key : ∀ x, x < 6 → ¬ nI x = -9 := by decide +kernel
  exact key x h
section
variable {n d T : Nat} {tn : Nat → Nat} {I : Nat → Nat → Int32} {J : Nat → Nat → Int64} {sw : Bool} {Q : am_Post}
theorem c0_leastBehind {R c : Nat} (hT : T = 4 ∨ T = 12) (hO : ar_told tn) (hA : ar_T T tn I) (hC : ar_C tn I J) (hR : R < 2 ^ tn 1) (hc : c < 6) : am_call (d + 3) m0_leastBehind [.ref 60, .ref T, .int (nI R), .int (nI c)] (am_sh n, I, J, am_Rf sw) Q ↔ Q (some (.int (nI (max (am_sm (fun c => tn (36 + c)) R (tn 1)) (am_soon tn (am_wo R c)))))) (am_sh n, I, J, am_Rf sw) := by
  have o2 := hO.2.1
  have p6 := (pow2_6 o2).1
  have p5 := pw6 hc
  have hR6 : R < 64 := by omega
  have hw := wo_le R c
  have hw64 := wo_lt (c := c) hR6
  have hso := hC.2.2.1 (am_wo R c) (by omega)
  have hsl := soon_le hO hw64
  have hse := sew_le hO R
  simp (disch := omega) only [e0_leastBehind, s0_leastBehind_0, s0_leastBehind_1, s0_leastBehind_2, s0_leastBehind_5, s0_leastBehind_6, s0_leastBehind_9, s0_leastBehind_10, s0_leastBehind_11, s0_leastBehind_12, s0_leastBehind_13, s0_leastBehind_14, s0_leastBehind_15, s0_leastBehind_16, s0_leastBehind_17, s0_leastBehind_20, am_k1_int, am_k1_ref, am_k1_none, am_cats_nil, am_cats_int, am_cats_ref, am_cats_long, Option.toList_some, Option.toList_none, List.singleton_append, List.nil_append, List.cons_append, true_and, and_true, if_true, if_false, va_rf, ↓reduceIte, Nat.reduceAdd, Nat.reduceMul, Nat.reduceSub, Nat.reduceLT, Nat.reduceLeDiff, Nat.reduceEqDiff, Nat.zero_le, Nat.add_zero, Nat.le_refl, nI_add, mul_nI, lt_nI, le_nI, eq_nI, bnd_nI, ci_nI, decide_eq_true_eq, decide_true, decide_false, Bool.true_or, Bool.or_true, Bool.or_false, Bool.false_or, not_true_eq_false, not_false_eq_true, Bool.false_eq_true, Bool.false_and, Bool.true_and, Bool.and_true, Bool.and_false, Bool.not_true, Bool.not_false, false_and, and_false, and_self, ob_60, rf_60_2, rf_60_3, rf_60_4, rf_60_5, rf_60_6, ib_61, rd_61, ob_T hT, c5_sewingOf hT o2 hA hR6, shl_nI, Nat.one_mul, wo_nI, hw64, hso, cJ9_max]
theorem l0_low {R nd W : Nat} (hT : T = 4 ∨ T = 12) (hO : ar_told tn) (hA : ar_T T tn I) (hC : ar_C tn I J) (hR : R < 2 ^ tn 1) (hnd : nd ≤ 3000) (hW : W ≤ 3000) : ∀ (r c : Nat), c + r = tn 1 → (am_wp (d + 3) m0_lowestInTime 3 [some (.ref 60), some (.ref T), some (.int (nI R)), some (.int (nI nd)), some (.int (nI W)), some (.int (nI c))] [] (am_sh n, I, J, am_Rf sw) Q ↔ Q (some (.int (am_on (am_lo tn W R nd r c)))) (am_sh n, I, J, am_Rf sw))
  | 0, c, hm => by
    have o2 := hO.2.1
    have h1 := hC.2.1
    obtain rfl : c = tn 1 := by omega
    show _ ↔ Q (some (.int (-9))) _
    simp (disch := omega) only [e0_lowestInTime, s0_lowestInTime_0, s0_lowestInTime_1, s0_lowestInTime_3, s0_lowestInTime_5, s0_lowestInTime_6, s0_lowestInTime_9, s0_lowestInTime_12, s0_lowestInTime_13, s0_lowestInTime_15, s0_lowestInTime_16, s0_lowestInTime_17, s0_lowestInTime_18, s0_lowestInTime_19, s0_lowestInTime_22, s0_lowestInTime_23, s0_lowestInTime_24, s0_lowestInTime_27, s0_lowestInTime_29, s0_lowestInTime_30, s0_lowestInTime_31, s0_lowestInTime_32, s0_lowestInTime_33, s0_lowestInTime_34, s0_lowestInTime_36, s0_lowestInTime_39, s0_lowestInTime_40, s0_lowestInTime_42, s0_lowestInTime_45, s0_lowestInTime_47, s0_lowestInTime_48, s0_lowestInTime_51, s0_lowestInTime_54, s0_lowestInTime_56, am_k1_int, am_k1_ref, am_k1_none, am_cats_nil, am_cats_int, am_cats_ref, am_cats_long, Option.toList_some, Option.toList_none, List.singleton_append, List.nil_append, List.cons_append, true_and, and_true, if_true, if_false, va_rf, ↓reduceIte, Nat.reduceAdd, Nat.reduceMul, Nat.reduceSub, Nat.reduceLT, Nat.reduceLeDiff, Nat.reduceEqDiff, Nat.zero_le, Nat.add_zero, Nat.le_refl, nI_add, mul_nI, lt_nI, le_nI, eq_nI, bnd_nI, ci_nI, decide_eq_true_eq, decide_true, decide_false, Bool.true_or, Bool.or_true, Bool.or_false, Bool.false_or, not_true_eq_false, not_false_eq_true, Bool.false_eq_true, Bool.false_and, Bool.true_and, Bool.and_true, Bool.and_false, Bool.not_true, Bool.not_false, false_and, and_false, and_self, ob_60, rf_60_2, rf_60_3, rf_60_4, rf_60_5, rf_60_6, h1]
  | r + 1, c, hm => by
    have o2 := hO.2.1
    have p6 := (pow2_6 o2).1
    have h1 := hC.2.1
    have hR6 : R < 64 := by omega
    have hcn : ¬ tn 1 ≤ c := by omega
    have hc6 : c < 6 := by omega
    have hb := isb_eq hR6 (show c < 32 by omega)
    have hw64 := wo_lt (c := c) hR6
    have hsl := soon_le hO hw64
    have hse := sew_le hO R
    have v24 := (hO.2.2.2.2.2.2.1 c hc6).2.1
    have b2 := (hA.2.2.2.2.2.2 c (by omega)).2.1
    have ih := l0_low hT hO hA hC hR hnd hW r (c + 1) (by omega)
    have hpk : am_pk tn W R nd c = (R.testBit c && decide (nd + tn (24 + c) + max (am_sm (fun c => tn (36 + c)) R (tn 1)) (am_soon tn (am_wo R c)) ≤ W)) := rfl
    have hlb := fun Q => c0_leastBehind (d := d) (n := n) (sw := sw) (Q := Q) hT hO hA hC hR hc6
    obtain ⟨X, hX⟩ : ∃ X, X = max (am_sm (fun c => tn (36 + c)) R (tn 1)) (am_soon tn (am_wo R c)) := ⟨_, rfl⟩
    rw [← hX] at hpk hlb
    have hX3 : X ≤ 3000 := by omega
    rw [s0_lowestInTime_3]
    cases hd : R.testBit c with
    | false =>
      rw [hd, Bool.false_and] at hpk
      rw [show am_lo tn W R nd (r + 1) c = am_lo tn W R nd r (c + 1) from if_neg (by rw [hpk]; decide), ← ih]
      simp (disch := omega) only [e0_lowestInTime, s0_lowestInTime_0, s0_lowestInTime_1, s0_lowestInTime_5, s0_lowestInTime_6, s0_lowestInTime_9, s0_lowestInTime_12, s0_lowestInTime_13, s0_lowestInTime_15, s0_lowestInTime_16, s0_lowestInTime_17, s0_lowestInTime_18, s0_lowestInTime_19, s0_lowestInTime_22, s0_lowestInTime_23, s0_lowestInTime_24, s0_lowestInTime_27, s0_lowestInTime_29, s0_lowestInTime_30, s0_lowestInTime_31, s0_lowestInTime_32, s0_lowestInTime_33, s0_lowestInTime_34, s0_lowestInTime_36, s0_lowestInTime_39, s0_lowestInTime_40, s0_lowestInTime_42, s0_lowestInTime_45, s0_lowestInTime_47, s0_lowestInTime_48, s0_lowestInTime_51, s0_lowestInTime_54, s0_lowestInTime_56, am_k1_int, am_k1_ref, am_k1_none, am_cats_nil, am_cats_int, am_cats_ref, am_cats_long, Option.toList_some, Option.toList_none, List.singleton_append, List.nil_append, List.cons_append, true_and, and_true, if_true, if_false, va_rf, ↓reduceIte, Nat.reduceAdd, Nat.reduceMul, Nat.reduceSub, Nat.reduceLT, Nat.reduceLeDiff, Nat.reduceEqDiff, Nat.zero_le, Nat.add_zero, Nat.le_refl, nI_add, mul_nI, lt_nI, le_nI, eq_nI, bnd_nI, ci_nI, decide_eq_true_eq, decide_true, decide_false, Bool.true_or, Bool.or_true, Bool.or_false, Bool.false_or, not_true_eq_false, not_false_eq_true, Bool.false_eq_true, Bool.false_and, Bool.true_and, Bool.and_true, Bool.and_false, Bool.not_true, Bool.not_false, false_and, and_false, and_self, ob_60, rf_60_2, rf_60_3, rf_60_4, rf_60_5, rf_60_6, h1, hcn, hb, hd]
    | true =>
      rw [hd, Bool.true_and] at hpk
      by_cases g : nd + tn (24 + c) + X ≤ W
      · have g' : ¬ W < nd + tn (24 + c) + X := by omega
        rw [show am_lo tn W R nd (r + 1) c = some c from if_pos (by rw [hpk]; simpa using g)]
        show _ ↔ Q (some (.int (nI c))) _
        rcases id hT with rfl | rfl <;> simp only [Nat.reduceAdd] at b2 <;> simp (disch := omega) only [e0_lowestInTime, s0_lowestInTime_0, s0_lowestInTime_1, s0_lowestInTime_5, s0_lowestInTime_6, s0_lowestInTime_9, s0_lowestInTime_12, s0_lowestInTime_13, s0_lowestInTime_15, s0_lowestInTime_16, s0_lowestInTime_17, s0_lowestInTime_18, s0_lowestInTime_19, s0_lowestInTime_22, s0_lowestInTime_23, s0_lowestInTime_24, s0_lowestInTime_27, s0_lowestInTime_29, s0_lowestInTime_30, s0_lowestInTime_31, s0_lowestInTime_32, s0_lowestInTime_33, s0_lowestInTime_34, s0_lowestInTime_36, s0_lowestInTime_39, s0_lowestInTime_40, s0_lowestInTime_42, s0_lowestInTime_45, s0_lowestInTime_47, s0_lowestInTime_48, s0_lowestInTime_51, s0_lowestInTime_54, s0_lowestInTime_56, am_k1_int, am_k1_ref, am_k1_none, am_cats_nil, am_cats_int, am_cats_ref, am_cats_long, Option.toList_some, Option.toList_none, List.singleton_append, List.nil_append, List.cons_append, true_and, and_true, if_true, if_false, va_rf, ↓reduceIte, Nat.reduceAdd, Nat.reduceMul, Nat.reduceSub, Nat.reduceLT, Nat.reduceLeDiff, Nat.reduceEqDiff, Nat.zero_le, Nat.add_zero, Nat.le_refl, nI_add, mul_nI, lt_nI, le_nI, eq_nI, bnd_nI, ci_nI, decide_eq_true_eq, decide_true, decide_false, Bool.true_or, Bool.or_true, Bool.or_false, Bool.false_or, not_true_eq_false, not_false_eq_true, Bool.false_eq_true, Bool.false_and, Bool.true_and, Bool.and_true, Bool.and_false, Bool.not_true, Bool.not_false, false_and, and_false, and_self, ob_4, rf_4_1, rf_4_2, rf_4_3, rf_4_5, rf_4_6, rf_4_7, rf_4_8, ib_9, rd_9, ob_12, rf_12_1, rf_12_2, rf_12_3, rf_12_5, rf_12_6, rf_12_7, rf_12_8, ib_17, rd_17, ob_60, rf_60_2, rf_60_3, rf_60_4, rf_60_5, rf_60_6, h1, hcn, hc6, hb, hd, b2, hlb, g']
      · have g' : W < nd + tn (24 + c) + X := by omega
        rw [show am_lo tn W R nd (r + 1) c = am_lo tn W R nd r (c + 1) from if_neg (by rw [hpk]; simpa using g'), ← ih]
        rcases id hT with rfl | rfl <;> simp only [Nat.reduceAdd] at b2 <;> simp (disch := omega) only [e0_lowestInTime, s0_lowestInTime_0, s0_lowestInTime_1, s0_lowestInTime_5, s0_lowestInTime_6, s0_lowestInTime_9, s0_lowestInTime_12, s0_lowestInTime_13, s0_lowestInTime_15, s0_lowestInTime_16, s0_lowestInTime_17, s0_lowestInTime_18, s0_lowestInTime_19, s0_lowestInTime_22, s0_lowestInTime_23, s0_lowestInTime_24, s0_lowestInTime_27, s0_lowestInTime_29, s0_lowestInTime_30, s0_lowestInTime_31, s0_lowestInTime_32, s0_lowestInTime_33, s0_lowestInTime_34, s0_lowestInTime_36, s0_lowestInTime_39, s0_lowestInTime_40, s0_lowestInTime_42, s0_lowestInTime_45, s0_lowestInTime_47, s0_lowestInTime_48, s0_lowestInTime_51, s0_lowestInTime_54, s0_lowestInTime_56, am_k1_int, am_k1_ref, am_k1_none, am_cats_nil, am_cats_int, am_cats_ref, am_cats_long, Option.toList_some, Option.toList_none, List.singleton_append, List.nil_append, List.cons_append, true_and, and_true, if_true, if_false, va_rf, ↓reduceIte, Nat.reduceAdd, Nat.reduceMul, Nat.reduceSub, Nat.reduceLT, Nat.reduceLeDiff, Nat.reduceEqDiff, Nat.zero_le, Nat.add_zero, Nat.le_refl, nI_add, mul_nI, lt_nI, le_nI, eq_nI, bnd_nI, ci_nI, decide_eq_true_eq, decide_true, decide_false, Bool.true_or, Bool.or_true, Bool.or_false, Bool.false_or, not_true_eq_false, not_false_eq_true, Bool.false_eq_true, Bool.false_and, Bool.true_and, Bool.and_true, Bool.and_false, Bool.not_true, Bool.not_false, false_and, and_false, and_self, ob_4, rf_4_1, rf_4_2, rf_4_3, rf_4_5, rf_4_6, rf_4_7, rf_4_8, ib_9, rd_9, ob_12, rf_12_1, rf_12_2, rf_12_3, rf_12_5, rf_12_6, rf_12_7, rf_12_8, ib_17, rd_17, ob_60, rf_60_2, rf_60_3, rf_60_4, rf_60_5, rf_60_6, h1, hcn, hc6, hb, hd, b2, hlb, g']
theorem c0_low {R nd W : Nat} (hT : T = 4 ∨ T = 12) (hO : ar_told tn) (hA : ar_T T tn I) (hC : ar_C tn I J) (hR : R < 2 ^ tn 1) (hnd : nd ≤ 3000) (hW : W ≤ 3000) : am_call (d + 4) m0_lowestInTime [.ref 60, .ref T, .int (nI R), .int (nI nd), .int (nI W)] (am_sh n, I, J, am_Rf sw) Q ↔ Q (some (.int (am_on (am_lo tn W R nd (tn 1) 0)))) (am_sh n, I, J, am_Rf sw) := by
  rw [← l0_low (d := d) (n := n) (sw := sw) (Q := Q) hT hO hA hC hR hnd hW (tn 1) 0 (by omega), e0_lowestInTime, s0_lowestInTime_0, s0_lowestInTime_1]
  exact Iff.rfl
set_option maxHeartbeats 4000000 in
theorem l0_inOrder {S k : Nat} (hT : T = 4 ∨ T = 12) (hO : ar_told tn) (hA : ar_T T tn I) (hC : ar_C tn I J) (hS : S < 2 ^ tn 1) (hk : k < 6) : ∀ (r p R nd : Nat) (l7 : Option Value), p + r = k → R < 2 ^ tn 1 → nd ≤ 12 * p → (am_wp (d + 4) m0_inOrder 9 [some (.ref 60), some (.ref T), some (.int (nI S)), some (.int (nI k)), some (.int (nI R)), some (.int (nI nd)), some (.int (nI p)), l7] [] (am_sh n, I, J, am_Rf sw) Q ↔ Q (some (.int (am_on (am_or tn (am_soon tn S) r R nd)))) (am_sh n, I, J, am_Rf sw))
  | 0, p, R, nd, l7, hm, hR, hnd => by
    have o2 := hO.2.1
    have p6 := (pow2_6 o2).1
    obtain rfl : p = k := by omega
    have hS6 : S < 64 := by omega
    have hso := hC.2.2.1 S hS
    have hsl := soon_le hO hS6
    have hlo := fun Q => c0_low (d := d) (n := n) (sw := sw) (Q := Q) (nd := nd) (W := am_soon tn S) hT hO hA hC hR (by omega) (by omega)
    have h6 : ¬ 6 ≤ p := by omega
    show _ ↔ Q (some (.int (am_on (am_lo tn (am_soon tn S) R nd (tn 1) 0)))) _
    rw [s0_inOrder_9]
    cases hl : am_lo tn (am_soon tn S) R nd (tn 1) 0 with
    | none =>
      rw [hl] at hlo
      simp only [am_on] at hlo ⊢
      simp (disch := omega) only [e0_inOrder, s0_inOrder_0, s0_inOrder_1, s0_inOrder_3, s0_inOrder_4, s0_inOrder_6, s0_inOrder_7, s0_inOrder_11, s0_inOrder_13, s0_inOrder_16, s0_inOrder_17, s0_inOrder_18, s0_inOrder_20, s0_inOrder_22, s0_inOrder_23, s0_inOrder_26, s0_inOrder_27, s0_inOrder_28, s0_inOrder_31, s0_inOrder_33, s0_inOrder_35, s0_inOrder_37, s0_inOrder_40, s0_inOrder_42, s0_inOrder_43, s0_inOrder_46, s0_inOrder_48, s0_inOrder_49, s0_inOrder_51, s0_inOrder_52, s0_inOrder_54, s0_inOrder_55, s0_inOrder_56, s0_inOrder_57, s0_inOrder_58, s0_inOrder_60, s0_inOrder_62, s0_inOrder_63, s0_inOrder_66, s0_inOrder_68, s0_inOrder_69, s0_inOrder_70, s0_inOrder_72, s0_inOrder_75, s0_inOrder_78, s0_inOrder_80, am_k1_int, am_k1_ref, am_k1_none, am_cats_nil, am_cats_int, am_cats_ref, am_cats_long, Option.toList_some, Option.toList_none, List.singleton_append, List.nil_append, List.cons_append, true_and, and_true, if_true, if_false, va_rf, ↓reduceIte, Nat.reduceAdd, Nat.reduceMul, Nat.reduceSub, Nat.reduceLT, Nat.reduceLeDiff, Nat.reduceEqDiff, Nat.zero_le, Nat.add_zero, Nat.le_refl, nI_add, mul_nI, lt_nI, le_nI, eq_nI, bnd_nI, ci_nI, decide_eq_true_eq, decide_true, decide_false, Bool.true_or, Bool.or_true, Bool.or_false, Bool.false_or, not_true_eq_false, not_false_eq_true, Bool.false_eq_true, Bool.false_and, Bool.true_and, Bool.and_true, Bool.and_false, Bool.not_true, Bool.not_false, false_and, and_false, and_self, ob_60, rf_60_2, rf_60_3, rf_60_4, rf_60_5, rf_60_6, ib_61, rd_61, h6, hS6, hso, hlo]
    | some x =>
      have hx := (lo_some _ _ hl).2.2
      have h9 := ne9 (show x < 6 by omega)
      rw [hl] at hlo
      simp only [am_on] at hlo ⊢
      simp (disch := omega) only [e0_inOrder, s0_inOrder_0, s0_inOrder_1, s0_inOrder_3, s0_inOrder_4, s0_inOrder_6, s0_inOrder_7, s0_inOrder_11, s0_inOrder_13, s0_inOrder_16, s0_inOrder_17, s0_inOrder_18, s0_inOrder_20, s0_inOrder_22, s0_inOrder_23, s0_inOrder_26, s0_inOrder_27, s0_inOrder_28, s0_inOrder_31, s0_inOrder_33, s0_inOrder_35, s0_inOrder_37, s0_inOrder_40, s0_inOrder_42, s0_inOrder_43, s0_inOrder_46, s0_inOrder_48, s0_inOrder_49, s0_inOrder_51, s0_inOrder_52, s0_inOrder_54, s0_inOrder_55, s0_inOrder_56, s0_inOrder_57, s0_inOrder_58, s0_inOrder_60, s0_inOrder_62, s0_inOrder_63, s0_inOrder_66, s0_inOrder_68, s0_inOrder_69, s0_inOrder_70, s0_inOrder_72, s0_inOrder_75, s0_inOrder_78, s0_inOrder_80, am_k1_int, am_k1_ref, am_k1_none, am_cats_nil, am_cats_int, am_cats_ref, am_cats_long, Option.toList_some, Option.toList_none, List.singleton_append, List.nil_append, List.cons_append, true_and, and_true, if_true, if_false, va_rf, ↓reduceIte, Nat.reduceAdd, Nat.reduceMul, Nat.reduceSub, Nat.reduceLT, Nat.reduceLeDiff, Nat.reduceEqDiff, Nat.zero_le, Nat.add_zero, Nat.le_refl, nI_add, mul_nI, lt_nI, le_nI, eq_nI, bnd_nI, ci_nI, decide_eq_true_eq, decide_true, decide_false, Bool.true_or, Bool.or_true, Bool.or_false, Bool.false_or, not_true_eq_false, not_false_eq_true, Bool.false_eq_true, Bool.false_and, Bool.true_and, Bool.and_true, Bool.and_false, Bool.not_true, Bool.not_false, false_and, and_false, and_self, ob_60, rf_60_2, rf_60_3, rf_60_4, rf_60_5, rf_60_6, ib_61, rd_61, h6, hS6, hso, hlo, h9]
  | r + 1, p, R, nd, l7, hm, hR, hnd => by
    have o2 := hO.2.1
    have p6 := (pow2_6 o2).1
    have hS6 : S < 64 := by omega
    have hR6 : R < 64 := by omega
    have hso := hC.2.2.1 S hS
    have hsl := soon_le hO hS6
    have hlo := fun Q => c0_low (d := d) (n := n) (sw := sw) (Q := Q) (nd := nd) (W := am_soon tn S) hT hO hA hC hR (by omega) (by omega)
    have h6 : ¬ 6 ≤ p := by omega
    have hpk : ¬ p = k := by omega
    rw [s0_inOrder_9]
    cases hl : am_lo tn (am_soon tn S) R nd (tn 1) 0 with
    | none =>
      rw [show am_or tn (am_soon tn S) (r + 1) R nd = none by simp only [am_or, hl]]
      rw [hl] at hlo
      simp only [am_on] at hlo ⊢
      simp (disch := omega) only [e0_inOrder, s0_inOrder_0, s0_inOrder_1, s0_inOrder_3, s0_inOrder_4, s0_inOrder_6, s0_inOrder_7, s0_inOrder_11, s0_inOrder_13, s0_inOrder_16, s0_inOrder_17, s0_inOrder_18, s0_inOrder_20, s0_inOrder_22, s0_inOrder_23, s0_inOrder_26, s0_inOrder_27, s0_inOrder_28, s0_inOrder_31, s0_inOrder_33, s0_inOrder_35, s0_inOrder_37, s0_inOrder_40, s0_inOrder_42, s0_inOrder_43, s0_inOrder_46, s0_inOrder_48, s0_inOrder_49, s0_inOrder_51, s0_inOrder_52, s0_inOrder_54, s0_inOrder_55, s0_inOrder_56, s0_inOrder_57, s0_inOrder_58, s0_inOrder_60, s0_inOrder_62, s0_inOrder_63, s0_inOrder_66, s0_inOrder_68, s0_inOrder_69, s0_inOrder_70, s0_inOrder_72, s0_inOrder_75, s0_inOrder_78, s0_inOrder_80, am_k1_int, am_k1_ref, am_k1_none, am_cats_nil, am_cats_int, am_cats_ref, am_cats_long, Option.toList_some, Option.toList_none, List.singleton_append, List.nil_append, List.cons_append, true_and, and_true, if_true, if_false, va_rf, ↓reduceIte, Nat.reduceAdd, Nat.reduceMul, Nat.reduceSub, Nat.reduceLT, Nat.reduceLeDiff, Nat.reduceEqDiff, Nat.zero_le, Nat.add_zero, Nat.le_refl, nI_add, mul_nI, lt_nI, le_nI, eq_nI, bnd_nI, ci_nI, decide_eq_true_eq, decide_true, decide_false, Bool.true_or, Bool.or_true, Bool.or_false, Bool.false_or, not_true_eq_false, not_false_eq_true, Bool.false_eq_true, Bool.false_and, Bool.true_and, Bool.and_true, Bool.and_false, Bool.not_true, Bool.not_false, false_and, and_false, and_self, ob_60, rf_60_2, rf_60_3, rf_60_4, rf_60_5, rf_60_6, ib_61, rd_61, h6, hS6, hso, hlo]
    | some x =>
      have hx := (lo_some _ _ hl).2.2
      have h9 := ne9 (show x < 6 by omega)
      have hx6 : x < 6 := by omega
      have p5 := pw6 hx6
      have v24 := (hO.2.2.2.2.2.2.1 x hx6).2.1
      have b2 := (hA.2.2.2.2.2.2 x (by omega)).2.1
      have hw := wo_le R x
      have ih := l0_inOrder hT hO hA hC hS hk r (p + 1) (am_wo R x) (nd + tn (24 + x)) (some (.int (nI x))) (by omega) (by omega) (by omega)
      rw [show am_or tn (am_soon tn S) (r + 1) R nd = am_or tn (am_soon tn S) r (am_wo R x) (nd + tn (24 + x)) by simp only [am_or, hl], ← ih]
      rw [hl] at hlo
      simp only [am_on] at hlo
      rcases id hT with rfl | rfl <;> simp only [Nat.reduceAdd] at b2 <;> simp (disch := omega) only [e0_inOrder, s0_inOrder_0, s0_inOrder_1, s0_inOrder_3, s0_inOrder_4, s0_inOrder_6, s0_inOrder_7, s0_inOrder_11, s0_inOrder_13, s0_inOrder_16, s0_inOrder_17, s0_inOrder_18, s0_inOrder_20, s0_inOrder_22, s0_inOrder_23, s0_inOrder_26, s0_inOrder_27, s0_inOrder_28, s0_inOrder_31, s0_inOrder_33, s0_inOrder_35, s0_inOrder_37, s0_inOrder_40, s0_inOrder_42, s0_inOrder_43, s0_inOrder_46, s0_inOrder_48, s0_inOrder_49, s0_inOrder_51, s0_inOrder_52, s0_inOrder_54, s0_inOrder_55, s0_inOrder_56, s0_inOrder_57, s0_inOrder_58, s0_inOrder_60, s0_inOrder_62, s0_inOrder_63, s0_inOrder_66, s0_inOrder_68, s0_inOrder_69, s0_inOrder_70, s0_inOrder_72, s0_inOrder_75, s0_inOrder_78, s0_inOrder_80, am_k1_int, am_k1_ref, am_k1_none, am_cats_nil, am_cats_int, am_cats_ref, am_cats_long, Option.toList_some, Option.toList_none, List.singleton_append, List.nil_append, List.cons_append, true_and, and_true, if_true, if_false, va_rf, ↓reduceIte, Nat.reduceAdd, Nat.reduceMul, Nat.reduceSub, Nat.reduceLT, Nat.reduceLeDiff, Nat.reduceEqDiff, Nat.zero_le, Nat.add_zero, Nat.le_refl, nI_add, mul_nI, lt_nI, le_nI, eq_nI, bnd_nI, ci_nI, decide_eq_true_eq, decide_true, decide_false, Bool.true_or, Bool.or_true, Bool.or_false, Bool.false_or, not_true_eq_false, not_false_eq_true, Bool.false_eq_true, Bool.false_and, Bool.true_and, Bool.and_true, Bool.and_false, Bool.not_true, Bool.not_false, false_and, and_false, and_self, ob_4, rf_4_1, rf_4_2, rf_4_3, rf_4_5, rf_4_6, rf_4_7, rf_4_8, ib_9, rd_9, ob_12, rf_12_1, rf_12_2, rf_12_3, rf_12_5, rf_12_6, rf_12_7, rf_12_8, ib_17, rd_17, ob_60, rf_60_2, rf_60_3, rf_60_4, rf_60_5, rf_60_6, ib_61, rd_61, h6, hS6, hso, hlo, h9, hpk, shl_nI, Nat.one_mul, wo_nI, hx6, b2]
theorem c0_inOrder {S k : Nat} (hT : T = 4 ∨ T = 12) (hO : ar_told tn) (hA : ar_T T tn I) (hC : ar_C tn I J) (hS : S < 2 ^ tn 1) (hk : k < 6) : am_call (d + 5) m0_inOrder [.ref 60, .ref T, .int (nI S), .int (nI k)] (am_sh n, I, J, am_Rf sw) Q ↔ Q (some (.int (am_on (am_or tn (am_soon tn S) k S 0)))) (am_sh n, I, J, am_Rf sw) := by
  rw [← l0_inOrder (d := d) (n := n) (sw := sw) (Q := Q) hT hO hA hC hS hk k 0 S 0 none (by omega) hS (by omega)]
  simp (disch := omega) only [e0_inOrder, s0_inOrder_0, s0_inOrder_1, s0_inOrder_3, s0_inOrder_4, s0_inOrder_6, s0_inOrder_7, s0_inOrder_11, s0_inOrder_13, s0_inOrder_16, s0_inOrder_17, s0_inOrder_18, s0_inOrder_20, s0_inOrder_22, s0_inOrder_23, s0_inOrder_26, s0_inOrder_27, s0_inOrder_28, s0_inOrder_31, s0_inOrder_33, s0_inOrder_35, s0_inOrder_37, s0_inOrder_40, s0_inOrder_42, s0_inOrder_43, s0_inOrder_46, s0_inOrder_48, s0_inOrder_49, s0_inOrder_51, s0_inOrder_52, s0_inOrder_54, s0_inOrder_55, s0_inOrder_56, s0_inOrder_57, s0_inOrder_58, s0_inOrder_60, s0_inOrder_62, s0_inOrder_63, s0_inOrder_66, s0_inOrder_68, s0_inOrder_69, s0_inOrder_70, s0_inOrder_72, s0_inOrder_75, s0_inOrder_78, s0_inOrder_80, am_k1_int, am_k1_ref, am_k1_none, am_cats_nil, am_cats_int, am_cats_ref, am_cats_long, Option.toList_some, Option.toList_none, List.singleton_append, List.nil_append, List.cons_append, true_and, and_true, if_true, if_false, va_rf, ↓reduceIte, Nat.reduceAdd, Nat.reduceMul, Nat.reduceSub, Nat.reduceLT, Nat.reduceLeDiff, Nat.reduceEqDiff, Nat.zero_le, Nat.add_zero, Nat.le_refl, nI_add, mul_nI, lt_nI, le_nI, eq_nI, bnd_nI, ci_nI, decide_eq_true_eq, decide_true, decide_false, Bool.true_or, Bool.or_true, Bool.or_false, Bool.false_or, not_true_eq_false, not_false_eq_true, Bool.false_eq_true, Bool.false_and, Bool.true_and, Bool.and_true, Bool.and_false, Bool.not_true, Bool.not_false, false_and, and_false, and_self]
end
