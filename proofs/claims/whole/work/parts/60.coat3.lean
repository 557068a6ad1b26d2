/-! the soonest end of a set -/
theorem wo_less {x c : Nat} (hx : x < 64) (hc : c < 6) (hb : x.testBit c = true) : am_wo x c < x := by
  have key : ∀ x, x < 64 → ∀ c, c < 6 → x.testBit c = true → x &&& (63 - 2 ^ c) < x := by decide +kernel
  exact key x hx c hc hb
theorem sm_le {f : Nat → Nat} {s b : Nat} : ∀ m, (∀ c, c < m → f c ≤ b) → am_sm f s m ≤ m * b
  | 0, _ => by
    show 0 ≤ _
    omega
  | m + 1, h => by
    have := sm_le (f := f) (s := s) (b := b) m (fun c hc => h c (by omega))
    have h2 := h m (by omega)
    have h3 : (m + 1) * b = m * b + b := Nat.succ_mul m b
    show am_sm f s m + (if s.testBit m = true then f m else 0) ≤ _
    split <;> omega
theorem need_le {tn : Nat → Nat} (hO : ar_told tn) (s : Nat) : am_sm (fun c => tn (24 + c)) s (tn 1) ≤ 72 := by
  have o2 := hO.2.1
  have h := sm_le (f := fun c => tn (24 + c)) (s := s) (b := 12) (tn 1) (fun c hc => (hO.2.2.2.2.2.2.1 c (by omega)).2.1)
  omega
theorem sew_le {tn : Nat → Nat} (hO : ar_told tn) (s : Nat) : am_sm (fun c => tn (36 + c)) s (tn 1) ≤ 180 := by
  have o2 := hO.2.1
  have h := sm_le (f := fun c => tn (36 + c)) (s := s) (b := 30) (tn 1) (fun c hc => (hO.2.2.2.2.2.2.1 c (by omega)).2.2.2)
  omega
theorem sn1_le {tn tab : Nat → Nat} (hO : ar_told tn) {x : Nat} (hx : x < 64) (hT : ∀ y, y < x → tab y ≤ 72 + 30 * (y + 1)) : ∀ m, m ≤ tn 1 → am_sn1 tn tab x m ≤ 72 + 30 * (x + 1)
  | 0, _ => by
    show 0 ≤ _
    omega
  | m + 1, h => by
    have o2 := hO.2.1
    have ih := sn1_le hO hx hT m (by omega)
    have hn := need_le hO x
    have hs := (hO.2.2.2.2.2.2.1 m (by omega)).2.2.2
    simp only [am_sn1]
    by_cases hb : x.testBit m = true
    · have hw := wo_less hx (by omega) hb
      have ht := hT _ hw
      rw [if_pos hb]
      split <;> omega
    · rw [if_neg hb]
      exact ih
theorem snT_le {tn : Nat → Nat} (hO : ar_told tn) : ∀ s, s ≤ 64 → ∀ y, am_snT tn s y ≤ 72 + 30 * (y + 1)
  | 0, _, y => by
    show 0 ≤ _
    omega
  | s + 1, hs, y => by
    have ih := snT_le hO s (by omega)
    show (if y = s then am_sn1 tn (am_snT tn s) s (tn 1) else am_snT tn s y) ≤ _
    by_cases h : y = s
    · subst h
      rw [if_pos rfl]
      exact sn1_le hO (by omega) (fun y _ => ih y) (tn 1) (Nat.le_refl _)
    · rw [if_neg h]
      exact ih y
/-- a table's entry is what it was when it was written -/
theorem snT_same {tn : Nat → Nat} {y : Nat} : ∀ k, am_snT tn (y + 1 + k) y = am_snT tn (y + 1) y
  | 0 => rfl
  | k + 1 => by
    show (if y = y + 1 + k then am_sn1 tn (am_snT tn (y + 1 + k)) (y + 1 + k) (tn 1) else am_snT tn (y + 1 + k) y) = _
    rw [if_neg (by omega), snT_same k]
theorem snT_soon {tn : Nat → Nat} {s y : Nat} (h : y < s) : am_snT tn s y = am_soon tn y := by
  have := snT_same (tn := tn) (y := y) (s - (y + 1))
  rw [show y + 1 + (s - (y + 1)) = s by omega] at this
  exact this
theorem sn1_congr {tn tab tab' : Nat → Nat} {x : Nat} (hx : x < 64) (h : ∀ y, y < x → tab y = tab' y) : ∀ m, m ≤ 6 → am_sn1 tn tab x m = am_sn1 tn tab' x m
  | 0, _ => rfl
  | m + 1, hm => by
    simp only [am_sn1]
    rw [sn1_congr hx h m (by omega)]
    by_cases hb : x.testBit m = true
    · rw [h _ (wo_less hx (by omega) hb)]
    · rw [if_neg hb, if_neg hb]
theorem soon_eq {tn : Nat → Nat} {x : Nat} (hO : ar_told tn) (hx : x < 64) : am_soon tn x = am_sn1 tn (am_soon tn) x (tn 1) := by
  have o2 := hO.2.1
  show (if x = x then am_sn1 tn (am_snT tn x) x (tn 1) else am_snT tn x x) = _
  rw [if_pos rfl]
  exact sn1_congr hx (fun y hy => snT_soon hy) (tn 1) o2
theorem soon_le {tn : Nat → Nat} (hO : ar_told tn) {x : Nat} (hx : x < 64) : am_soon tn x ≤ 2000 := by
  have := snT_le hO (x + 1) (by omega) x
  show am_snT tn (x + 1) x ≤ _
  omega
section
variable {n d T : Nat} {tn tab : Nat → Nat} {I : Nat → Nat → Int32} {J : Nat → Nat → Int64} {sw : Bool} {Q : am_Post}
set_option maxHeartbeats 4000000 in
theorem l0_soonestOf {s : Nat} (hT : T = 4 ∨ T = 12) (hO : ar_told tn) (hA : ar_T T tn I) (h1 : I 60 1 = nI (tn 1)) (hs : s < 64) (htab : ∀ y, y < s → I 61 y = nI (tab y)) (hB : ∀ y, y < s → tab y ≤ 72 + 30 * (y + 1)) : ∀ (r c : Nat) (l6 : Option Value), c + r = tn 1 → (am_wp (d + 1) m0_soonestOf 12 [some (.ref 60), some (.ref T), some (.int (nI s)), some (.int (nI (am_sm (fun c => tn (24 + c)) s (tn 1)))), some (.int (nI (am_sn1 tn tab s c))), some (.int (nI c)), l6] [] (am_sh n, I, J, am_Rf sw) Q ↔ Q (some (.int (nI (am_sn1 tn tab s (tn 1))))) (am_sh n, I, J, am_Rf sw))
  | 0, c, l6, hm => by
    have o2 := hO.2.1
    obtain rfl : c = tn 1 := by omega
    simp (disch := omega) only [e0_soonestOf, s0_soonestOf_0, s0_soonestOf_1, s0_soonestOf_2, s0_soonestOf_5, s0_soonestOf_6, s0_soonestOf_7, s0_soonestOf_9, s0_soonestOf_10, s0_soonestOf_12, s0_soonestOf_14, s0_soonestOf_15, s0_soonestOf_18, s0_soonestOf_21, s0_soonestOf_22, s0_soonestOf_24, s0_soonestOf_25, s0_soonestOf_26, s0_soonestOf_27, s0_soonestOf_28, s0_soonestOf_31, s0_soonestOf_32, s0_soonestOf_33, s0_soonestOf_36, s0_soonestOf_37, s0_soonestOf_38, s0_soonestOf_40, s0_soonestOf_41, s0_soonestOf_42, s0_soonestOf_43, s0_soonestOf_44, s0_soonestOf_45, s0_soonestOf_48, s0_soonestOf_49, s0_soonestOf_52, s0_soonestOf_54, s0_soonestOf_55, s0_soonestOf_56, s0_soonestOf_58, s0_soonestOf_60, s0_soonestOf_63, s0_soonestOf_65, s0_soonestOf_68, s0_soonestOf_70, s0_soonestOf_72, s0_soonestOf_75, s0_soonestOf_77, s0_soonestOf_80, s0_soonestOf_83, s0_soonestOf_85, am_k1_int, am_k1_ref, am_k1_none, am_cats_nil, am_cats_int, am_cats_ref, am_cats_long, Option.toList_some, Option.toList_none, List.singleton_append, List.nil_append, List.cons_append, true_and, and_true, if_true, if_false, va_rf, ↓reduceIte, Nat.reduceAdd, Nat.reduceMul, Nat.reduceSub, Nat.reduceLT, Nat.reduceLeDiff, Nat.reduceEqDiff, Nat.zero_le, Nat.add_zero, Nat.le_refl, nI_add, mul_nI, lt_nI, le_nI, eq_nI, bnd_nI, ci_nI, decide_eq_true_eq, decide_true, decide_false, Bool.true_or, Bool.or_true, Bool.or_false, Bool.false_or, not_true_eq_false, not_false_eq_true, Bool.false_eq_true, Bool.false_and, Bool.true_and, Bool.and_true, Bool.and_false, Bool.not_true, Bool.not_false, false_and, and_false, and_self, ob_60, rf_60_2, rf_60_3, rf_60_4, rf_60_5, rf_60_6, h1, Nat.lt_irrefl]
  | r + 1, c, l6, hm => by
    have o2 := hO.2.1
    have ih := l0_soonestOf hT hO hA h1 hs htab hB r (c + 1)
    have hcn : ¬ tn 1 ≤ c := by omega
    have hc6 : c < 6 := by omega
    have hb := isb_eq hs (show c < 32 by omega)
    have hn := need_le hO s
    have hle := sn1_le hO hs hB c (by omega)
    have p5 := pw6 hc6
    have v36 := (hO.2.2.2.2.2.2.1 c hc6).2.2.2
    have b4 := (hA.2.2.2.2.2.2 c (by omega)).2.2.2
    rw [s0_soonestOf_12]
    cases hd : s.testBit c with
    | false =>
      simp only [am_sn1, hd, Bool.false_eq_true, if_false] at ih
      simp (disch := omega) only [e0_soonestOf, s0_soonestOf_0, s0_soonestOf_1, s0_soonestOf_2, s0_soonestOf_5, s0_soonestOf_6, s0_soonestOf_7, s0_soonestOf_9, s0_soonestOf_10, s0_soonestOf_14, s0_soonestOf_15, s0_soonestOf_18, s0_soonestOf_21, s0_soonestOf_22, s0_soonestOf_24, s0_soonestOf_25, s0_soonestOf_26, s0_soonestOf_27, s0_soonestOf_28, s0_soonestOf_31, s0_soonestOf_32, s0_soonestOf_33, s0_soonestOf_36, s0_soonestOf_37, s0_soonestOf_38, s0_soonestOf_40, s0_soonestOf_41, s0_soonestOf_42, s0_soonestOf_43, s0_soonestOf_44, s0_soonestOf_45, s0_soonestOf_48, s0_soonestOf_49, s0_soonestOf_52, s0_soonestOf_54, s0_soonestOf_55, s0_soonestOf_56, s0_soonestOf_58, s0_soonestOf_60, s0_soonestOf_63, s0_soonestOf_65, s0_soonestOf_68, s0_soonestOf_70, s0_soonestOf_72, s0_soonestOf_75, s0_soonestOf_77, s0_soonestOf_80, s0_soonestOf_83, s0_soonestOf_85, am_k1_int, am_k1_ref, am_k1_none, am_cats_nil, am_cats_int, am_cats_ref, am_cats_long, Option.toList_some, Option.toList_none, List.singleton_append, List.nil_append, List.cons_append, true_and, and_true, if_true, if_false, va_rf, ↓reduceIte, Nat.reduceAdd, Nat.reduceMul, Nat.reduceSub, Nat.reduceLT, Nat.reduceLeDiff, Nat.reduceEqDiff, Nat.zero_le, Nat.add_zero, Nat.le_refl, nI_add, mul_nI, lt_nI, le_nI, eq_nI, bnd_nI, ci_nI, decide_eq_true_eq, decide_true, decide_false, Bool.true_or, Bool.or_true, Bool.or_false, Bool.false_or, not_true_eq_false, not_false_eq_true, Bool.false_eq_true, Bool.false_and, Bool.true_and, Bool.and_true, Bool.and_false, Bool.not_true, Bool.not_false, false_and, and_false, and_self, ob_60, rf_60_2, rf_60_3, rf_60_4, rf_60_5, rf_60_6, h1, hcn, hb, hd]
      exact ih _ (by omega)
    | true =>
      have hw := wo_less hs hc6 hd
      have hw64 : am_wo s c < 64 := by omega
      have ht := htab _ hw
      have ht2 := hB _ hw
      by_cases h0 : am_sn1 tn tab s c = 0
      · simp only [am_sn1, hd, h0, if_true] at ih
        rcases id hT with rfl | rfl <;> simp only [Nat.reduceAdd] at b4 <;> simp (disch := omega) only [e0_soonestOf, s0_soonestOf_0, s0_soonestOf_1, s0_soonestOf_2, s0_soonestOf_5, s0_soonestOf_6, s0_soonestOf_7, s0_soonestOf_9, s0_soonestOf_10, s0_soonestOf_14, s0_soonestOf_15, s0_soonestOf_18, s0_soonestOf_21, s0_soonestOf_22, s0_soonestOf_24, s0_soonestOf_25, s0_soonestOf_26, s0_soonestOf_27, s0_soonestOf_28, s0_soonestOf_31, s0_soonestOf_32, s0_soonestOf_33, s0_soonestOf_36, s0_soonestOf_37, s0_soonestOf_38, s0_soonestOf_40, s0_soonestOf_41, s0_soonestOf_42, s0_soonestOf_43, s0_soonestOf_44, s0_soonestOf_45, s0_soonestOf_48, s0_soonestOf_49, s0_soonestOf_52, s0_soonestOf_54, s0_soonestOf_55, s0_soonestOf_56, s0_soonestOf_58, s0_soonestOf_60, s0_soonestOf_63, s0_soonestOf_65, s0_soonestOf_68, s0_soonestOf_70, s0_soonestOf_72, s0_soonestOf_75, s0_soonestOf_77, s0_soonestOf_80, s0_soonestOf_83, s0_soonestOf_85, am_k1_int, am_k1_ref, am_k1_none, am_cats_nil, am_cats_int, am_cats_ref, am_cats_long, Option.toList_some, Option.toList_none, List.singleton_append, List.nil_append, List.cons_append, true_and, and_true, if_true, if_false, va_rf, ↓reduceIte, Nat.reduceAdd, Nat.reduceMul, Nat.reduceSub, Nat.reduceLT, Nat.reduceLeDiff, Nat.reduceEqDiff, Nat.zero_le, Nat.add_zero, Nat.le_refl, nI_add, mul_nI, lt_nI, le_nI, eq_nI, bnd_nI, ci_nI, decide_eq_true_eq, decide_true, decide_false, Bool.true_or, Bool.or_true, Bool.or_false, Bool.false_or, not_true_eq_false, not_false_eq_true, Bool.false_eq_true, Bool.false_and, Bool.true_and, Bool.and_true, Bool.and_false, Bool.not_true, Bool.not_false, false_and, and_false, and_self, ob_4, rf_4_1, rf_4_2, rf_4_3, rf_4_5, rf_4_6, rf_4_7, rf_4_8, ib_11, rd_11, ob_12, rf_12_1, rf_12_2, rf_12_3, rf_12_5, rf_12_6, rf_12_7, rf_12_8, ib_19, rd_19, ob_60, rf_60_2, rf_60_3, rf_60_4, rf_60_5, rf_60_6, ib_61, rd_61, h1, hcn, hc6, hb, hd, h0, shl_nI, Nat.one_mul, wo_nI, hw64, ht, cJ9_max, cJ9_min, b4] <;> exact ih _ (by omega)
      · simp only [am_sn1, hd, h0, if_true, if_false] at ih
        rcases id hT with rfl | rfl <;> simp only [Nat.reduceAdd] at b4 <;> simp (disch := omega) only [e0_soonestOf, s0_soonestOf_0, s0_soonestOf_1, s0_soonestOf_2, s0_soonestOf_5, s0_soonestOf_6, s0_soonestOf_7, s0_soonestOf_9, s0_soonestOf_10, s0_soonestOf_14, s0_soonestOf_15, s0_soonestOf_18, s0_soonestOf_21, s0_soonestOf_22, s0_soonestOf_24, s0_soonestOf_25, s0_soonestOf_26, s0_soonestOf_27, s0_soonestOf_28, s0_soonestOf_31, s0_soonestOf_32, s0_soonestOf_33, s0_soonestOf_36, s0_soonestOf_37, s0_soonestOf_38, s0_soonestOf_40, s0_soonestOf_41, s0_soonestOf_42, s0_soonestOf_43, s0_soonestOf_44, s0_soonestOf_45, s0_soonestOf_48, s0_soonestOf_49, s0_soonestOf_52, s0_soonestOf_54, s0_soonestOf_55, s0_soonestOf_56, s0_soonestOf_58, s0_soonestOf_60, s0_soonestOf_63, s0_soonestOf_65, s0_soonestOf_68, s0_soonestOf_70, s0_soonestOf_72, s0_soonestOf_75, s0_soonestOf_77, s0_soonestOf_80, s0_soonestOf_83, s0_soonestOf_85, am_k1_int, am_k1_ref, am_k1_none, am_cats_nil, am_cats_int, am_cats_ref, am_cats_long, Option.toList_some, Option.toList_none, List.singleton_append, List.nil_append, List.cons_append, true_and, and_true, if_true, if_false, va_rf, ↓reduceIte, Nat.reduceAdd, Nat.reduceMul, Nat.reduceSub, Nat.reduceLT, Nat.reduceLeDiff, Nat.reduceEqDiff, Nat.zero_le, Nat.add_zero, Nat.le_refl, nI_add, mul_nI, lt_nI, le_nI, eq_nI, bnd_nI, ci_nI, decide_eq_true_eq, decide_true, decide_false, Bool.true_or, Bool.or_true, Bool.or_false, Bool.false_or, not_true_eq_false, not_false_eq_true, Bool.false_eq_true, Bool.false_and, Bool.true_and, Bool.and_true, Bool.and_false, Bool.not_true, Bool.not_false, false_and, and_false, and_self, ob_4, rf_4_1, rf_4_2, rf_4_3, rf_4_5, rf_4_6, rf_4_7, rf_4_8, ib_11, rd_11, ob_12, rf_12_1, rf_12_2, rf_12_3, rf_12_5, rf_12_6, rf_12_7, rf_12_8, ib_19, rd_19, ob_60, rf_60_2, rf_60_3, rf_60_4, rf_60_5, rf_60_6, ib_61, rd_61, h1, hcn, hc6, hb, hd, h0, shl_nI, Nat.one_mul, wo_nI, hw64, ht, cJ9_max, cJ9_min, b4] <;> exact ih _ (by omega)
theorem c0_soonestOf {s : Nat} (hT : T = 4 ∨ T = 12) (hO : ar_told tn) (hA : ar_T T tn I) (h1 : I 60 1 = nI (tn 1)) (hs : s < 64) (htab : ∀ y, y < s → I 61 y = nI (am_soon tn y)) : am_call (d + 3) m0_soonestOf [.ref 60, .ref T, .int (nI s)] (am_sh n, I, J, am_Rf sw) Q ↔ Q (some (.int (nI (am_soon tn s)))) (am_sh n, I, J, am_Rf sw) := by
  have o2 := hO.2.1
  have hB : ∀ y, y < s → am_soon tn y ≤ 72 + 30 * (y + 1) := fun y hy => snT_le hO (y + 1) (by omega) y
  rw [soon_eq hO hs, ← l0_soonestOf (d := d + 1) (n := n) (J := J) (sw := sw) (Q := Q) hT hO hA h1 hs htab hB (tn 1) 0 none (by omega)]
  simp (disch := omega) only [e0_soonestOf, s0_soonestOf_0, s0_soonestOf_1, s0_soonestOf_2, s0_soonestOf_5, s0_soonestOf_6, s0_soonestOf_7, s0_soonestOf_9, s0_soonestOf_10, s0_soonestOf_14, s0_soonestOf_15, s0_soonestOf_18, s0_soonestOf_21, s0_soonestOf_22, s0_soonestOf_24, s0_soonestOf_25, s0_soonestOf_26, s0_soonestOf_27, s0_soonestOf_28, s0_soonestOf_31, s0_soonestOf_32, s0_soonestOf_33, s0_soonestOf_36, s0_soonestOf_37, s0_soonestOf_38, s0_soonestOf_40, s0_soonestOf_41, s0_soonestOf_42, s0_soonestOf_43, s0_soonestOf_44, s0_soonestOf_45, s0_soonestOf_48, s0_soonestOf_49, s0_soonestOf_52, s0_soonestOf_54, s0_soonestOf_55, s0_soonestOf_56, s0_soonestOf_58, s0_soonestOf_60, s0_soonestOf_63, s0_soonestOf_65, s0_soonestOf_68, s0_soonestOf_70, s0_soonestOf_72, s0_soonestOf_75, s0_soonestOf_77, s0_soonestOf_80, s0_soonestOf_83, s0_soonestOf_85, am_k1_int, am_k1_ref, am_k1_none, am_cats_nil, am_cats_int, am_cats_ref, am_cats_long, Option.toList_some, Option.toList_none, List.singleton_append, List.nil_append, List.cons_append, true_and, and_true, if_true, if_false, va_rf, ↓reduceIte, Nat.reduceAdd, Nat.reduceMul, Nat.reduceSub, Nat.reduceLT, Nat.reduceLeDiff, Nat.reduceEqDiff, Nat.zero_le, Nat.add_zero, Nat.le_refl, nI_add, mul_nI, lt_nI, le_nI, eq_nI, bnd_nI, ci_nI, decide_eq_true_eq, decide_true, decide_false, Bool.true_or, Bool.or_true, Bool.or_false, Bool.false_or, not_true_eq_false, not_false_eq_true, Bool.false_eq_true, Bool.false_and, Bool.true_and, Bool.and_true, Bool.and_false, Bool.not_true, Bool.not_false, false_and, and_false, and_self, ob_T hT, c5_needsOf hT o2 hA hs]
  rfl
end
