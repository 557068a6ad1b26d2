theorem ws_congr {G H : Nat → Nat} {n y : Nat} (hy : y ≤ 12) (h : ∀ y', y' ≤ 12 → G (5 * y' + n - 1) = H (5 * y' + n - 1)) : ∀ j, aw_ws G n y j = aw_ws H n y j
  | 0 => rfl
  | j + 1 => by
    simp only [aw_ws]
    rw [ws_congr hy h j, h (y - (j + 1)) (by omega)]
theorem gy_pt {n Y : Nat} (hn : 1 ≤ n) (hn4 : n ≤ 4) : ∀ (m : Nat) (G : Nat → Nat) (y q : Nat), m ≤ 12 → y ≤ 12 → q ≤ 4 → aw_gy G n Y m (5 * y + q) = if q = n ∧ 1 ≤ y ∧ y ≤ m then G (5 * y + q) + aw_ws G n y (min y Y) else G (5 * y + q)
  | 0, G, y, q, hm, hy, hq => by
    rw [if_neg (by omega)]
    rfl
  | m + 1, G, y, q, hm, hy, hq => by
    show aw_gy (am_uj G (5 * (m + 1) + n) (G (5 * (m + 1) + n) + aw_ws G n (m + 1) (min (m + 1) Y))) n Y m (5 * y + q) = _
    rw [gy_pt hn hn4 m _ y q (by omega) hy hq]
    by_cases h1 : q = n ∧ 1 ≤ y ∧ y ≤ m
    · rw [if_pos h1, if_pos (by omega), uj_n (by omega), ws_uj (by omega) hn hn4]
    · rw [if_neg h1]
      by_cases h2 : q = n ∧ y = m + 1
      · obtain ⟨rfl, rfl⟩ := h2
        rw [uj_s, if_pos (by omega)]
      · rw [uj_n (by omega), if_neg (by omega)]
theorem gq_pt {Y : Nat} : ∀ (N : Nat) (G : Nat → Nat) (y q : Nat), N ≤ 4 → y ≤ 12 → q ≤ 4 → aw_gq G Y N (5 * y + q) = if 1 ≤ q ∧ q ≤ N ∧ 1 ≤ y then G (5 * y + q) + aw_ws G q y (min y Y) else G (5 * y + q)
  | 0, G, y, q, hN, hy, hq => by
    rw [if_neg (by omega)]
    rfl
  | N + 1, G, y, q, hN, hy, hq => by
    show aw_gq (aw_gy G (N + 1) Y 12) Y N (5 * y + q) = _
    rw [gq_pt N _ y q (by omega) hy hq]
    have hp := fun y' (h : y' ≤ 12) q' (h' : q' ≤ 4) => gy_pt (n := N + 1) (Y := Y) (by omega) hN 12 G y' q' (by omega) h h'
    by_cases h1 : 1 ≤ q ∧ q ≤ N ∧ 1 ≤ y
    · rw [if_pos h1, if_pos (by omega), hp y hy q hq, if_neg (by omega)]
      congr 1
      refine ws_congr hy (fun y' hy' => ?_) _
      have := hp y' hy' (q - 1) (by omega)
      rw [if_neg (by omega)] at this
      rw [show 5 * y' + q - 1 = 5 * y' + (q - 1) by omega]
      exact this
    · rw [if_neg h1, hp y hy q hq]
      by_cases h2 : q = N + 1 ∧ 1 ≤ y
      · obtain ⟨rfl, h3⟩ := h2
        rw [if_pos (by omega), if_pos (by omega)]
      · rw [if_neg (by omega), if_neg (by omega)]
theorem ws_S {G : Nat → Nat} {f : Nat → Nat → Nat} {q y : Nat} (hy : y ≤ 12) (h : ∀ y', y' ≤ 12 → G (5 * y' + q) = f q y') : ∀ j, j ≤ y → aw_ws G (q + 1) y j = aw_S f q y j
  | 0, _ => rfl
  | j + 1, hj => by
    simp only [aw_ws, aw_S]
    rw [ws_S hy h j (by omega), if_pos hj, show 5 * (y - (j + 1)) + (q + 1) - 1 = 5 * (y - (j + 1)) + q by omega, h _ (by omega)]
def aw_i (k : Nat) : Nat := if k = 0 then 1 else 0
def aw_H (s : Nat → Bool) (Y : Nat → Nat) : Nat → (Nat → Nat)
  | 0 => aw_i
  | e + 1 => if s e = true then aw_gq (aw_H s Y e) (Y e) 4 else aw_H s Y e
theorem H_R {s : Nat → Bool} {Y : Nat → Nat} : ∀ (e y q : Nat), y ≤ 12 → q ≤ 4 → aw_H s Y e (5 * y + q) = aw_R s Y aw_0 0 e q y
  | 0, y, q, hy, hq => by
    show aw_i (5 * y + q) = aw_0 q y
    unfold aw_i aw_0
    by_cases h : q = 0 ∧ y = 0
    · rw [if_pos h, if_pos (by omega)]
    · rw [if_neg h, if_neg (by omega)]
  | e + 1, y, q, hy, hq => by
    rw [aw_R_fw]
    have ih := fun y' (h : y' ≤ 12) q' (h' : q' ≤ 4) => H_R (s := s) (Y := Y) e y' q' h h'
    show (if s e = true then aw_gq (aw_H s Y e) (Y e) 4 else aw_H s Y e) (5 * y + q) = _
    by_cases hs : s e = true
    · rw [if_pos hs, gq_pt 4 _ y q (by omega) hy hq]
      match q with
      | 0 =>
        rw [if_neg (by omega), ih y hy 0 (by omega)]
        rfl
      | q + 1 =>
        show _ = aw_R s Y aw_0 0 e (q + 1) y + if s e = true then aw_S (aw_R s Y aw_0 0 e) q y (Y e) else 0
        rw [if_pos hs, aw_S_mn, Nat.min_comm]
        by_cases h0 : 1 ≤ y
        · rw [if_pos (by omega), ih y hy (q + 1) hq, ws_S hy (fun y' h => ih y' h q (by omega)) _ (by omega)]
        · obtain rfl : y = 0 := by omega
          rw [if_neg (by omega), ih 0 hy (q + 1) hq, show min (Y e) 0 = 0 by omega]
          rfl
    · rw [if_neg hs, ih y hy q hq]
      match q with
      | 0 => rfl
      | q + 1 =>
        show _ = aw_R s Y aw_0 0 e (q + 1) y + if s e = true then aw_S (aw_R s Y aw_0 0 e) q y (Y e) else 0
        rw [if_neg hs]
        omega
section
variable {n d T c pp : Nat} {tn : Nat → Nat} {I : Nat → Nat → Int32} {J : Nat → Nat → Int64} {sw : Bool} {Q : am_Post}
theorem l7_waysD (hc : c < 6) (hO : ar_told tn) (hA : ar_T T tn I) : ∀ (r e : Nat) (l4 l5 l6 : Option Value), e + r = tn 0 → ∃ l4' l5' l6', (am_wp (d + 1) m7_ways 50 [some (.ref 77), some (.int (nI c)), some (.int (nI pp)), some (.int (nI e)), l4, l5, l6] [] (am_sh n, am_mk I (aw_H (fun e => am_suN tn e c) (fun e => tn (6 + e)) e), J, am_Rf sw) Q ↔ am_wp (d + 1) m7_ways 166 [some (.ref 77), some (.int (nI c)), some (.int (nI pp)), some (.int (nI (tn 0))), l4', l5', l6'] [] (am_sh n, am_mk I (aw_H (fun e => am_suN tn e c) (fun e => tn (6 + e)) (tn 0)), J, am_Rf sw) Q)
  | 0, e, l4, l5, l6, hm => by
    have o1 := hO.1
    have t0 := hA.1 0 (by omega)
    obtain rfl : e = tn 0 := by omega
    refine ⟨l4, l5, l6, ?_⟩
    rw [s7_ways_50]
    simp (disch := omega) only [s7_ways_51, s7_ways_52, s7_ways_55, s7_ways_56, s7_ways_57, am_k1_int, am_k1_ref, am_k1_none, am_cats_nil, am_cats_int, am_cats_ref, am_cats_long, Option.toList_some, Option.toList_none, List.singleton_append, List.nil_append, List.cons_append, true_and, and_true, if_true, if_false, va_rf, ↓reduceIte, Nat.reduceAdd, Nat.reduceMul, Nat.reduceSub, Nat.reduceLT, Nat.reduceLeDiff, Nat.reduceEqDiff, Nat.zero_le, Nat.add_zero, Nat.le_refl, nI_add, mul_nI, lt_nI, le_nI, eq_nI, bnd_nI, ci_nI, decide_eq_true_eq, decide_true, decide_false, Bool.true_or, Bool.or_true, Bool.or_false, Bool.false_or, not_true_eq_false, not_false_eq_true, Bool.false_eq_true, Bool.false_and, Bool.true_and, Bool.and_true, Bool.and_false, Bool.not_true, Bool.not_false, false_and, and_false, and_self, ob_77, rf_77_1, rf_77_3, rf_77_4, rf_77_5, rf_77_6, rf_77_8, rf_77_9, rf_77_10, rf_77_16, rf_77_17, rf_77_18, rf_77_19, rf_77_20, ib_78, rd_78, ib_79, rd_79, ib_80, rd_80, ib_81, rd_81, ib_82, rd_82, ib_83, rd_83, ib_84, ib_85, rd_85, ib_86, rd_86, ib_87, rd_87, ib_88, ib_89, rd_89, ib_90, rd_90, mk_ne, t0]
  | r + 1, e, l4, l5, l6, hm => by
    have o1 := hO.1
    have t0 := hA.1 0 (by omega)
    have he : e < 4 := by omega
    have h1 : ¬ tn 0 ≤ e := by omega
    have t6 := hA.1 (6 + e) (by omega)
    have v6 := (hO.2.2.2.2.1 e he).1
    have hsu := su_M hO hA hc he
    cases hs : am_suN tn e c with
    | true =>
      obtain ⟨l5a, l6a, hN⟩ := l7_waysN (d := d) (n := n) (J := J) (sw := sw) (Q := Q) (pp := pp) hc hO hA hs he t6 v6 4 (aw_H (fun e => am_suN tn e c) (fun e => tn (6 + e)) e) l5 l6 (by omega)
      obtain ⟨l4', l5', l6', ih⟩ := l7_waysD hc hO hA r (e + 1) (some (.int (nI 0))) l5a l6a (by omega)
      refine ⟨l4', l5', l6', ?_⟩
      rw [show aw_H (fun e => am_suN tn e c) (fun e => tn (6 + e)) (e + 1) = aw_gq (aw_H (fun e => am_suN tn e c) (fun e => tn (6 + e)) e) (tn (6 + e)) 4 from if_pos hs] at ih
      rw [← ih, s7_ways_50]
      simp (disch := omega) only [s7_ways_51, s7_ways_52, s7_ways_55, s7_ways_56, s7_ways_57, s7_ways_60, s7_ways_61, s7_ways_160, s7_ways_163, am_k1_int, am_k1_ref, am_k1_none, am_cats_nil, am_cats_int, am_cats_ref, am_cats_long, Option.toList_some, Option.toList_none, List.singleton_append, List.nil_append, List.cons_append, true_and, and_true, if_true, if_false, va_rf, ↓reduceIte, Nat.reduceAdd, Nat.reduceMul, Nat.reduceSub, Nat.reduceLT, Nat.reduceLeDiff, Nat.reduceEqDiff, Nat.zero_le, Nat.add_zero, Nat.le_refl, nI_add, mul_nI, lt_nI, le_nI, eq_nI, bnd_nI, ci_nI, decide_eq_true_eq, decide_true, decide_false, Bool.true_or, Bool.or_true, Bool.or_false, Bool.false_or, not_true_eq_false, not_false_eq_true, Bool.false_eq_true, Bool.false_and, Bool.true_and, Bool.and_true, Bool.and_false, Bool.not_true, Bool.not_false, false_and, and_false, and_self, ob_77, rf_77_1, rf_77_3, rf_77_4, rf_77_5, rf_77_6, rf_77_8, rf_77_9, rf_77_10, rf_77_16, rf_77_17, rf_77_18, rf_77_19, rf_77_20, ib_78, rd_78, ib_79, rd_79, ib_80, rd_80, ib_81, rd_81, ib_82, rd_82, ib_83, rd_83, ib_84, ib_85, rd_85, ib_86, rd_86, ib_87, rd_87, ib_88, ib_89, rd_89, ib_90, rd_90, mk_ne, t0, h1, hN]
    | false =>
      rw [hs] at hsu
      obtain ⟨l4', l5', l6', ih⟩ := l7_waysD hc hO hA r (e + 1) (some (.int (nI 4))) l5 l6 (by omega)
      refine ⟨l4', l5', l6', ?_⟩
      rw [show aw_H (fun e => am_suN tn e c) (fun e => tn (6 + e)) (e + 1) = aw_H (fun e => am_suN tn e c) (fun e => tn (6 + e)) e from if_neg (by simp [hs])] at ih
      rw [← ih, s7_ways_50]
      simp (disch := omega) only [s7_ways_51, s7_ways_52, s7_ways_55, s7_ways_56, s7_ways_57, s7_ways_60, s7_ways_61, s7_ways_63, s7_ways_65, s7_ways_68, s7_ways_69, s7_ways_70, s7_ways_71, s7_ways_74, s7_ways_160, s7_ways_163, am_k1_int, am_k1_ref, am_k1_none, am_cats_nil, am_cats_int, am_cats_ref, am_cats_long, Option.toList_some, Option.toList_none, List.singleton_append, List.nil_append, List.cons_append, true_and, and_true, if_true, if_false, va_rf, ↓reduceIte, Nat.reduceAdd, Nat.reduceMul, Nat.reduceSub, Nat.reduceLT, Nat.reduceLeDiff, Nat.reduceEqDiff, Nat.zero_le, Nat.add_zero, Nat.le_refl, nI_add, mul_nI, lt_nI, le_nI, eq_nI, bnd_nI, ci_nI, decide_eq_true_eq, decide_true, decide_false, Bool.true_or, Bool.or_true, Bool.or_false, Bool.false_or, not_true_eq_false, not_false_eq_true, Bool.false_eq_true, Bool.false_and, Bool.true_and, Bool.and_true, Bool.and_false, Bool.not_true, Bool.not_false, false_and, and_false, and_self, ob_77, rf_77_1, rf_77_3, rf_77_4, rf_77_5, rf_77_6, rf_77_8, rf_77_9, rf_77_10, rf_77_16, rf_77_17, rf_77_18, rf_77_19, rf_77_20, ib_78, rd_78, ib_79, rd_79, ib_80, rd_80, ib_81, rd_81, ib_82, rd_82, ib_83, rd_83, ib_84, ib_85, rd_85, ib_86, rd_86, ib_87, rd_87, ib_88, ib_89, rd_89, ib_90, rd_90, mk_ne, t0, h1, c7_suits he hc, hsu, bi_t, bi_f, ite_bi2]
def am_mk0 (I : Nat → Nat → Int32) (k : Nat) : Nat → Nat → Int32 := am_row I 90 (fun j => if j < k then nI (aw_i j) else I 90 j)
theorem l7_waysI : ∀ (r k : Nat), k + r = 65 → (am_wp d m7_ways 21 [some (.ref 77), some (.int (nI c)), some (.int (nI pp)), some (.int (nI k)), none, none, none] [] (am_sh n, am_mk0 I k, J, am_Rf sw) Q ↔ am_wp d m7_ways 48 [some (.ref 77), some (.int (nI c)), some (.int (nI pp)), some (.int (nI 65)), none, none, none] [] (am_sh n, am_mk0 I 65, J, am_Rf sw) Q)
  | 0, k, hm => by
    obtain rfl : k = 65 := by omega
    rw [s7_ways_21]
    simp (disch := omega) only [s7_ways_22, s7_ways_24, am_k1_int, am_k1_ref, am_k1_none, am_cats_nil, am_cats_int, am_cats_ref, am_cats_long, Option.toList_some, Option.toList_none, List.singleton_append, List.nil_append, List.cons_append, true_and, and_true, if_true, if_false, va_rf, ↓reduceIte, Nat.reduceAdd, Nat.reduceMul, Nat.reduceSub, Nat.reduceLT, Nat.reduceLeDiff, Nat.reduceEqDiff, Nat.zero_le, Nat.add_zero, Nat.le_refl, nI_add, mul_nI, lt_nI, le_nI, eq_nI, bnd_nI, ci_nI, decide_eq_true_eq, decide_true, decide_false, Bool.true_or, Bool.or_true, Bool.or_false, Bool.false_or, not_true_eq_false, not_false_eq_true, Bool.false_eq_true, Bool.false_and, Bool.true_and, Bool.and_true, Bool.and_false, Bool.not_true, Bool.not_false, false_and, and_false, and_self]
  | r + 1, k, hm => by
    have ih := l7_waysI r (k + 1) (by omega)
    have h1 : ¬ 65 ≤ k := by omega
    have h2 : k < 65 := by omega
    have z : (0 : Nat) < 90 := by decide
    have hup : am_up (am_mk0 I k) 90 k (nI (aw_i k)) = am_mk0 I (k + 1) := by
      funext a j
      unfold am_mk0 am_row am_up
      by_cases ha : a = 90
      · subst ha
        by_cases hj : j = k
        · subst hj; simp
        · by_cases h3 : j < k
          · simp [hj, h3, show j < k + 1 by omega]
          · simp [hj, h3, show ¬ j < k + 1 by omega]
      · simp [ha]
    rw [s7_ways_21, ← ih, ← hup]
    unfold aw_i
    by_cases h0 : k = 0
    · subst h0
      simp (disch := omega) only [s7_ways_22, s7_ways_24, s7_ways_27, s7_ways_28, s7_ways_31, s7_ways_32, s7_ways_33, s7_ways_36, s7_ways_37, s7_ways_40, s7_ways_41, s7_ways_42, s7_ways_45, am_k1_int, am_k1_ref, am_k1_none, am_cats_nil, am_cats_int, am_cats_ref, am_cats_long, Option.toList_some, Option.toList_none, List.singleton_append, List.nil_append, List.cons_append, true_and, and_true, if_true, if_false, va_rf, ↓reduceIte, Nat.reduceAdd, Nat.reduceMul, Nat.reduceSub, Nat.reduceLT, Nat.reduceLeDiff, Nat.reduceEqDiff, Nat.zero_le, Nat.add_zero, Nat.le_refl, nI_add, mul_nI, lt_nI, le_nI, eq_nI, bnd_nI, ci_nI, decide_eq_true_eq, decide_true, decide_false, Bool.true_or, Bool.or_true, Bool.or_false, Bool.false_or, not_true_eq_false, not_false_eq_true, Bool.false_eq_true, Bool.false_and, Bool.true_and, Bool.and_true, Bool.and_false, Bool.not_true, Bool.not_false, false_and, and_false, and_self, ob_77, rf_77_1, rf_77_3, rf_77_4, rf_77_5, rf_77_6, rf_77_8, rf_77_9, rf_77_10, rf_77_16, rf_77_17, rf_77_18, rf_77_19, rf_77_20, ib_78, rd_78, ib_79, rd_79, ib_80, rd_80, ib_81, rd_81, ib_82, rd_82, ib_83, rd_83, ib_84, ib_85, rd_85, ib_86, rd_86, ib_87, rd_87, ib_88, ib_89, rd_89, ib_90, rd_90, z]
    · simp (disch := omega) only [s7_ways_22, s7_ways_24, s7_ways_27, s7_ways_28, s7_ways_31, s7_ways_32, s7_ways_33, s7_ways_36, s7_ways_37, s7_ways_40, s7_ways_41, s7_ways_42, s7_ways_45, am_k1_int, am_k1_ref, am_k1_none, am_cats_nil, am_cats_int, am_cats_ref, am_cats_long, Option.toList_some, Option.toList_none, List.singleton_append, List.nil_append, List.cons_append, true_and, and_true, if_true, if_false, va_rf, ↓reduceIte, Nat.reduceAdd, Nat.reduceMul, Nat.reduceSub, Nat.reduceLT, Nat.reduceLeDiff, Nat.reduceEqDiff, Nat.zero_le, Nat.add_zero, Nat.le_refl, nI_add, mul_nI, lt_nI, le_nI, eq_nI, bnd_nI, ci_nI, decide_eq_true_eq, decide_true, decide_false, Bool.true_or, Bool.or_true, Bool.or_false, Bool.false_or, not_true_eq_false, not_false_eq_true, Bool.false_eq_true, Bool.false_and, Bool.true_and, Bool.and_true, Bool.and_false, Bool.not_true, Bool.not_false, false_and, and_false, and_self, ob_77, rf_77_1, rf_77_3, rf_77_4, rf_77_5, rf_77_6, rf_77_8, rf_77_9, rf_77_10, rf_77_16, rf_77_17, rf_77_18, rf_77_19, rf_77_20, ib_78, rd_78, ib_79, rd_79, ib_80, rd_80, ib_81, rd_81, ib_82, rd_82, ib_83, rd_83, ib_84, ib_85, rd_85, ib_86, rd_86, ib_87, rd_87, ib_88, ib_89, rd_89, ib_90, rd_90, z, h0, h1, h2]
end
section
variable {n d : Nat} {x y z : Int32}
set_option maxHeartbeats 4000000 in
theorem p_ways : am_pr n (d + 8) m6_ways m7_ways [.ref 1, .int x, .int y] [.ref 77, .int x, .int y] := by
  intro sw I J hR
  obtain ⟨T, tn, sn, pn, im, tx, fm, fi, nx, m, ln, pm, hT, hO, hA, hS, hP, hI, hX, hF, hC, hJ⟩ := id hR
  obtain ⟨a1, a2, a3, a4, a5, a6, a7⟩ := id hA
  have o1 := hO.1
  have o2 := hO.2.1
  cases hb : am_bnd x (tn 1) with
  | false =>
    simp (disch := omega) only [e6_ways, s6_ways_0, s6_ways_1, s6_ways_2, s6_ways_5, s6_ways_17, s6_ways_18, e7_ways, s7_ways_0, s7_ways_1, s7_ways_2, s7_ways_5, s7_ways_17, s7_ways_18, am_k1_int, am_k1_ref, am_k1_none, am_cats_nil, am_cats_int, am_cats_ref, am_cats_long, Option.toList_some, Option.toList_none, List.singleton_append, List.nil_append, List.cons_append, true_and, and_true, if_true, if_false, va_rf, ↓reduceIte, Nat.reduceAdd, Nat.reduceMul, Nat.reduceSub, Nat.reduceLT, Nat.reduceLeDiff, Nat.reduceEqDiff, Nat.zero_le, Nat.add_zero, Nat.le_refl, nI_add, mul_nI, lt_nI, le_nI, eq_nI, bnd_nI, ci_nI, decide_eq_true_eq, decide_true, decide_false, Bool.true_or, Bool.or_true, Bool.or_false, Bool.false_or, not_true_eq_false, not_false_eq_true, Bool.false_eq_true, Bool.false_and, Bool.true_and, Bool.and_true, Bool.and_false, Bool.not_true, Bool.not_false, false_and, and_false, and_self, ob_1, rf_1_0, rf_1_1, rf_1_2, rf_1_3, rf_1_4, rf_1_5, rf_1_6, rf_1_7, rf_1_8, ob_2, rf_2_0, ib_3, rd_3, ob_4, rf_4_1, rf_4_2, rf_4_3, rf_4_5, rf_4_6, rf_4_7, rf_4_8, ib_5, rd_5, ib_6, rd_6, ib_7, rd_7, ib_8, rd_8, ib_9, rd_9, ib_10, rd_10, ib_11, rd_11, ob_12, rf_12_1, rf_12_2, rf_12_3, rf_12_5, rf_12_6, rf_12_7, rf_12_8, ib_13, rd_13, ib_14, rd_14, ib_15, rd_15, ib_16, rd_16, ib_17, rd_17, ib_18, rd_18, ib_19, rd_19, ob_20, rf_20_3, rf_20_4, ib_21, rd_21, ib_22, rd_22, ob_23, rf_23_0, ib_24, ix_24, rf_24_0, rf_24_1, rf_24_2, rf_24_3, rf_24_4, rf_24_5, rf_24_6, rf_24_7, rf_24_8, rf_24_9, ib_55, ix_55, rf_55_0, rf_55_1, ib_56, ob_57, rf_57_0, rf_57_1, ib_58, rd_58, ib_59, ob_60, rf_60_2, rf_60_3, rf_60_4, rf_60_5, rf_60_6, ib_61, rd_61, ib_62, ib_63, ix_63, rf_63_0, rf_63_1, rf_63_2, rf_63_3, rf_63_4, ob_77, rf_77_1, rf_77_3, rf_77_4, rf_77_5, rf_77_6, rf_77_8, rf_77_9, rf_77_10, rf_77_16, rf_77_17, rf_77_18, rf_77_19, rf_77_20, ib_78, rd_78, ib_79, rd_79, ib_80, rd_80, ib_81, rd_81, ib_82, rd_82, ib_83, rd_83, ib_84, ib_85, rd_85, ib_86, rd_86, ib_87, rd_87, ib_88, ib_89, rd_89, ib_90, rd_90, c6_isClient hT a3 o2, c7_isClient (a1 1 (by omega)) o2, hb, bi_t, bi_f, ite_bi2]
    exact ⟨⟨_, rfl⟩, sw, I, J, rfl, fun _ => rfl, hR⟩
  | true =>
  cases hb2 : am_bnd y 4 with
  | false =>
    simp (disch := omega) only [e6_ways, s6_ways_0, s6_ways_1, s6_ways_2, s6_ways_5, s6_ways_8, s6_ways_9, s6_ways_12, s6_ways_13, s6_ways_14, s6_ways_17, s6_ways_18, e7_ways, s7_ways_0, s7_ways_1, s7_ways_2, s7_ways_5, s7_ways_8, s7_ways_9, s7_ways_10, s7_ways_11, s7_ways_14, s7_ways_17, s7_ways_18, am_k1_int, am_k1_ref, am_k1_none, am_cats_nil, am_cats_int, am_cats_ref, am_cats_long, Option.toList_some, Option.toList_none, List.singleton_append, List.nil_append, List.cons_append, true_and, and_true, if_true, if_false, va_rf, ↓reduceIte, Nat.reduceAdd, Nat.reduceMul, Nat.reduceSub, Nat.reduceLT, Nat.reduceLeDiff, Nat.reduceEqDiff, Nat.zero_le, Nat.add_zero, Nat.le_refl, nI_add, mul_nI, lt_nI, le_nI, eq_nI, bnd_nI, ci_nI, decide_eq_true_eq, decide_true, decide_false, Bool.true_or, Bool.or_true, Bool.or_false, Bool.false_or, not_true_eq_false, not_false_eq_true, Bool.false_eq_true, Bool.false_and, Bool.true_and, Bool.and_true, Bool.and_false, Bool.not_true, Bool.not_false, false_and, and_false, and_self, ob_1, rf_1_0, rf_1_1, rf_1_2, rf_1_3, rf_1_4, rf_1_5, rf_1_6, rf_1_7, rf_1_8, ob_2, rf_2_0, ib_3, rd_3, ob_4, rf_4_1, rf_4_2, rf_4_3, rf_4_5, rf_4_6, rf_4_7, rf_4_8, ib_5, rd_5, ib_6, rd_6, ib_7, rd_7, ib_8, rd_8, ib_9, rd_9, ib_10, rd_10, ib_11, rd_11, ob_12, rf_12_1, rf_12_2, rf_12_3, rf_12_5, rf_12_6, rf_12_7, rf_12_8, ib_13, rd_13, ib_14, rd_14, ib_15, rd_15, ib_16, rd_16, ib_17, rd_17, ib_18, rd_18, ib_19, rd_19, ob_20, rf_20_3, rf_20_4, ib_21, rd_21, ib_22, rd_22, ob_23, rf_23_0, ib_24, ix_24, rf_24_0, rf_24_1, rf_24_2, rf_24_3, rf_24_4, rf_24_5, rf_24_6, rf_24_7, rf_24_8, rf_24_9, ib_55, ix_55, rf_55_0, rf_55_1, ib_56, ob_57, rf_57_0, rf_57_1, ib_58, rd_58, ib_59, ob_60, rf_60_2, rf_60_3, rf_60_4, rf_60_5, rf_60_6, ib_61, rd_61, ib_62, ib_63, ix_63, rf_63_0, rf_63_1, rf_63_2, rf_63_3, rf_63_4, ob_77, rf_77_1, rf_77_3, rf_77_4, rf_77_5, rf_77_6, rf_77_8, rf_77_9, rf_77_10, rf_77_16, rf_77_17, rf_77_18, rf_77_19, rf_77_20, ib_78, rd_78, ib_79, rd_79, ib_80, rd_80, ib_81, rd_81, ib_82, rd_82, ib_83, rd_83, ib_84, ib_85, rd_85, ib_86, rd_86, ib_87, rd_87, ib_88, ib_89, rd_89, ib_90, rd_90, c6_isClient hT a3 o2, c7_isClient (a1 1 (by omega)) o2, hb, c7_in, bnd_in2, ite_bnd2, hb2, bi_ret, bi_t, bi_f, ite_bi2]
    exact ⟨⟨_, rfl⟩, sw, I, J, rfl, fun _ => rfl, hR⟩
  | true =>
  obtain ⟨c, hc, rfl⟩ := bnd_of hb (by omega)
  obtain ⟨p, hp, rfl⟩ := bnd_of hb2 (by omega)
  have hc6 : c < 6 := by omega
  have gp0 : ¬ p < 0 := by omega
  have gp3 : p ≤ 3 := by omega
  have b2 := (a7 c hc).2.1
  have t24 := a1 (24 + c) (by omega)
  have q24 : 24 + c < 42 := by omega
  have v24 := (hO.2.2.2.2.2.2.1 c hc6).2.1
  obtain ⟨N, hN⟩ : ∃ N, N = aw_R (fun e => am_suN tn e c) (fun e => tn (6 + e)) aw_0 0 (tn 0) (p + 1) (tn (24 + c)) := ⟨_, rfl⟩
  have hw : ∀ Q, am_call (d + 7) m6_waysFrom [.ref 1, .int (nI 0), .int (nI c), .int (nI (p + 1)), .int (nI (tn (24 + c)))] (am_sh n, I, J, am_Rf sw) Q ↔ Q (some (.int (nI N))) (am_sh n, I, J, am_Rf sw) := by
    intro Q
    have h := c6_waysFrom (n := n) (J := J) (d := d + 5 - tn 0) hT hO hA hc (tn 0) 0 (p + 1) (tn (24 + c)) Q (by omega) (by omega) v24
    rw [show d + 5 - tn 0 + tn 0 + 2 = d + 7 by omega, ← hN] at h
    exact h
  have key : am_call (d + 8) m6_ways [.ref 1, .int (nI c), .int (nI p)] (am_sh n, I, J, am_Rf sw) (fun v M1 => v = some (.int (nI N)) ∧ M1 = (am_sh n, I, J, am_Rf sw)) := by
    rcases id hT with ⟨rfl, rfl⟩ | ⟨rfl, rfl⟩ <;> simp only [Nat.reduceAdd] at b2 <;> simp (disch := omega) only [e6_ways, s6_ways_0, s6_ways_1, s6_ways_2, s6_ways_5, s6_ways_8, s6_ways_9, s6_ways_12, s6_ways_13, s6_ways_14, s6_ways_17, s6_ways_18, s6_ways_19, s6_ways_20, s6_ways_21, s6_ways_22, s6_ways_23, s6_ways_24, s6_ways_25, s6_ways_26, s6_ways_29, s6_ways_32, s6_ways_33, s6_ways_34, s6_ways_37, am_k1_int, am_k1_ref, am_k1_none, am_cats_nil, am_cats_int, am_cats_ref, am_cats_long, Option.toList_some, Option.toList_none, List.singleton_append, List.nil_append, List.cons_append, true_and, and_true, if_true, if_false, va_rf, ↓reduceIte, Nat.reduceAdd, Nat.reduceMul, Nat.reduceSub, Nat.reduceLT, Nat.reduceLeDiff, Nat.reduceEqDiff, Nat.zero_le, Nat.add_zero, Nat.le_refl, nI_add, mul_nI, lt_nI, le_nI, eq_nI, bnd_nI, ci_nI, decide_eq_true_eq, decide_true, decide_false, Bool.true_or, Bool.or_true, Bool.or_false, Bool.false_or, not_true_eq_false, not_false_eq_true, Bool.false_eq_true, Bool.false_and, Bool.true_and, Bool.and_true, Bool.and_false, Bool.not_true, Bool.not_false, false_and, and_false, and_self, ob_1, rf_1_0, rf_1_1, rf_1_2, rf_1_3, rf_1_4, rf_1_5, rf_1_6, rf_1_7, rf_1_8, ob_2, rf_2_0, ib_3, rd_3, ob_4, rf_4_1, rf_4_2, rf_4_3, rf_4_5, rf_4_6, rf_4_7, rf_4_8, ib_5, rd_5, ib_6, rd_6, ib_7, rd_7, ib_8, rd_8, ib_9, rd_9, ib_10, rd_10, ib_11, rd_11, ob_12, rf_12_1, rf_12_2, rf_12_3, rf_12_5, rf_12_6, rf_12_7, rf_12_8, ib_13, rd_13, ib_14, rd_14, ib_15, rd_15, ib_16, rd_16, ib_17, rd_17, ib_18, rd_18, ib_19, rd_19, ob_20, rf_20_3, rf_20_4, ib_21, rd_21, ib_22, rd_22, ob_23, rf_23_0, ib_24, ix_24, rf_24_0, rf_24_1, rf_24_2, rf_24_3, rf_24_4, rf_24_5, rf_24_6, rf_24_7, rf_24_8, rf_24_9, ib_55, ix_55, rf_55_0, rf_55_1, ib_56, ob_57, rf_57_0, rf_57_1, ib_58, rd_58, ib_59, ob_60, rf_60_2, rf_60_3, rf_60_4, rf_60_5, rf_60_6, ib_61, rd_61, ib_62, ib_63, ix_63, rf_63_0, rf_63_1, rf_63_2, rf_63_3, rf_63_4, tb_t, tb_f, c6_isClient hT a3 o2, hb, hc, hc6, gp0, gp3, b2, hw, bi_t, bi_f, ite_bi2]
  refine am_call_mono _ _ _ _ _ _ ?_ key
  rintro v M1 ⟨rfl, rfl⟩
  have hmod : am_call (d + 8) m7_ways [.ref 77, .int (nI c), .int (nI p)] (am_sh n, I, J, am_Rf sw) (fun v M1 => v = some (.int (nI N)) ∧ M1 = (am_sh n, am_mk I (aw_H (fun e => am_suN tn e c) (fun e => tn (6 + e)) (tn 0)), J, am_Rf sw)) := by
    have hi := fun Q => l7_waysI (d := d + 7) (n := n) (c := c) (pp := p) (I := I) (J := J) (sw := sw) (Q := Q) 65 0 (by omega)
    have e0 : am_mk0 I 0 = I := by
      funext a j
      unfold am_mk0 am_row
      by_cases ha : a = 90
      · subst ha; simp
      · simp [ha]
    have e65 : am_mk0 I 65 = am_mk I (aw_H (fun e => am_suN tn e c) (fun e => tn (6 + e)) 0) := rfl
    rw [e0, e65] at hi
    obtain ⟨l4', l5', l6', hD⟩ := l7_waysD (d := d + 6) (n := n) (c := c) (pp := p) (J := J) (sw := sw) (Q := fun v M1 => v = some (.int (nI N)) ∧ M1 = (am_sh n, am_mk I (aw_H (fun e => am_suN tn e c) (fun e => tn (6 + e)) (tn 0)), J, am_Rf sw)) hc6 hO hA (tn 0) 0 none none none (by omega)
    have hv : aw_H (fun e => am_suN tn e c) (fun e => tn (6 + e)) (tn 0) (5 * tn (24 + c) + p + 1) = N := by
      rw [hN, ← H_R (tn 0) (tn (24 + c)) (p + 1) v24 (by omega)]
      rfl
    have k65 : 5 * tn (24 + c) + p + 1 < 65 := by omega
    simp (disch := omega) only [e7_ways, s7_ways_0, s7_ways_1, s7_ways_2, s7_ways_5, s7_ways_8, s7_ways_9, s7_ways_10, s7_ways_11, s7_ways_14, s7_ways_19, s7_ways_20, am_k1_int, am_k1_ref, am_k1_none, am_cats_nil, am_cats_int, am_cats_ref, am_cats_long, Option.toList_some, Option.toList_none, List.singleton_append, List.nil_append, List.cons_append, true_and, and_true, if_true, if_false, va_rf, ↓reduceIte, Nat.reduceAdd, Nat.reduceMul, Nat.reduceSub, Nat.reduceLT, Nat.reduceLeDiff, Nat.reduceEqDiff, Nat.zero_le, Nat.add_zero, Nat.le_refl, nI_add, mul_nI, lt_nI, le_nI, eq_nI, bnd_nI, ci_nI, decide_eq_true_eq, decide_true, decide_false, Bool.true_or, Bool.or_true, Bool.or_false, Bool.false_or, not_true_eq_false, not_false_eq_true, Bool.false_eq_true, Bool.false_and, Bool.true_and, Bool.and_true, Bool.and_false, Bool.not_true, Bool.not_false, false_and, and_false, and_self, ob_77, rf_77_1, rf_77_3, rf_77_4, rf_77_5, rf_77_6, rf_77_8, rf_77_9, rf_77_10, rf_77_16, rf_77_17, rf_77_18, rf_77_19, rf_77_20, ib_78, rd_78, ib_79, rd_79, ib_80, rd_80, ib_81, rd_81, ib_82, rd_82, ib_83, rd_83, ib_84, ib_85, rd_85, ib_86, rd_86, ib_87, rd_87, ib_88, ib_89, rd_89, ib_90, rd_90, c7_isClient (a1 1 (by omega)) o2, hb, hc, c7_in, gp3, bi_ret, bi_t, bi_f, ite_bi2, hi, s7_ways_48, s7_ways_49]
    rw [hD]
    simp (disch := omega) only [s7_ways_166, s7_ways_167, s7_ways_170, s7_ways_171, s7_ways_172, s7_ways_175, s7_ways_177, s7_ways_178, s7_ways_179, s7_ways_180, s7_ways_181, s7_ways_182, s7_ways_183, s7_ways_184, s7_ways_185, s7_ways_186, am_k1_int, am_k1_ref, am_k1_none, am_cats_nil, am_cats_int, am_cats_ref, am_cats_long, Option.toList_some, Option.toList_none, List.singleton_append, List.nil_append, List.cons_append, true_and, and_true, if_true, if_false, va_rf, ↓reduceIte, Nat.reduceAdd, Nat.reduceMul, Nat.reduceSub, Nat.reduceLT, Nat.reduceLeDiff, Nat.reduceEqDiff, Nat.zero_le, Nat.add_zero, Nat.le_refl, nI_add, mul_nI, lt_nI, le_nI, eq_nI, bnd_nI, ci_nI, decide_eq_true_eq, decide_true, decide_false, Bool.true_or, Bool.or_true, Bool.or_false, Bool.false_or, not_true_eq_false, not_false_eq_true, Bool.false_eq_true, Bool.false_and, Bool.true_and, Bool.and_true, Bool.and_false, Bool.not_true, Bool.not_false, false_and, and_false, and_self, ob_77, rf_77_1, rf_77_3, rf_77_4, rf_77_5, rf_77_6, rf_77_8, rf_77_9, rf_77_10, rf_77_16, rf_77_17, rf_77_18, rf_77_19, rf_77_20, ib_78, rd_78, ib_79, rd_79, ib_80, rd_80, ib_81, rd_81, ib_82, rd_82, ib_83, rd_83, ib_84, ib_85, rd_85, ib_86, rd_86, ib_87, rd_87, ib_88, ib_89, rd_89, ib_90, rd_90, mk_ne, mk_rd, t24, q24, hv, k65]
  refine am_call_mono _ _ _ _ _ _ ?_ hmod
  rintro v M2 ⟨rfl, rfl⟩
  refine ⟨rfl, ⟨_, rfl⟩, sw, _, J, rfl, fun j => ?_, T, tn, sn, pn, im, tx, fm, fi, nx, m, ln, pm, hT, hO, fr_T_ hT ⟨?_, ?_⟩ hA, fr_S_ ⟨?_, ?_, ?_, ?_⟩ hS, fr_P_ ⟨?_, ?_, ?_, ?_⟩ hP, fr_I_ ⟨?_, ?_, ?_, ?_⟩ hI, fr_X_ ⟨?_, ?_, ?_, ?_⟩ hX, fr_F_ ⟨?_, ?_, ?_, ?_, ?_⟩ hF, fr_C_ hO ⟨?_, ?_, ?_, ?_⟩ hC, hJ⟩ <;> intros <;> simp (disch := omega) only [mk_ne]
end
