theorem m1_nI (k : Nat) : nI (k + 1) + (-1) = nI k := by
  rw [show (-1 : Int32) = -nI 1 by decide, ← Int32.sub_eq_add_neg, sub_nI (by omega), Nat.add_sub_cancel]
/-- the reference's table of ways in the memory -/
def am_mk (I : Nat → Nat → Int32) (G : Nat → Nat) : Nat → Nat → Int32 := am_row I 90 (fun k => if k < 65 then nI (G k) else I 90 k)
def am_uj (G : Nat → Nat) (k v : Nat) : Nat → Nat := fun j => if j = k then v else G j
theorem uj_s {G : Nat → Nat} {k v : Nat} : am_uj G k v k = v := if_pos rfl
theorem uj_n {G : Nat → Nat} {k v j : Nat} (h : j ≠ k) : am_uj G k v j = G j := if_neg h
theorem uj_id {G : Nat → Nat} {k : Nat} : am_uj G k (G k) = G := by
  funext j
  unfold am_uj
  by_cases h : j = k
  · subst h; simp
  · simp [h]
theorem uj_uj {G : Nat → Nat} {k v w : Nat} : am_uj (am_uj G k v) k w = am_uj G k w := by
  funext j
  unfold am_uj
  by_cases h : j = k <;> simp [h]
section
variable {I : Nat → Nat → Int32} {G : Nat → Nat}
theorem mk_up {k v : Nat} (h : k < 65) : am_up (am_mk I G) 90 k (nI v) = am_mk I (am_uj G k v) := by
  funext a j
  unfold am_mk am_uj am_row am_up
  by_cases ha : a = 90
  · subst ha
    by_cases hj : j = k
    · subst hj; simp [h]
    · simp [hj]
  · simp [ha]
theorem mk_rd {k : Nat} (h : k < 65) : am_mk I G 90 k = nI (G k) := by
  unfold am_mk
  rw [row_s]
  exact if_pos h
theorem mk_ne {a : Nat} (h : a ≠ 90) : am_mk I G a = I a := am_row_ne h
end
def aw_ws (G : Nat → Nat) (n y : Nat) : Nat → Nat
  | 0 => 0
  | j + 1 => aw_ws G n y j + G (5 * (y - (j + 1)) + n - 1)
def aw_gy (G : Nat → Nat) (n Y : Nat) : Nat → (Nat → Nat)
  | 0 => G
  | y + 1 => aw_gy (am_uj G (5 * (y + 1) + n) (G (5 * (y + 1) + n) + aw_ws G n (y + 1) (min (y + 1) Y))) n Y y
def aw_gq (G : Nat → Nat) (Y : Nat) : Nat → (Nat → Nat)
  | 0 => G
  | n + 1 => aw_gq (aw_gy G (n + 1) Y 12) Y n
theorem ws_uj {G : Nat → Nat} {n y k v : Nat} (hk : k % 5 = n % 5) (hn : 1 ≤ n) (hn4 : n ≤ 4) : ∀ j, aw_ws (am_uj G k v) n y j = aw_ws G n y j
  | 0 => rfl
  | j + 1 => by
    simp only [aw_ws]
    rw [ws_uj hk hn hn4 j, uj_n (by omega)]
section
variable {n d T c pp : Nat} {tn : Nat → Nat} {I : Nat → Nat → Int32} {J : Nat → Nat → Int64} {sw : Bool} {Q : am_Post}
theorem l7_waysO {e k y Y : Nat} {G : Nat → Nat} (hk : 1 ≤ k) (hk4 : k ≤ 4) (hy : 1 ≤ y) (hy12 : y ≤ 12) (he : e < 4) (hY : I 79 (6 + e) = nI Y) (hY40 : Y ≤ 40) : ∀ (r j : Nat), j + r = min y Y → (am_wp d m7_ways 89 [some (.ref 77), some (.int (nI c)), some (.int (nI pp)), some (.int (nI e)), some (.int (nI k)), some (.int (nI y)), some (.int (nI (j + 1)))] [] (am_sh n, am_mk I (am_uj G (5 * y + k) (G (5 * y + k) + aw_ws G k y j)), J, am_Rf sw) Q ↔ am_wp d m7_ways 148 [some (.ref 77), some (.int (nI c)), some (.int (nI pp)), some (.int (nI e)), some (.int (nI k)), some (.int (nI y)), some (.int (nI (min y Y + 1)))] [] (am_sh n, am_mk I (am_uj G (5 * y + k) (G (5 * y + k) + aw_ws G k y (min y Y))), J, am_Rf sw) Q)
  | 0, j, hm => by
    obtain rfl : j = min y Y := by omega
    rw [s7_ways_89]
    have q6 : 6 + e < 42 := by omega
    by_cases h1 : Y ≤ y
    · have h2 : min y Y = Y := by omega
      rw [h2]
      have h4 : Y < Y + 1 := by omega
      simp (disch := omega) only [s7_ways_91, s7_ways_93, s7_ways_96, s7_ways_98, s7_ways_99, s7_ways_102, s7_ways_104, s7_ways_105, s7_ways_106, s7_ways_107, am_k1_int, am_k1_ref, am_k1_none, am_cats_nil, am_cats_int, am_cats_ref, am_cats_long, Option.toList_some, Option.toList_none, List.singleton_append, List.nil_append, List.cons_append, true_and, and_true, if_true, if_false, va_rf, ↓reduceIte, Nat.reduceAdd, Nat.reduceMul, Nat.reduceSub, Nat.reduceLT, Nat.reduceLeDiff, Nat.reduceEqDiff, Nat.zero_le, Nat.add_zero, Nat.le_refl, nI_add, mul_nI, lt_nI, le_nI, eq_nI, bnd_nI, ci_nI, decide_eq_true_eq, decide_true, decide_false, Bool.true_or, Bool.or_true, Bool.or_false, Bool.false_or, not_true_eq_false, not_false_eq_true, Bool.false_eq_true, Bool.false_and, Bool.true_and, Bool.and_true, Bool.and_false, Bool.not_true, Bool.not_false, false_and, and_false, and_self, ob_77, rf_77_1, rf_77_3, rf_77_4, rf_77_5, rf_77_6, rf_77_8, rf_77_9, rf_77_10, rf_77_16, rf_77_17, rf_77_18, rf_77_19, rf_77_20, ib_78, rd_78, ib_79, rd_79, ib_80, rd_80, ib_81, rd_81, ib_82, rd_82, ib_83, rd_83, ib_84, ib_85, rd_85, ib_86, rd_86, ib_87, rd_87, ib_88, ib_89, rd_89, ib_90, rd_90, mk_ne, hY, q6, h4, ite_self]
    · have h2 : min y Y = y := by omega
      rw [h2]
      have h4 : y < y + 1 := by omega
      simp (disch := omega) only [s7_ways_91, s7_ways_93, am_k1_int, am_k1_ref, am_k1_none, am_cats_nil, am_cats_int, am_cats_ref, am_cats_long, Option.toList_some, Option.toList_none, List.singleton_append, List.nil_append, List.cons_append, true_and, and_true, if_true, if_false, va_rf, ↓reduceIte, Nat.reduceAdd, Nat.reduceMul, Nat.reduceSub, Nat.reduceLT, Nat.reduceLeDiff, Nat.reduceEqDiff, Nat.zero_le, Nat.add_zero, Nat.le_refl, nI_add, mul_nI, lt_nI, le_nI, eq_nI, bnd_nI, ci_nI, decide_eq_true_eq, decide_true, decide_false, Bool.true_or, Bool.or_true, Bool.or_false, Bool.false_or, not_true_eq_false, not_false_eq_true, Bool.false_eq_true, Bool.false_and, Bool.true_and, Bool.and_true, Bool.and_false, Bool.not_true, Bool.not_false, false_and, and_false, and_self, h4]
  | r + 1, j, hm => by
    have ih := l7_waysO (G := G) hk hk4 hy hy12 he hY hY40 r (j + 1) (by omega)
    have q6 : 6 + e < 42 := by omega
    have h1 : ¬ y < j + 1 := by omega
    have h2 : ¬ Y < j + 1 := by omega
    have k1 : 5 * y + k < 65 := by omega
    have k2 : 5 * (y - (j + 1)) + k - 1 < 65 := by omega
    have z : (0 : Nat) < 90 := by decide
    have ee : G (5 * y + k) + aw_ws G k y (j + 1) = G (5 * y + k) + aw_ws G k y j + G (5 * (y - (j + 1)) + k - 1) := by
      show G (5 * y + k) + (aw_ws G k y j + G (5 * (y - (j + 1)) + k - 1)) = _
      omega
    have hs : 5 * y + k ≠ 5 * (y - (j + 1)) + k - 1 := by omega
    rw [ee] at ih
    rw [s7_ways_89, ← ih]
    simp (disch := omega) only [s7_ways_91, s7_ways_93, s7_ways_96, s7_ways_98, s7_ways_99, s7_ways_102, s7_ways_104, s7_ways_105, s7_ways_106, s7_ways_107, s7_ways_110, s7_ways_111, s7_ways_114, s7_ways_115, s7_ways_117, s7_ways_118, s7_ways_120, s7_ways_121, s7_ways_122, s7_ways_123, s7_ways_124, s7_ways_127, s7_ways_128, s7_ways_130, s7_ways_132, s7_ways_133, s7_ways_134, s7_ways_136, s7_ways_137, s7_ways_138, s7_ways_139, s7_ways_140, s7_ways_141, s7_ways_142, s7_ways_145, am_k1_int, am_k1_ref, am_k1_none, am_cats_nil, am_cats_int, am_cats_ref, am_cats_long, Option.toList_some, Option.toList_none, List.singleton_append, List.nil_append, List.cons_append, true_and, and_true, if_true, if_false, va_rf, ↓reduceIte, Nat.reduceAdd, Nat.reduceMul, Nat.reduceSub, Nat.reduceLT, Nat.reduceLeDiff, Nat.reduceEqDiff, Nat.zero_le, Nat.add_zero, Nat.le_refl, nI_add, mul_nI, lt_nI, le_nI, eq_nI, bnd_nI, ci_nI, decide_eq_true_eq, decide_true, decide_false, Bool.true_or, Bool.or_true, Bool.or_false, Bool.false_or, not_true_eq_false, not_false_eq_true, Bool.false_eq_true, Bool.false_and, Bool.true_and, Bool.and_true, Bool.and_false, Bool.not_true, Bool.not_false, false_and, and_false, and_self, ob_77, rf_77_1, rf_77_3, rf_77_4, rf_77_5, rf_77_6, rf_77_8, rf_77_9, rf_77_10, rf_77_16, rf_77_17, rf_77_18, rf_77_19, rf_77_20, ib_78, rd_78, ib_79, rd_79, ib_80, rd_80, ib_81, rd_81, ib_82, rd_82, ib_83, rd_83, ib_84, ib_85, rd_85, ib_86, rd_86, ib_87, rd_87, ib_88, ib_89, rd_89, ib_90, rd_90, mk_ne, mk_rd, mk_up, uj_s, uj_n, uj_uj, hY, q6, h1, h2, k1, k2, z, sub_nI, Value.category]
theorem l7_waysY {e k Y : Nat} (hk : 1 ≤ k) (hk4 : k ≤ 4) (he : e < 4) (hY : I 79 (6 + e) = nI Y) (hY40 : Y ≤ 40) : ∀ (y : Nat) (G : Nat → Nat) (l6 : Option Value), y ≤ 12 → ∃ l6', (am_wp d m7_ways 81 [some (.ref 77), some (.int (nI c)), some (.int (nI pp)), some (.int (nI e)), some (.int (nI k)), some (.int (nI y)), l6] [] (am_sh n, am_mk I G, J, am_Rf sw) Q ↔ am_wp d m7_ways 154 [some (.ref 77), some (.int (nI c)), some (.int (nI pp)), some (.int (nI e)), some (.int (nI k)), some (.int (nI 0)), l6'] [] (am_sh n, am_mk I (aw_gy G k Y y), J, am_Rf sw) Q)
  | 0, G, l6, hy => by
    refine ⟨l6, ?_⟩
    rw [s7_ways_81]
    simp (disch := omega) only [s7_ways_83, am_k1_int, am_k1_ref, am_k1_none, am_cats_nil, am_cats_int, am_cats_ref, am_cats_long, Option.toList_some, Option.toList_none, List.singleton_append, List.nil_append, List.cons_append, true_and, and_true, if_true, if_false, va_rf, ↓reduceIte, Nat.reduceAdd, Nat.reduceMul, Nat.reduceSub, Nat.reduceLT, Nat.reduceLeDiff, Nat.reduceEqDiff, Nat.zero_le, Nat.add_zero, Nat.le_refl, nI_add, mul_nI, lt_nI, le_nI, eq_nI, bnd_nI, ci_nI, decide_eq_true_eq, decide_true, decide_false, Bool.true_or, Bool.or_true, Bool.or_false, Bool.false_or, not_true_eq_false, not_false_eq_true, Bool.false_eq_true, Bool.false_and, Bool.true_and, Bool.and_true, Bool.and_false, Bool.not_true, Bool.not_false, false_and, and_false, and_self]
    rfl
  | y + 1, G, l6, hy => by
    obtain ⟨l6', ih⟩ := l7_waysY hk hk4 he hY hY40 y (am_uj G (5 * (y + 1) + k) (G (5 * (y + 1) + k) + aw_ws G k (y + 1) (min (y + 1) Y))) (some (.int (nI (min (y + 1) Y + 1)))) (by omega)
    refine ⟨l6', ?_⟩
    have hO := l7_waysO (d := d) (n := n) (J := J) (sw := sw) (Q := Q) (c := c) (pp := pp) (G := G) hk hk4 (show 1 ≤ y + 1 by omega) hy he hY hY40 (min (y + 1) Y) 0 (by omega)
    simp only [show aw_ws G k (y + 1) 0 = 0 from rfl, Nat.add_zero, uj_id, Nat.zero_add] at hO
    have h0 : ¬ y + 1 ≤ 0 := by omega
    rw [s7_ways_81]
    simp (disch := omega) only [s7_ways_83, s7_ways_86, s7_ways_87, am_k1_int, am_k1_ref, am_k1_none, am_cats_nil, am_cats_int, am_cats_ref, am_cats_long, Option.toList_some, Option.toList_none, List.singleton_append, List.nil_append, List.cons_append, true_and, and_true, if_true, if_false, va_rf, ↓reduceIte, Nat.reduceAdd, Nat.reduceMul, Nat.reduceSub, Nat.reduceLT, Nat.reduceLeDiff, Nat.reduceEqDiff, Nat.zero_le, Nat.add_zero, Nat.le_refl, nI_add, mul_nI, lt_nI, le_nI, eq_nI, bnd_nI, ci_nI, decide_eq_true_eq, decide_true, decide_false, Bool.true_or, Bool.or_true, Bool.or_false, Bool.false_or, not_true_eq_false, not_false_eq_true, Bool.false_eq_true, Bool.false_and, Bool.true_and, Bool.and_true, Bool.and_false, Bool.not_true, Bool.not_false, false_and, and_false, and_self, h0, hO, s7_ways_148, s7_ways_151, m1_nI]
    exact ih
theorem l7_waysN {e Y : Nat} (hc : c < 6) (hO : ar_told tn) (hA : ar_T T tn I) (hs : am_suN tn e c = true) (he : e < 4) (hY : I 79 (6 + e) = nI Y) (hY40 : Y ≤ 40) : ∀ (k : Nat) (G : Nat → Nat) (l5 l6 : Option Value), k ≤ 4 → ∃ l5' l6', (am_wp (d + 1) m7_ways 63 [some (.ref 77), some (.int (nI c)), some (.int (nI pp)), some (.int (nI e)), some (.int (nI k)), l5, l6] [] (am_sh n, am_mk I G, J, am_Rf sw) Q ↔ am_wp (d + 1) m7_ways 160 [some (.ref 77), some (.int (nI c)), some (.int (nI pp)), some (.int (nI e)), some (.int (nI 0)), l5', l6'] [] (am_sh n, am_mk I (aw_gq G Y k), J, am_Rf sw) Q)
  | 0, G, l5, l6, hk => by
    refine ⟨l5, l6, ?_⟩
    rw [s7_ways_63]
    simp (disch := omega) only [s7_ways_65, am_k1_int, am_k1_ref, am_k1_none, am_cats_nil, am_cats_int, am_cats_ref, am_cats_long, Option.toList_some, Option.toList_none, List.singleton_append, List.nil_append, List.cons_append, true_and, and_true, if_true, if_false, va_rf, ↓reduceIte, Nat.reduceAdd, Nat.reduceMul, Nat.reduceSub, Nat.reduceLT, Nat.reduceLeDiff, Nat.reduceEqDiff, Nat.zero_le, Nat.add_zero, Nat.le_refl, nI_add, mul_nI, lt_nI, le_nI, eq_nI, bnd_nI, ci_nI, decide_eq_true_eq, decide_true, decide_false, Bool.true_or, Bool.or_true, Bool.or_false, Bool.false_or, not_true_eq_false, not_false_eq_true, Bool.false_eq_true, Bool.false_and, Bool.true_and, Bool.and_true, Bool.and_false, Bool.not_true, Bool.not_false, false_and, and_false, and_self]
    rfl
  | k + 1, G, l5, l6, hk => by
    have hM : ar_T T tn (am_mk I G) → True := fun _ => trivial
    have hsu := su_M hO hA hc he
    rw [hs] at hsu
    obtain ⟨l6a, hYl⟩ := l7_waysY (d := d + 1) (n := n) (J := J) (sw := sw) (Q := Q) (c := c) (pp := pp) (k := k + 1) (by omega) hk he hY hY40 12 G l6 (by omega)
    obtain ⟨l5', l6', ih⟩ := l7_waysN hc hO hA hs he hY hY40 k (aw_gy G (k + 1) Y 12) (some (.int (nI 0))) l6a (by omega)
    refine ⟨l5', l6', ?_⟩
    have h0 : ¬ k + 1 ≤ 0 := by omega
    rw [s7_ways_63]
    simp (disch := omega) only [s7_ways_65, s7_ways_68, s7_ways_69, s7_ways_70, s7_ways_71, s7_ways_74, s7_ways_77, s7_ways_79, am_k1_int, am_k1_ref, am_k1_none, am_cats_nil, am_cats_int, am_cats_ref, am_cats_long, Option.toList_some, Option.toList_none, List.singleton_append, List.nil_append, List.cons_append, true_and, and_true, if_true, if_false, va_rf, ↓reduceIte, Nat.reduceAdd, Nat.reduceMul, Nat.reduceSub, Nat.reduceLT, Nat.reduceLeDiff, Nat.reduceEqDiff, Nat.zero_le, Nat.add_zero, Nat.le_refl, nI_add, mul_nI, lt_nI, le_nI, eq_nI, bnd_nI, ci_nI, decide_eq_true_eq, decide_true, decide_false, Bool.true_or, Bool.or_true, Bool.or_false, Bool.false_or, not_true_eq_false, not_false_eq_true, Bool.false_eq_true, Bool.false_and, Bool.true_and, Bool.and_true, Bool.and_false, Bool.not_true, Bool.not_false, false_and, and_false, and_self, ob_77, h0, c7_suits he hc, mk_ne, hsu, bi_t, bi_f, ite_bi2, hYl, s7_ways_154, s7_ways_157, m1_nI]
    exact ih
end
