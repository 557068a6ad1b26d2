/-! tell -/
theorem wo_same {s c : Nat} (hs : s < 64) (hc : c < 6) (hb : s.testBit c = false) : am_wo s c = s := by
  have key : ∀ s, s < 64 → ∀ c, c < 6 → s.testBit c = false → s &&& (63 - 2 ^ c) = s := by decide +kernel
  exact key s hs c hc hb
theorem wo_back {s c : Nat} (hs : s < 64) (hc : c < 6) (hb : s.testBit c = false) : am_wo (s ||| 2 ^ c) c = s := by
  have key : ∀ s, s < 64 → ∀ c, c < 6 → s.testBit c = false → (s ||| 2 ^ c) &&& (63 - 2 ^ c) = s := by decide +kernel
  exact key s hs c hc hb
theorem most_le (tn : Nat → Nat) (F x : Nat) (hO : ar_told tn) : am_most tn F x ≤ 24 := by
  have o1 := hO.1
  have := msE_le (tn := tn) (tn 0 - F) x
  show am_msE tn (tn 0 - F) x ≤ 24
  omega
def am_dvo (F K v : Nat) : Int32 := if v < K then nI (F + v) else -9
def ar_te (tn : Nat → Nat) (F U r c P : Nat) (I I' : Nat → Nat → Int32) (b : Bool) : Prop := (∀ a, a ≠ 69 → a ≠ 70 → I' a = I a) ∧ (∀ k, k < c → I' 70 k = I 70 k) ∧ (b = true → ∃ x, x / am_W (tn 0 - F + 1) U (tn 1) r = P ∧ am_oT tn F U x ∧ (∀ z, z < x → z / am_W (tn 0 - F + 1) U (tn 1) r = P → ¬ am_oT tn F U z) ∧ ∀ k, c ≤ k → k < tn 1 → I' 70 k = am_dvo F (tn 0 - F) (am_dg (tn 0 - F) U (tn 1) x k)) ∧ (b = false → (∀ z, z / am_W (tn 0 - F + 1) U (tn 1) r = P → ¬ am_oT tn F U z) ∧ ∀ q, q < 4 → I' 69 q = I 69 q)
def ar_tS (n d : Nat) (tn : Nat → Nat) (J : Nat → Nat → Int64) (sw : Bool) (F U r : Nat) : Prop := ∀ (c P O : Nat) (a : Nat → Nat) (I : Nat → Nat → Int32) (Q : am_Post), ar_C tn I J → ar_tl tn F U r c P a → O < 2 ^ tn 1 → (∀ k, k < 6 → O.testBit k = (U.testBit k && decide (c ≤ k))) → (∀ j, j < tn 0 - F → I 69 (F + j) = nI (am_as a j c)) → (∀ b I', ar_te tn F U r c P I I' b → Q (some (.int (am_bi b))) (am_sh n, I', J, am_Rf sw)) → am_call (d + r + 3) m0_tell [.ref 60, .int (nI c), .int (nI F), .int (nI O), .int (nI (am_most tn F U - am_ct a (tn 0 - F) c))] (am_sh n, I, J, am_Rf sw) Q
section
variable {n d : Nat} {tn : Nat → Nat} {I : Nat → Nat → Int32} {J : Nat → Nat → Int64} {sw : Bool} {Q : am_Post} {F U : Nat}
theorem c0_tellOne {c e s : Nat} (hO : ar_told tn) (hC : ar_C tn I J) (he : e < tn 0) (hc : c < 6) (hs : s ||| 2 ^ c < 2 ^ tn 1) (hI : I 69 e = nI s) : am_call (d + 2) m0_tellOne [.ref 60, .int (nI c), .int (nI e)] (am_sh n, I, J, am_Rf sw) Q ↔ (if am_can tn e (s ||| 2 ^ c) = true then Q (some (.int (nI 1))) (am_sh n, am_up (am_up I 69 e (nI (s ||| 2 ^ c))) 70 c (nI e), J, am_Rf sw) else Q (some (.int (nI 0))) (am_sh n, I, J, am_Rf sw)) := by
  have o1 := hO.1
  have he4 : e < 4 := by omega
  have p5 := pw6 hc
  have z1 : (0 : Nat) < 69 := by decide
  have z2 : (0 : Nat) < 70 := by decide
  have hcl := fun Q => c0_clothes (n := n) (d := d) (I := I) (sw := sw) (Q := Q) hO hC he hs
  cases hcan : am_can tn e (s ||| 2 ^ c) with
  | true =>
    rw [hcan] at hcl
    simp (disch := omega) only [e0_tellOne, s0_tellOne_0, s0_tellOne_1, s0_tellOne_4, s0_tellOne_5, s0_tellOne_6, s0_tellOne_7, s0_tellOne_8, s0_tellOne_9, s0_tellOne_10, s0_tellOne_11, s0_tellOne_12, s0_tellOne_13, s0_tellOne_14, s0_tellOne_17, s0_tellOne_20, s0_tellOne_21, s0_tellOne_22, s0_tellOne_23, s0_tellOne_26, s0_tellOne_27, s0_tellOne_28, s0_tellOne_29, s0_tellOne_30, s0_tellOne_33, s0_tellOne_34, s0_tellOne_35, s0_tellOne_36, s0_tellOne_37, am_k1_int, am_k1_ref, am_k1_none, am_cats_nil, am_cats_int, am_cats_ref, am_cats_long, Option.toList_some, Option.toList_none, List.singleton_append, List.nil_append, List.cons_append, true_and, and_true, if_true, if_false, va_rf, ↓reduceIte, Nat.reduceAdd, Nat.reduceMul, Nat.reduceSub, Nat.reduceLT, Nat.reduceLeDiff, Nat.reduceEqDiff, Nat.zero_le, Nat.add_zero, Nat.le_refl, nI_add, mul_nI, lt_nI, le_nI, eq_nI, bnd_nI, ci_nI, decide_eq_true_eq, decide_true, decide_false, Bool.true_or, Bool.or_true, Bool.or_false, Bool.false_or, not_true_eq_false, not_false_eq_true, Bool.false_eq_true, Bool.false_and, Bool.true_and, Bool.and_true, Bool.and_false, Bool.not_true, Bool.not_false, false_and, and_false, and_self, ob_60, rf_60_2, rf_60_3, rf_60_4, rf_60_5, rf_60_6, ib_69, rd_69, ib_70, rd_70, he4, hc, hI, shl_nI, Nat.one_mul, or_nI, hcl, bi_t, bi_f, ite_bi2, ret_0, ret_1, z1, z2]
  | false =>
    rw [hcan] at hcl
    simp (disch := omega) only [e0_tellOne, s0_tellOne_0, s0_tellOne_1, s0_tellOne_4, s0_tellOne_5, s0_tellOne_6, s0_tellOne_7, s0_tellOne_8, s0_tellOne_9, s0_tellOne_10, s0_tellOne_11, s0_tellOne_12, s0_tellOne_13, s0_tellOne_14, s0_tellOne_17, s0_tellOne_20, s0_tellOne_21, s0_tellOne_22, s0_tellOne_23, s0_tellOne_26, s0_tellOne_27, s0_tellOne_28, s0_tellOne_29, s0_tellOne_30, s0_tellOne_33, s0_tellOne_34, s0_tellOne_35, s0_tellOne_36, s0_tellOne_37, am_k1_int, am_k1_ref, am_k1_none, am_cats_nil, am_cats_int, am_cats_ref, am_cats_long, Option.toList_some, Option.toList_none, List.singleton_append, List.nil_append, List.cons_append, true_and, and_true, if_true, if_false, va_rf, ↓reduceIte, Nat.reduceAdd, Nat.reduceMul, Nat.reduceSub, Nat.reduceLT, Nat.reduceLeDiff, Nat.reduceEqDiff, Nat.zero_le, Nat.add_zero, Nat.le_refl, nI_add, mul_nI, lt_nI, le_nI, eq_nI, bnd_nI, ci_nI, decide_eq_true_eq, decide_true, decide_false, Bool.true_or, Bool.or_true, Bool.or_false, Bool.false_or, not_true_eq_false, not_false_eq_true, Bool.false_eq_true, Bool.false_and, Bool.true_and, Bool.and_true, Bool.and_false, Bool.not_true, Bool.not_false, false_and, and_false, and_self, ob_60, rf_60_2, rf_60_3, rf_60_4, rf_60_5, rf_60_6, ib_69, rd_69, ib_70, rd_70, he4, hc, hI, shl_nI, Nat.one_mul, or_nI, hcl, bi_t, bi_f, ite_bi2, ret_0, ret_1, z1, z2]
theorem tell_0 (hO : ar_told tn) (hF : F ≤ tn 0) (hU : U < 2 ^ tn 1) : ar_tS n d tn J sw F U 0 := by
  intro c P O a I Q hC hl hO2 hOb h69 hq
  obtain ⟨h1, h2, h3, h4⟩ := id hl
  have o2 := hO.2.1
  obtain rfl : c = tn 1 := by omega
  have k1 := hC.2.1
  have hml := most_le tn F U hO
  have hsing : ∀ x, x / am_W (tn 0 - F + 1) U (tn 1) 0 = P → x = P := fun x hx => (Nat.div_one x).symm.trans hx
  have hdd : ∀ k, k < tn 1 → am_dg (tn 0 - F) U (tn 1) P k = a k := h2 P (Nat.div_one P)
  have hok : am_okc tn F U P := fun j hj => by
    rw [as_congr (b := a) (j := j) (tn 1) (fun k hk => by rw [hdd k hk])]
    exact h4 j hj
  have hmn : am_mn tn F U P = am_ct a (tn 0 - F) (tn 1) := ct_congr _ (fun k hk => by rw [hdd k hk])
  by_cases g : am_ct a (tn 0 - F) (tn 1) < am_most tn F U
  · have g' : 0 < am_most tn F U - am_ct a (tn 0 - F) (tn 1) := by omega
    have hfin := hq false I ⟨fun _ _ _ => rfl, fun _ _ => rfl, fun h => absurd h (by decide), fun _ => ⟨fun z hz hT => by
      rw [hsing z hz] at hT
      have := hT.2
      omega, fun _ _ => rfl⟩⟩
    simp (disch := omega) only [e0_tell, s0_tell_0, s0_tell_1, s0_tell_2, s0_tell_5, s0_tell_8, s0_tell_10, s0_tell_13, s0_tell_14, s0_tell_17, s0_tell_18, s0_tell_19, s0_tell_20, s0_tell_21, s0_tell_22, s0_tell_23, s0_tell_24, s0_tell_25, s0_tell_26, s0_tell_28, s0_tell_29, s0_tell_32, s0_tell_33, s0_tell_34, s0_tell_36, s0_tell_37, s0_tell_39, s0_tell_41, s0_tell_42, s0_tell_45, s0_tell_47, s0_tell_48, s0_tell_49, s0_tell_51, s0_tell_54, s0_tell_55, s0_tell_59, s0_tell_60, s0_tell_63, s0_tell_66, s0_tell_67, s0_tell_68, s0_tell_70, s0_tell_73, s0_tell_76, s0_tell_77, s0_tell_78, s0_tell_79, s0_tell_80, s0_tell_81, s0_tell_83, s0_tell_85, s0_tell_86, s0_tell_87, s0_tell_90, s0_tell_93, s0_tell_94, s0_tell_95, s0_tell_96, s0_tell_99, s0_tell_101, s0_tell_102, s0_tell_103, s0_tell_104, s0_tell_105, s0_tell_106, s0_tell_107, s0_tell_108, s0_tell_109, s0_tell_110, s0_tell_113, s0_tell_117, s0_tell_120, s0_tell_121, s0_tell_123, s0_tell_124, s0_tell_126, s0_tell_128, s0_tell_131, s0_tell_132, s0_tell_133, s0_tell_134, s0_tell_135, s0_tell_136, s0_tell_138, s0_tell_140, s0_tell_143, s0_tell_146, s0_tell_147, s0_tell_150, s0_tell_151, am_k1_int, am_k1_ref, am_k1_none, am_cats_nil, am_cats_int, am_cats_ref, am_cats_long, Option.toList_some, Option.toList_none, List.singleton_append, List.nil_append, List.cons_append, true_and, and_true, if_true, if_false, va_rf, ↓reduceIte, Nat.reduceAdd, Nat.reduceMul, Nat.reduceSub, Nat.reduceLT, Nat.reduceLeDiff, Nat.reduceEqDiff, Nat.zero_le, Nat.add_zero, Nat.le_refl, nI_add, mul_nI, lt_nI, le_nI, eq_nI, bnd_nI, ci_nI, decide_eq_true_eq, decide_true, decide_false, Bool.true_or, Bool.or_true, Bool.or_false, Bool.false_or, not_true_eq_false, not_false_eq_true, Bool.false_eq_true, Bool.false_and, Bool.true_and, Bool.and_true, Bool.and_false, Bool.not_true, Bool.not_false, false_and, and_false, and_self, ob_60, rf_60_2, rf_60_3, rf_60_4, rf_60_5, rf_60_6, k1, g', ret_0, Nat.lt_irrefl]
    exact hfin
  · have g' : ¬ 0 < am_most tn F U - am_ct a (tn 0 - F) (tn 1) := by omega
    have hfin := hq true I ⟨fun _ _ _ => rfl, fun _ _ => rfl, fun _ => ⟨P, Nat.div_one P, ⟨hok, by omega⟩, fun z hz hz2 => by
      have := hsing z hz2
      omega, fun k hk1 hk2 => by omega⟩, fun h => absurd h (by decide)⟩
    simp (disch := omega) only [e0_tell, s0_tell_0, s0_tell_1, s0_tell_2, s0_tell_5, s0_tell_8, s0_tell_10, s0_tell_13, s0_tell_14, s0_tell_17, s0_tell_18, s0_tell_19, s0_tell_20, s0_tell_21, s0_tell_22, s0_tell_23, s0_tell_24, s0_tell_25, s0_tell_26, s0_tell_28, s0_tell_29, s0_tell_32, s0_tell_33, s0_tell_34, s0_tell_36, s0_tell_37, s0_tell_39, s0_tell_41, s0_tell_42, s0_tell_45, s0_tell_47, s0_tell_48, s0_tell_49, s0_tell_51, s0_tell_54, s0_tell_55, s0_tell_59, s0_tell_60, s0_tell_63, s0_tell_66, s0_tell_67, s0_tell_68, s0_tell_70, s0_tell_73, s0_tell_76, s0_tell_77, s0_tell_78, s0_tell_79, s0_tell_80, s0_tell_81, s0_tell_83, s0_tell_85, s0_tell_86, s0_tell_87, s0_tell_90, s0_tell_93, s0_tell_94, s0_tell_95, s0_tell_96, s0_tell_99, s0_tell_101, s0_tell_102, s0_tell_103, s0_tell_104, s0_tell_105, s0_tell_106, s0_tell_107, s0_tell_108, s0_tell_109, s0_tell_110, s0_tell_113, s0_tell_117, s0_tell_120, s0_tell_121, s0_tell_123, s0_tell_124, s0_tell_126, s0_tell_128, s0_tell_131, s0_tell_132, s0_tell_133, s0_tell_134, s0_tell_135, s0_tell_136, s0_tell_138, s0_tell_140, s0_tell_143, s0_tell_146, s0_tell_147, s0_tell_150, s0_tell_151, am_k1_int, am_k1_ref, am_k1_none, am_cats_nil, am_cats_int, am_cats_ref, am_cats_long, Option.toList_some, Option.toList_none, List.singleton_append, List.nil_append, List.cons_append, true_and, and_true, if_true, if_false, va_rf, ↓reduceIte, Nat.reduceAdd, Nat.reduceMul, Nat.reduceSub, Nat.reduceLT, Nat.reduceLeDiff, Nat.reduceEqDiff, Nat.zero_le, Nat.add_zero, Nat.le_refl, nI_add, mul_nI, lt_nI, le_nI, eq_nI, bnd_nI, ci_nI, decide_eq_true_eq, decide_true, decide_false, Bool.true_or, Bool.or_true, Bool.or_false, Bool.false_or, not_true_eq_false, not_false_eq_true, Bool.false_eq_true, Bool.false_and, Bool.true_and, Bool.and_true, Bool.and_false, Bool.not_true, Bool.not_false, false_and, and_false, and_self, ob_60, rf_60_2, rf_60_3, rf_60_4, rf_60_5, rf_60_6, k1, g', ret_1, Nat.lt_irrefl]
    exact hfin
end
