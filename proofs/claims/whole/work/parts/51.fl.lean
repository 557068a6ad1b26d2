/-! sets of dawns as bits of a predicate -/
def am_bs (p : Nat → Bool) : Nat → Nat
  | 0 => 0
  | e + 1 => am_bs p e + if p e = true then 2 ^ e else 0
def am_bc (p : Nat → Bool) : Nat → Nat
  | 0 => 0
  | e + 1 => am_bc p e + if p e = true then 1 else 0
theorem bs_lt {p : Nat → Bool} : ∀ n, am_bs p n < 2 ^ n
  | 0 => by
    show 0 < 1
    decide
  | n + 1 => by
    have := bs_lt (p := p) n
    have h2 : 2 ^ (n + 1) = 2 * 2 ^ n := Nat.pow_succ'
    simp only [am_bs]
    split <;> omega
theorem p4 {n : Nat} (h : n ≤ 4) : 2 ^ n ≤ 16 := Nat.pow_le_pow_right (by decide) h
theorem bs_16 {p : Nat → Bool} {n : Nat} (h : n ≤ 4) : am_bs p n < 16 := Nat.lt_of_lt_of_le (bs_lt n) (p4 h)
theorem bs_or {p : Nat → Bool} {n : Nat} (h : n < 4) : am_bs p n ||| 2 ^ n = am_bs p n + 2 ^ n := by
  have key : ∀ n, n < 4 → ∀ s, s < 2 ^ n → s ||| 2 ^ n = s + 2 ^ n := by decide +kernel
  exact key n h _ (bs_lt n)
theorem bs_and {p q : Nat → Bool} {n : Nat} (h : n ≤ 4) : am_bs p n &&& am_bs q n = am_bs (fun e => p e && q e) n := by
  rcases (show n = 0 ∨ n = 1 ∨ n = 2 ∨ n = 3 ∨ n = 4 by omega) with rfl | rfl | rfl | rfl | rfl
  case inl => simp [am_bs, am_bc, am_pc]
  all_goals
    simp only [am_bs]
    generalize p 0 = a0
    generalize p 1 = a1
    generalize p 2 = a2
    generalize p 3 = a3
    generalize q 0 = b0
    generalize q 1 = b1
    generalize q 2 = b2
    generalize q 3 = b3
    revert a0 a1 a2 a3 b0 b1 b2 b3
    decide +kernel
theorem bs_nand {p q : Nat → Bool} {n : Nat} (h : n ≤ 4) : am_bs p n &&& (15 - am_bs q n) = am_bs (fun e => p e && !q e) n := by
  rcases (show n = 0 ∨ n = 1 ∨ n = 2 ∨ n = 3 ∨ n = 4 by omega) with rfl | rfl | rfl | rfl | rfl
  case inl => simp [am_bs, am_bc, am_pc]
  all_goals
    simp only [am_bs]
    generalize p 0 = a0
    generalize p 1 = a1
    generalize p 2 = a2
    generalize p 3 = a3
    generalize q 0 = b0
    generalize q 1 = b1
    generalize q 2 = b2
    generalize q 3 = b3
    revert a0 a1 a2 a3 b0 b1 b2 b3
    decide +kernel
theorem pc_bs {p : Nat → Bool} {n : Nat} (h : n ≤ 4) : am_pc (am_bs p n) = am_bc p n := by
  rcases (show n = 0 ∨ n = 1 ∨ n = 2 ∨ n = 3 ∨ n = 4 by omega) with rfl | rfl | rfl | rfl | rfl
  case inl => simp [am_bs, am_bc, am_pc]
  all_goals
    simp only [am_bs, am_bc]
    generalize p 0 = a0
    generalize p 1 = a1
    generalize p 2 = a2
    generalize p 3 = a3
    revert a0 a1 a2 a3
    decide +kernel
theorem bs_bit {p : Nat → Bool} {n e : Nat} (h : n ≤ 4) (he : e < n) : (am_bs p n).testBit e = p e := by
  rcases (show n = 0 ∨ n = 1 ∨ n = 2 ∨ n = 3 ∨ n = 4 by omega) with rfl | rfl | rfl | rfl | rfl
  all_goals
    rcases (show e = 0 ∨ e = 1 ∨ e = 2 ∨ e = 3 by omega) with rfl | rfl | rfl | rfl
  all_goals first
    | omega
    | (simp only [am_bs]
       generalize p 0 = a0
       generalize p 1 = a1
       generalize p 2 = a2
       generalize p 3 = a3
       revert a0 a1 a2 a3
       decide +kernel)
theorem bs_tt {n : Nat} (h : n ≤ 4) : 2 ^ n - 1 = am_bs (fun _ => true) n := by
  rcases (show n = 0 ∨ n = 1 ∨ n = 2 ∨ n = 3 ∨ n = 4 by omega) with rfl | rfl | rfl | rfl | rfl <;> rfl
theorem bs_congr {p q : Nat → Bool} : ∀ {n : Nat}, (∀ e, e < n → p e = q e) → am_bs p n = am_bs q n
  | 0, _ => rfl
  | n + 1, h => by
    simp only [am_bs]
    rw [bs_congr (n := n) (fun e he => h e (by omega)), h n (by omega)]
theorem bc_le {p : Nat → Bool} : ∀ n, am_bc p n ≤ n
  | 0 => Nat.le_refl _
  | n + 1 => by
    have := bc_le (p := p) n
    simp only [am_bc]
    split <;> omega
theorem andx_nI {s f : Nat} (hs : s < 16) (hf : f < 16) : nI s &&& (nI f ^^^ -1) = nI (s &&& (15 - f)) := by
  have key : ∀ s, s < 16 → ∀ f, f < 16 → nI s &&& (nI f ^^^ -1) = nI (s &&& (15 - f)) := by decide +kernel
  exact key s hs f hf
/-- what was found so far agrees, in numbers -/
def ar_ag (fm fi : Nat → Nat) (v : Nat) : Nat → Bool
  | 0 => true
  | i + 1 => ar_ag fm fi v i && decide ((if fm i ≤ v then 1 else 0) = fi i)
section
variable {n d : Nat} {I : Nat → Nat → Int32} {J : Nat → Nat → Int64} {sw : Bool} {Q : am_Post} {T pm : Nat} {tn fm fi : Nat → Nat}
theorem F_ag (hF : ar_F fm fi pm I) {v : Nat} (hv : v ≤ 60) : ∀ i, i ≤ pm → am_agr I (nI v) i = ar_ag fm fi v i
  | 0, _ => rfl
  | i + 1, hi => by
    obtain ⟨f1, f2, f3, f5, f6, f7⟩ := hF.2.2.2 i (by omega)
    simp only [am_agr, ar_ag]
    rw [F_ag hF hv i (by omega), f5, f6]
    congr 1
    simp only [le_nI (show fm i < 2147483648 by omega) (show v < 2147483648 by omega)]
    by_cases h : fm i ≤ v
    · simp only [h, decide_true, if_true, am_bi]
      exact dec_nI (by omega) (by omega)
    · simp only [h, decide_false, if_false, am_bi, Bool.false_eq_true]
      exact dec_nI (by omega) (by omega)
theorem l6_from (hT : am_tbr sw T) (hO : ar_told tn) (hA : ar_T T tn I) (hF : ar_F fm fi pm I) : ∀ (r e : Nat), e + r = tn 0 → (am_wp (d + 2) m6_from 4 [some (.ref 1), some (.int (nI (am_bs (fun e => ar_ag fm fi (tn (14 + e)) pm) e))), some (.int (nI e))] [] (am_sh n, I, J, am_Rf sw) Q ↔ Q (some (.int (nI (am_bs (fun e => ar_ag fm fi (tn (14 + e)) pm) (tn 0))))) (am_sh n, I, J, am_Rf sw))
  | 0, e, hm => by
    obtain ⟨a1, a2, a3, a4, a5, a6, a7⟩ := id hA
    have o1 := hO.1
    obtain rfl : e = tn 0 := by omega
    rcases id hT with ⟨rfl, rfl⟩ | ⟨rfl, rfl⟩ <;> simp (disch := omega) only [e6_from, s6_from_0, s6_from_1, s6_from_2, s6_from_3, s6_from_4, s6_from_5, s6_from_6, s6_from_9, s6_from_12, s6_from_15, s6_from_16, s6_from_19, s6_from_20, s6_from_23, s6_from_26, s6_from_27, s6_from_28, s6_from_31, s6_from_34, s6_from_35, s6_from_36, s6_from_37, s6_from_38, s6_from_39, s6_from_40, s6_from_43, s6_from_46, s6_from_47, am_k1_int, am_k1_ref, am_k1_none, am_cats_nil, am_cats_int, am_cats_ref, am_cats_long, Option.toList_some, Option.toList_none, List.singleton_append, List.nil_append, List.cons_append, true_and, and_true, if_true, if_false, va_rf, ↓reduceIte, Nat.reduceAdd, Nat.reduceMul, Nat.reduceSub, Nat.reduceLT, Nat.reduceLeDiff, Nat.reduceEqDiff, Nat.zero_le, Nat.add_zero, Nat.le_refl, nI_add, mul_nI, lt_nI, le_nI, eq_nI, bnd_nI, ci_nI, decide_eq_true_eq, decide_true, decide_false, Bool.true_or, Bool.or_true, Bool.or_false, Bool.false_or, not_true_eq_false, not_false_eq_true, Bool.false_eq_true, Bool.false_and, Bool.true_and, Bool.and_true, Bool.and_false, Bool.not_true, Bool.not_false, false_and, and_false, and_self, ob_1, rf_1_0, rf_1_1, rf_1_2, rf_1_3, rf_1_4, rf_1_5, rf_1_6, rf_1_7, rf_1_8, ob_2, rf_2_0, ib_3, rd_3, ob_4, rf_4_1, rf_4_2, rf_4_3, rf_4_5, rf_4_6, rf_4_7, rf_4_8, ib_5, rd_5, ib_6, rd_6, ib_7, rd_7, ib_8, rd_8, ib_9, rd_9, ib_10, rd_10, ib_11, rd_11, ob_12, rf_12_1, rf_12_2, rf_12_3, rf_12_5, rf_12_6, rf_12_7, rf_12_8, ib_13, rd_13, ib_14, rd_14, ib_15, rd_15, ib_16, rd_16, ib_17, rd_17, ib_18, rd_18, ib_19, rd_19, ob_20, rf_20_3, rf_20_4, ib_21, rd_21, ib_22, rd_22, ob_23, rf_23_0, ib_24, ix_24, rf_24_0, rf_24_1, rf_24_2, rf_24_3, rf_24_4, rf_24_5, rf_24_6, rf_24_7, rf_24_8, rf_24_9, ib_55, ix_55, rf_55_0, rf_55_1, ib_56, ob_57, rf_57_0, rf_57_1, ib_58, rd_58, ib_59, ob_60, rf_60_2, rf_60_3, rf_60_4, rf_60_5, rf_60_6, ib_61, rd_61, ib_62, ib_63, ix_63, rf_63_0, rf_63_1, rf_63_2, rf_63_3, rf_63_4, tb_t, tb_f, a2]
  | r + 1, e, hm => by
    have ih := l6_from hT hO hA hF r (e + 1) (by omega)
    obtain ⟨a1, a2, a3, a4, a5, a6, a7⟩ := id hA
    have o1 := hO.1
    have h1 : ¬ tn 0 ≤ e := by omega
    have he4 : e < 4 := by omega
    have b3 := (a6 e (by omega)).2.2
    have v14 := hO.2.2.2.2.1 e he4
    have hag := F_ag hF (show tn (14 + e) ≤ 60 by omega) pm (Nat.le_refl _)
    have hlt := bs_16 (p := fun e => ar_ag fm fi (tn (14 + e)) pm) (n := e) (by omega)
    have hor := bs_or (p := fun e => ar_ag fm fi (tn (14 + e)) pm) (n := e) (by omega)
    have h2e := p4 (n := e) (by omega)
    rw [s6_from_4]
    cases hd : ar_ag fm fi (tn (14 + e)) pm with
    | true =>
      simp only [am_bs, hd, if_true] at ih
      rcases id hT with ⟨rfl, rfl⟩ | ⟨rfl, rfl⟩ <;> simp only [Nat.reduceAdd] at b3 <;> simp (disch := omega) only [e6_from, s6_from_0, s6_from_1, s6_from_2, s6_from_3, s6_from_5, s6_from_6, s6_from_9, s6_from_12, s6_from_15, s6_from_16, s6_from_19, s6_from_20, s6_from_23, s6_from_26, s6_from_27, s6_from_28, s6_from_31, s6_from_34, s6_from_35, s6_from_36, s6_from_37, s6_from_38, s6_from_39, s6_from_40, s6_from_43, s6_from_46, s6_from_47, am_k1_int, am_k1_ref, am_k1_none, am_cats_nil, am_cats_int, am_cats_ref, am_cats_long, Option.toList_some, Option.toList_none, List.singleton_append, List.nil_append, List.cons_append, true_and, and_true, if_true, if_false, va_rf, ↓reduceIte, Nat.reduceAdd, Nat.reduceMul, Nat.reduceSub, Nat.reduceLT, Nat.reduceLeDiff, Nat.reduceEqDiff, Nat.zero_le, Nat.add_zero, Nat.le_refl, nI_add, mul_nI, lt_nI, le_nI, eq_nI, bnd_nI, ci_nI, decide_eq_true_eq, decide_true, decide_false, Bool.true_or, Bool.or_true, Bool.or_false, Bool.false_or, not_true_eq_false, not_false_eq_true, Bool.false_eq_true, Bool.false_and, Bool.true_and, Bool.and_true, Bool.and_false, Bool.not_true, Bool.not_false, false_and, and_false, and_self, ob_1, rf_1_0, rf_1_1, rf_1_2, rf_1_3, rf_1_4, rf_1_5, rf_1_6, rf_1_7, rf_1_8, ob_2, rf_2_0, ib_3, rd_3, ob_4, rf_4_1, rf_4_2, rf_4_3, rf_4_5, rf_4_6, rf_4_7, rf_4_8, ib_5, rd_5, ib_6, rd_6, ib_7, rd_7, ib_8, rd_8, ib_9, rd_9, ib_10, rd_10, ib_11, rd_11, ob_12, rf_12_1, rf_12_2, rf_12_3, rf_12_5, rf_12_6, rf_12_7, rf_12_8, ib_13, rd_13, ib_14, rd_14, ib_15, rd_15, ib_16, rd_16, ib_17, rd_17, ib_18, rd_18, ib_19, rd_19, ob_20, rf_20_3, rf_20_4, ib_21, rd_21, ib_22, rd_22, ob_23, rf_23_0, ib_24, ix_24, rf_24_0, rf_24_1, rf_24_2, rf_24_3, rf_24_4, rf_24_5, rf_24_6, rf_24_7, rf_24_8, rf_24_9, ib_55, ix_55, rf_55_0, rf_55_1, ib_56, ob_57, rf_57_0, rf_57_1, ib_58, rd_58, ib_59, ob_60, rf_60_2, rf_60_3, rf_60_4, rf_60_5, rf_60_6, ib_61, rd_61, ib_62, ib_63, ix_63, rf_63_0, rf_63_1, rf_63_2, rf_63_3, rf_63_4, tb_t, tb_f, a2, h1, he4, b3, c2_agreeWith hF.1 hF.2.1, hag, hd, bi_t, bi_f, ite_bi2, bi_ret, ret_0, ret_1, shl_nI, Nat.one_mul, or_nI, hor] <;> exact ih
    | false =>
      simp only [am_bs, hd, Bool.false_eq_true, if_false, Nat.add_zero] at ih
      rcases id hT with ⟨rfl, rfl⟩ | ⟨rfl, rfl⟩ <;> simp only [Nat.reduceAdd] at b3 <;> simp (disch := omega) only [e6_from, s6_from_0, s6_from_1, s6_from_2, s6_from_3, s6_from_5, s6_from_6, s6_from_9, s6_from_12, s6_from_15, s6_from_16, s6_from_19, s6_from_20, s6_from_23, s6_from_26, s6_from_27, s6_from_28, s6_from_31, s6_from_34, s6_from_35, s6_from_36, s6_from_37, s6_from_38, s6_from_39, s6_from_40, s6_from_43, s6_from_46, s6_from_47, am_k1_int, am_k1_ref, am_k1_none, am_cats_nil, am_cats_int, am_cats_ref, am_cats_long, Option.toList_some, Option.toList_none, List.singleton_append, List.nil_append, List.cons_append, true_and, and_true, if_true, if_false, va_rf, ↓reduceIte, Nat.reduceAdd, Nat.reduceMul, Nat.reduceSub, Nat.reduceLT, Nat.reduceLeDiff, Nat.reduceEqDiff, Nat.zero_le, Nat.add_zero, Nat.le_refl, nI_add, mul_nI, lt_nI, le_nI, eq_nI, bnd_nI, ci_nI, decide_eq_true_eq, decide_true, decide_false, Bool.true_or, Bool.or_true, Bool.or_false, Bool.false_or, not_true_eq_false, not_false_eq_true, Bool.false_eq_true, Bool.false_and, Bool.true_and, Bool.and_true, Bool.and_false, Bool.not_true, Bool.not_false, false_and, and_false, and_self, ob_1, rf_1_0, rf_1_1, rf_1_2, rf_1_3, rf_1_4, rf_1_5, rf_1_6, rf_1_7, rf_1_8, ob_2, rf_2_0, ib_3, rd_3, ob_4, rf_4_1, rf_4_2, rf_4_3, rf_4_5, rf_4_6, rf_4_7, rf_4_8, ib_5, rd_5, ib_6, rd_6, ib_7, rd_7, ib_8, rd_8, ib_9, rd_9, ib_10, rd_10, ib_11, rd_11, ob_12, rf_12_1, rf_12_2, rf_12_3, rf_12_5, rf_12_6, rf_12_7, rf_12_8, ib_13, rd_13, ib_14, rd_14, ib_15, rd_15, ib_16, rd_16, ib_17, rd_17, ib_18, rd_18, ib_19, rd_19, ob_20, rf_20_3, rf_20_4, ib_21, rd_21, ib_22, rd_22, ob_23, rf_23_0, ib_24, ix_24, rf_24_0, rf_24_1, rf_24_2, rf_24_3, rf_24_4, rf_24_5, rf_24_6, rf_24_7, rf_24_8, rf_24_9, ib_55, ix_55, rf_55_0, rf_55_1, ib_56, ob_57, rf_57_0, rf_57_1, ib_58, rd_58, ib_59, ob_60, rf_60_2, rf_60_3, rf_60_4, rf_60_5, rf_60_6, ib_61, rd_61, ib_62, ib_63, ix_63, rf_63_0, rf_63_1, rf_63_2, rf_63_3, rf_63_4, tb_t, tb_f, a2, h1, he4, b3, c2_agreeWith hF.1 hF.2.1, hag, hd, bi_t, bi_f, ite_bi2, bi_ret, ret_0, ret_1] <;> exact ih
theorem c6_from (hT : am_tbr sw T) (hO : ar_told tn) (hA : ar_T T tn I) (hF : ar_F fm fi pm I) : am_call (d + 3) m6_from [.ref 1] (am_sh n, I, J, am_Rf sw) Q ↔ Q (some (.int (nI (am_bs (fun e => ar_ag fm fi (tn (14 + e)) pm) (tn 0))))) (am_sh n, I, J, am_Rf sw) := by
  rw [← l6_from (d := d) (n := n) (J := J) (Q := Q) hT hO hA hF (tn 0) 0 (by omega), e6_from, s6_from_0, s6_from_1, s6_from_2, s6_from_3]
  exact Iff.rfl
theorem l7_inFog {k : Nat} (hk : k < 2147483648) (hO : ar_told tn) (hA : ar_T T tn I) : ∀ (r e : Nat), e + r = tn 0 → (am_wp d m7_inFog 4 [some (.ref 77), some (.int (nI k)), some (.int (nI (am_bs (fun e => decide (k ≤ tn (14 + e))) e))), some (.int (nI e))] [] (am_sh n, I, J, am_Rf sw) Q ↔ Q (some (.int (nI (am_bs (fun e => decide (k ≤ tn (14 + e))) (tn 0))))) (am_sh n, I, J, am_Rf sw))
  | 0, e, hm => by
    obtain ⟨a1, a2, a3, a4, a5, a6, a7⟩ := id hA
    have o1 := hO.1
    have t0 := a1 0 (by omega)
    obtain rfl : e = tn 0 := by omega
    simp (disch := omega) only [e7_inFog, s7_inFog_0, s7_inFog_1, s7_inFog_2, s7_inFog_3, s7_inFog_4, s7_inFog_5, s7_inFog_6, s7_inFog_9, s7_inFog_10, s7_inFog_11, s7_inFog_14, s7_inFog_15, s7_inFog_16, s7_inFog_19, s7_inFog_21, s7_inFog_22, s7_inFog_23, s7_inFog_24, s7_inFog_25, s7_inFog_28, s7_inFog_29, s7_inFog_30, s7_inFog_31, s7_inFog_34, s7_inFog_35, s7_inFog_36, s7_inFog_37, s7_inFog_40, s7_inFog_43, s7_inFog_44, am_k1_int, am_k1_ref, am_k1_none, am_cats_nil, am_cats_int, am_cats_ref, am_cats_long, Option.toList_some, Option.toList_none, List.singleton_append, List.nil_append, List.cons_append, true_and, and_true, if_true, if_false, va_rf, ↓reduceIte, Nat.reduceAdd, Nat.reduceMul, Nat.reduceSub, Nat.reduceLT, Nat.reduceLeDiff, Nat.reduceEqDiff, Nat.zero_le, Nat.add_zero, Nat.le_refl, nI_add, mul_nI, lt_nI, le_nI, eq_nI, bnd_nI, ci_nI, decide_eq_true_eq, decide_true, decide_false, Bool.true_or, Bool.or_true, Bool.or_false, Bool.false_or, not_true_eq_false, not_false_eq_true, Bool.false_eq_true, Bool.false_and, Bool.true_and, Bool.and_true, Bool.and_false, Bool.not_true, Bool.not_false, false_and, and_false, and_self, ob_77, rf_77_1, rf_77_3, rf_77_4, rf_77_5, rf_77_6, rf_77_8, rf_77_9, rf_77_10, rf_77_16, rf_77_17, rf_77_18, rf_77_19, rf_77_20, ib_78, rd_78, ib_79, rd_79, ib_80, rd_80, ib_81, rd_81, ib_82, rd_82, ib_83, rd_83, ib_84, ib_85, rd_85, ib_86, rd_86, ib_87, rd_87, ib_88, ib_89, rd_89, ib_90, rd_90, t0]
  | r + 1, e, hm => by
    have ih := l7_inFog hk hO hA r (e + 1) (by omega)
    obtain ⟨a1, a2, a3, a4, a5, a6, a7⟩ := id hA
    have o1 := hO.1
    have t0 := a1 0 (by omega)
    have h1 : ¬ tn 0 ≤ e := by omega
    have t14 := a1 (14 + e) (by omega)
    have q14 : 14 + e < 42 := by omega
    have v14 := hO.2.2.2.2.1 e (by omega)
    have hlt := bs_16 (p := fun e => decide (k ≤ tn (14 + e))) (n := e) (by omega)
    have hor := bs_or (p := fun e => decide (k ≤ tn (14 + e))) (n := e) (by omega)
    have h2e := p4 (n := e) (by omega)
    rw [s7_inFog_4]
    by_cases hd : k ≤ tn (14 + e)
    · have hd2 : ¬ tn (14 + e) < k := by omega
      simp only [am_bs, hd, decide_true, if_true] at ih
      simp (disch := omega) only [e7_inFog, s7_inFog_0, s7_inFog_1, s7_inFog_2, s7_inFog_3, s7_inFog_5, s7_inFog_6, s7_inFog_9, s7_inFog_10, s7_inFog_11, s7_inFog_14, s7_inFog_15, s7_inFog_16, s7_inFog_19, s7_inFog_21, s7_inFog_22, s7_inFog_23, s7_inFog_24, s7_inFog_25, s7_inFog_28, s7_inFog_29, s7_inFog_30, s7_inFog_31, s7_inFog_34, s7_inFog_35, s7_inFog_36, s7_inFog_37, s7_inFog_40, s7_inFog_43, s7_inFog_44, am_k1_int, am_k1_ref, am_k1_none, am_cats_nil, am_cats_int, am_cats_ref, am_cats_long, Option.toList_some, Option.toList_none, List.singleton_append, List.nil_append, List.cons_append, true_and, and_true, if_true, if_false, va_rf, ↓reduceIte, Nat.reduceAdd, Nat.reduceMul, Nat.reduceSub, Nat.reduceLT, Nat.reduceLeDiff, Nat.reduceEqDiff, Nat.zero_le, Nat.add_zero, Nat.le_refl, nI_add, mul_nI, lt_nI, le_nI, eq_nI, bnd_nI, ci_nI, decide_eq_true_eq, decide_true, decide_false, Bool.true_or, Bool.or_true, Bool.or_false, Bool.false_or, not_true_eq_false, not_false_eq_true, Bool.false_eq_true, Bool.false_and, Bool.true_and, Bool.and_true, Bool.and_false, Bool.not_true, Bool.not_false, false_and, and_false, and_self, ob_77, rf_77_1, rf_77_3, rf_77_4, rf_77_5, rf_77_6, rf_77_8, rf_77_9, rf_77_10, rf_77_16, rf_77_17, rf_77_18, rf_77_19, rf_77_20, ib_78, rd_78, ib_79, rd_79, ib_80, rd_80, ib_81, rd_81, ib_82, rd_82, ib_83, rd_83, ib_84, ib_85, rd_85, ib_86, rd_86, ib_87, rd_87, ib_88, ib_89, rd_89, ib_90, rd_90, t0, h1, q14, t14, hd2, shl_nI, Nat.one_mul, or_nI, hor]
      exact ih
    · have hd2 : tn (14 + e) < k := by omega
      simp only [am_bs, hd, decide_false, Bool.false_eq_true, if_false, Nat.add_zero] at ih
      simp (disch := omega) only [e7_inFog, s7_inFog_0, s7_inFog_1, s7_inFog_2, s7_inFog_3, s7_inFog_5, s7_inFog_6, s7_inFog_9, s7_inFog_10, s7_inFog_11, s7_inFog_14, s7_inFog_15, s7_inFog_16, s7_inFog_19, s7_inFog_21, s7_inFog_22, s7_inFog_23, s7_inFog_24, s7_inFog_25, s7_inFog_28, s7_inFog_29, s7_inFog_30, s7_inFog_31, s7_inFog_34, s7_inFog_35, s7_inFog_36, s7_inFog_37, s7_inFog_40, s7_inFog_43, s7_inFog_44, am_k1_int, am_k1_ref, am_k1_none, am_cats_nil, am_cats_int, am_cats_ref, am_cats_long, Option.toList_some, Option.toList_none, List.singleton_append, List.nil_append, List.cons_append, true_and, and_true, if_true, if_false, va_rf, ↓reduceIte, Nat.reduceAdd, Nat.reduceMul, Nat.reduceSub, Nat.reduceLT, Nat.reduceLeDiff, Nat.reduceEqDiff, Nat.zero_le, Nat.add_zero, Nat.le_refl, nI_add, mul_nI, lt_nI, le_nI, eq_nI, bnd_nI, ci_nI, decide_eq_true_eq, decide_true, decide_false, Bool.true_or, Bool.or_true, Bool.or_false, Bool.false_or, not_true_eq_false, not_false_eq_true, Bool.false_eq_true, Bool.false_and, Bool.true_and, Bool.and_true, Bool.and_false, Bool.not_true, Bool.not_false, false_and, and_false, and_self, ob_77, rf_77_1, rf_77_3, rf_77_4, rf_77_5, rf_77_6, rf_77_8, rf_77_9, rf_77_10, rf_77_16, rf_77_17, rf_77_18, rf_77_19, rf_77_20, ib_78, rd_78, ib_79, rd_79, ib_80, rd_80, ib_81, rd_81, ib_82, rd_82, ib_83, rd_83, ib_84, ib_85, rd_85, ib_86, rd_86, ib_87, rd_87, ib_88, ib_89, rd_89, ib_90, rd_90, t0, h1, q14, t14, hd2, or_nI, Nat.or_zero]
      exact ih
theorem c7_inFog {k : Nat} (hk : k < 2147483648) (hO : ar_told tn) (hA : ar_T T tn I) : am_call (d + 1) m7_inFog [.ref 77, .int (nI k)] (am_sh n, I, J, am_Rf sw) Q ↔ Q (some (.int (nI (am_bs (fun e => decide (k ≤ tn (14 + e))) (tn 0))))) (am_sh n, I, J, am_Rf sw) := by
  rw [← l7_inFog (d := d) (n := n) (J := J) (Q := Q) hk hO hA (tn 0) 0 (by omega), e7_inFog, s7_inFog_0, s7_inFog_1, s7_inFog_2, s7_inFog_3]
  exact Iff.rfl
set_option maxHeartbeats 4000000 in
theorem l7_fromNow (hO : ar_told tn) (hA : ar_T T tn I) (hF : ar_F fm fi pm I) : ∀ (r i : Nat) (l3 : Option Value), i + r = pm → (am_wp (d + 1) m7_fromNow 13 [some (.ref 77), some (.int (nI (am_bs (fun e => ar_ag fm fi (tn (14 + e)) i) (tn 0)))), some (.int (nI i)), l3] [] (am_sh n, I, J, am_Rf sw) Q ↔ Q (some (.int (nI (am_bs (fun e => ar_ag fm fi (tn (14 + e)) pm) (tn 0))))) (am_sh n, I, J, am_Rf sw))
  | 0, i, l3, hm => by
    obtain ⟨f0, f1, f2, f3⟩ := id hF
    obtain rfl : i = pm := by omega
    simp (disch := omega) only [e7_fromNow, s7_fromNow_0, s7_fromNow_1, s7_fromNow_2, s7_fromNow_5, s7_fromNow_6, s7_fromNow_7, s7_fromNow_8, s7_fromNow_9, s7_fromNow_10, s7_fromNow_11, s7_fromNow_12, s7_fromNow_13, s7_fromNow_14, s7_fromNow_15, s7_fromNow_18, s7_fromNow_21, s7_fromNow_22, s7_fromNow_23, s7_fromNow_26, s7_fromNow_27, s7_fromNow_28, s7_fromNow_29, s7_fromNow_30, s7_fromNow_33, s7_fromNow_34, s7_fromNow_35, s7_fromNow_36, s7_fromNow_39, s7_fromNow_40, s7_fromNow_41, s7_fromNow_42, s7_fromNow_43, s7_fromNow_44, s7_fromNow_47, s7_fromNow_48, s7_fromNow_51, s7_fromNow_52, s7_fromNow_53, s7_fromNow_54, s7_fromNow_55, s7_fromNow_56, s7_fromNow_59, s7_fromNow_62, s7_fromNow_63, am_k1_int, am_k1_ref, am_k1_none, am_cats_nil, am_cats_int, am_cats_ref, am_cats_long, Option.toList_some, Option.toList_none, List.singleton_append, List.nil_append, List.cons_append, true_and, and_true, if_true, if_false, va_rf, ↓reduceIte, Nat.reduceAdd, Nat.reduceMul, Nat.reduceSub, Nat.reduceLT, Nat.reduceLeDiff, Nat.reduceEqDiff, Nat.zero_le, Nat.add_zero, Nat.le_refl, nI_add, mul_nI, lt_nI, le_nI, eq_nI, bnd_nI, ci_nI, decide_eq_true_eq, decide_true, decide_false, Bool.true_or, Bool.or_true, Bool.or_false, Bool.false_or, not_true_eq_false, not_false_eq_true, Bool.false_eq_true, Bool.false_and, Bool.true_and, Bool.and_true, Bool.and_false, Bool.not_true, Bool.not_false, false_and, and_false, and_self, ob_77, rf_77_1, rf_77_3, rf_77_4, rf_77_5, rf_77_6, rf_77_8, rf_77_9, rf_77_10, rf_77_16, rf_77_17, rf_77_18, rf_77_19, rf_77_20, ib_78, rd_78, ib_79, rd_79, ib_80, rd_80, ib_81, rd_81, ib_82, rd_82, ib_83, rd_83, ib_84, ib_85, rd_85, ib_86, rd_86, ib_87, rd_87, ib_88, ib_89, rd_89, ib_90, rd_90, f2]
  | r + 1, i, l3, hm => by
    have ih := l7_fromNow hO hA hF r (i + 1)
    obtain ⟨f0, f1, f2, f3⟩ := id hF
    obtain ⟨g1, g2, g3, g4, g5, g6⟩ := f3 i (by omega)
    have o1 := hO.1
    have h1 : ¬ pm ≤ i := by omega
    have hi6 : i < 6 := by omega
    have e1 : (2 * fm i + fi i) / 2 = fm i := by omega
    have e2 : (2 * fm i + fi i) % 2 = fi i := by omega
    have hs := bs_16 (p := fun e => ar_ag fm fi (tn (14 + e)) i) (n := tn 0) o1
    have hf := bs_16 (p := fun e => decide (fm i ≤ tn (14 + e))) (n := tn 0) o1
    have ha := bs_and (p := fun e => ar_ag fm fi (tn (14 + e)) i) (q := fun e => decide (fm i ≤ tn (14 + e))) o1
    have hn := bs_nand (p := fun e => ar_ag fm fi (tn (14 + e)) i) (q := fun e => decide (fm i ≤ tn (14 + e))) o1
    have p20 : ¬ nI 2 = nI 0 := by decide
    rw [s7_fromNow_13]
    by_cases hfi : fi i = 1
    · have ee : (fun e => ar_ag fm fi (tn (14 + e)) (i + 1)) = fun e => (ar_ag fm fi (tn (14 + e)) i && decide (fm i ≤ tn (14 + e))) := by
        funext e
        simp only [ar_ag, hfi]
        by_cases h : fm i ≤ tn (14 + e) <;> simp [h]
      rw [ee] at ih
      rw [hfi] at g6 e1 e2
      have e3 : 2 * fm i + 1 - fm i * 2 = 1 := by omega
      simp (disch := omega) only [e7_fromNow, s7_fromNow_0, s7_fromNow_1, s7_fromNow_2, s7_fromNow_5, s7_fromNow_6, s7_fromNow_7, s7_fromNow_8, s7_fromNow_9, s7_fromNow_10, s7_fromNow_11, s7_fromNow_12, s7_fromNow_14, s7_fromNow_15, s7_fromNow_18, s7_fromNow_21, s7_fromNow_22, s7_fromNow_23, s7_fromNow_26, s7_fromNow_27, s7_fromNow_28, s7_fromNow_29, s7_fromNow_30, s7_fromNow_33, s7_fromNow_34, s7_fromNow_35, s7_fromNow_36, s7_fromNow_39, s7_fromNow_40, s7_fromNow_41, s7_fromNow_42, s7_fromNow_43, s7_fromNow_44, s7_fromNow_47, s7_fromNow_48, s7_fromNow_51, s7_fromNow_52, s7_fromNow_53, s7_fromNow_54, s7_fromNow_55, s7_fromNow_56, s7_fromNow_59, s7_fromNow_62, s7_fromNow_63, am_k1_int, am_k1_ref, am_k1_none, am_cats_nil, am_cats_int, am_cats_ref, am_cats_long, Option.toList_some, Option.toList_none, List.singleton_append, List.nil_append, List.cons_append, true_and, and_true, if_true, if_false, va_rf, ↓reduceIte, Nat.reduceAdd, Nat.reduceMul, Nat.reduceSub, Nat.reduceLT, Nat.reduceLeDiff, Nat.reduceEqDiff, Nat.zero_le, Nat.add_zero, Nat.le_refl, nI_add, mul_nI, lt_nI, le_nI, eq_nI, bnd_nI, ci_nI, decide_eq_true_eq, decide_true, decide_false, Bool.true_or, Bool.or_true, Bool.or_false, Bool.false_or, not_true_eq_false, not_false_eq_true, Bool.false_eq_true, Bool.false_and, Bool.true_and, Bool.and_true, Bool.and_false, Bool.not_true, Bool.not_false, false_and, and_false, and_self, ob_77, rf_77_1, rf_77_3, rf_77_4, rf_77_5, rf_77_6, rf_77_8, rf_77_9, rf_77_10, rf_77_16, rf_77_17, rf_77_18, rf_77_19, rf_77_20, ib_78, rd_78, ib_79, rd_79, ib_80, rd_80, ib_81, rd_81, ib_82, rd_82, ib_83, rd_83, ib_84, ib_85, rd_85, ib_86, rd_86, ib_87, rd_87, ib_88, ib_89, rd_89, ib_90, rd_90, f2, h1, hi6, g6, pk_div, sub_nI, e1, e2, e3, c7_inFog (show fm i < 2147483648 by omega) hO hA, and_nI, ha, p20]
      exact ih _ (by omega)
    · have hfi0 : fi i = 0 := by omega
      have ee : (fun e => ar_ag fm fi (tn (14 + e)) (i + 1)) = fun e => (ar_ag fm fi (tn (14 + e)) i && !decide (fm i ≤ tn (14 + e))) := by
        funext e
        simp only [ar_ag, hfi0]
        by_cases h : fm i ≤ tn (14 + e) <;> simp [h]
      rw [ee] at ih
      rw [hfi0] at g6 e1 e2
      simp only [Nat.add_zero] at g6 e1 e2
      have e3 : 2 * fm i - fm i * 2 = 0 := by omega
      simp (disch := omega) only [e7_fromNow, s7_fromNow_0, s7_fromNow_1, s7_fromNow_2, s7_fromNow_5, s7_fromNow_6, s7_fromNow_7, s7_fromNow_8, s7_fromNow_9, s7_fromNow_10, s7_fromNow_11, s7_fromNow_12, s7_fromNow_14, s7_fromNow_15, s7_fromNow_18, s7_fromNow_21, s7_fromNow_22, s7_fromNow_23, s7_fromNow_26, s7_fromNow_27, s7_fromNow_28, s7_fromNow_29, s7_fromNow_30, s7_fromNow_33, s7_fromNow_34, s7_fromNow_35, s7_fromNow_36, s7_fromNow_39, s7_fromNow_40, s7_fromNow_41, s7_fromNow_42, s7_fromNow_43, s7_fromNow_44, s7_fromNow_47, s7_fromNow_48, s7_fromNow_51, s7_fromNow_52, s7_fromNow_53, s7_fromNow_54, s7_fromNow_55, s7_fromNow_56, s7_fromNow_59, s7_fromNow_62, s7_fromNow_63, am_k1_int, am_k1_ref, am_k1_none, am_cats_nil, am_cats_int, am_cats_ref, am_cats_long, Option.toList_some, Option.toList_none, List.singleton_append, List.nil_append, List.cons_append, true_and, and_true, if_true, if_false, va_rf, ↓reduceIte, Nat.reduceAdd, Nat.reduceMul, Nat.reduceSub, Nat.reduceLT, Nat.reduceLeDiff, Nat.reduceEqDiff, Nat.zero_le, Nat.add_zero, Nat.le_refl, nI_add, mul_nI, lt_nI, le_nI, eq_nI, bnd_nI, ci_nI, decide_eq_true_eq, decide_true, decide_false, Bool.true_or, Bool.or_true, Bool.or_false, Bool.false_or, not_true_eq_false, not_false_eq_true, Bool.false_eq_true, Bool.false_and, Bool.true_and, Bool.and_true, Bool.and_false, Bool.not_true, Bool.not_false, false_and, and_false, and_self, ob_77, rf_77_1, rf_77_3, rf_77_4, rf_77_5, rf_77_6, rf_77_8, rf_77_9, rf_77_10, rf_77_16, rf_77_17, rf_77_18, rf_77_19, rf_77_20, ib_78, rd_78, ib_79, rd_79, ib_80, rd_80, ib_81, rd_81, ib_82, rd_82, ib_83, rd_83, ib_84, ib_85, rd_85, ib_86, rd_86, ib_87, rd_87, ib_88, ib_89, rd_89, ib_90, rd_90, f2, h1, hi6, g6, pk_div, sub_nI, e1, e2, e3, c7_inFog (show fm i < 2147483648 by omega) hO hA, andx_nI, hn, p20]
      exact ih _ (by omega)
theorem c7_fromNow (hO : ar_told tn) (hA : ar_T T tn I) (hF : ar_F fm fi pm I) : am_call (d + 2) m7_fromNow [.ref 77] (am_sh n, I, J, am_Rf sw) Q ↔ Q (some (.int (nI (am_bs (fun e => ar_ag fm fi (tn (14 + e)) pm) (tn 0))))) (am_sh n, I, J, am_Rf sw) := by
  have o1 := hO.1
  have t0 := hA.1 0 (by omega)
  have h2e := p4 o1
  have h1 : 1 ≤ 2 ^ tn 0 := Nat.one_le_two_pow
  have e : am_bs (fun _ => true) (tn 0) = am_bs (fun e => ar_ag fm fi (tn (14 + e)) 0) (tn 0) := rfl
  rw [← l7_fromNow (d := d) (n := n) (J := J) (Q := Q) hO hA hF pm 0 none (by omega), ← e, ← bs_tt o1]
  simp (disch := omega) only [e7_fromNow, s7_fromNow_0, s7_fromNow_1, s7_fromNow_2, s7_fromNow_5, s7_fromNow_6, s7_fromNow_7, s7_fromNow_8, s7_fromNow_9, s7_fromNow_10, s7_fromNow_11, s7_fromNow_12, s7_fromNow_14, s7_fromNow_15, s7_fromNow_18, s7_fromNow_21, s7_fromNow_22, s7_fromNow_23, s7_fromNow_26, s7_fromNow_27, s7_fromNow_28, s7_fromNow_29, s7_fromNow_30, s7_fromNow_33, s7_fromNow_34, s7_fromNow_35, s7_fromNow_36, s7_fromNow_39, s7_fromNow_40, s7_fromNow_41, s7_fromNow_42, s7_fromNow_43, s7_fromNow_44, s7_fromNow_47, s7_fromNow_48, s7_fromNow_51, s7_fromNow_52, s7_fromNow_53, s7_fromNow_54, s7_fromNow_55, s7_fromNow_56, s7_fromNow_59, s7_fromNow_62, s7_fromNow_63, am_k1_int, am_k1_ref, am_k1_none, am_cats_nil, am_cats_int, am_cats_ref, am_cats_long, Option.toList_some, Option.toList_none, List.singleton_append, List.nil_append, List.cons_append, true_and, and_true, if_true, if_false, va_rf, ↓reduceIte, Nat.reduceAdd, Nat.reduceMul, Nat.reduceSub, Nat.reduceLT, Nat.reduceLeDiff, Nat.reduceEqDiff, Nat.zero_le, Nat.add_zero, Nat.le_refl, nI_add, mul_nI, lt_nI, le_nI, eq_nI, bnd_nI, ci_nI, decide_eq_true_eq, decide_true, decide_false, Bool.true_or, Bool.or_true, Bool.or_false, Bool.false_or, not_true_eq_false, not_false_eq_true, Bool.false_eq_true, Bool.false_and, Bool.true_and, Bool.and_true, Bool.and_false, Bool.not_true, Bool.not_false, false_and, and_false, and_self, ob_77, rf_77_1, rf_77_3, rf_77_4, rf_77_5, rf_77_6, rf_77_8, rf_77_9, rf_77_10, rf_77_16, rf_77_17, rf_77_18, rf_77_19, rf_77_20, ib_78, rd_78, ib_79, rd_79, ib_80, rd_80, ib_81, rd_81, ib_82, rd_82, ib_83, rd_83, ib_84, ib_85, rd_85, ib_86, rd_86, ib_87, rd_87, ib_88, ib_89, rd_89, ib_90, rd_90, t0, shl_nI, Nat.one_mul, sub_nI]
end
