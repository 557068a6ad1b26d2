/-- the greater part of the dawns of a predicate, parted at a minute -/
def ar_gp (tn : Nat → Nat) (p : Nat → Bool) (k : Nat) : Nat := max (am_bc (fun e => p e && decide (k ≤ tn (14 + e))) (tn 0)) (am_bc p (tn 0) - am_bc (fun e => p e && decide (k ≤ tn (14 + e))) (tn 0))
def ar_bst (G : Nat → Nat) : Nat → Nat
  | 0 => 1
  | j + 1 => if G (j + 2) < G (ar_bst G j) then j + 2 else ar_bst G j
theorem bst_le {G : Nat → Nat} : ∀ j, ar_bst G j ≤ j + 1
  | 0 => Nat.le_refl _
  | j + 1 => by
    have := bst_le (G := G) j
    simp only [ar_bst]
    split <;> omega
theorem bc_sub {p q : Nat → Bool} : ∀ n, am_bc (fun e => p e && q e) n ≤ am_bc p n
  | 0 => Nat.le_refl _
  | n + 1 => by
    have := bc_sub (p := p) (q := q) n
    simp only [am_bc]
    have key : ∀ a b : Bool, (if (a && b) = true then 1 else 0) ≤ (if a = true then 1 else 0 : Nat) := by decide
    have := key (p n) (q n)
    omega
section
variable {n d : Nat} {I : Nat → Nat → Int32} {J : Nat → Nat → Int64} {sw : Bool} {Q : am_Post} {T pm : Nat} {tn fm fi : Nat → Nat} {p : Nat → Bool}
theorem l6_greaterPart {k : Nat} (hk : k < 2147483648) (hT : am_tbr sw T) (hO : ar_told tn) (hA : ar_T T tn I) : ∀ (r e : Nat), e + r = tn 0 → (am_wp (d + 1) m6_greaterPart 5 [some (.ref 1), some (.int (nI (am_bs p (tn 0)))), some (.int (nI k)), some (.int (nI (am_bc (fun e => p e && decide (k ≤ tn (14 + e))) e))), some (.int (nI e))] [] (am_sh n, I, J, am_Rf sw) Q ↔ Q (some (.int (nI (ar_gp tn p k)))) (am_sh n, I, J, am_Rf sw))
  | 0, e, hm => by
    obtain ⟨a1, a2, a3, a4, a5, a6, a7⟩ := id hA
    have o1 := hO.1
    obtain rfl : e = tn 0 := by omega
    have h16 := bs_16 (p := p) o1
    have hpc := pc_bs (p := p) o1
    have hs := bc_sub (p := p) (q := fun e => decide (k ≤ tn (14 + e))) (tn 0)
    have hle := bc_le (p := p) (tn 0)
    rcases id hT with ⟨rfl, rfl⟩ | ⟨rfl, rfl⟩ <;> simp (disch := omega) only [e6_greaterPart, s6_greaterPart_0, s6_greaterPart_1, s6_greaterPart_2, s6_greaterPart_3, s6_greaterPart_5, s6_greaterPart_7, s6_greaterPart_8, s6_greaterPart_11, s6_greaterPart_14, s6_greaterPart_17, s6_greaterPart_18, s6_greaterPart_20, s6_greaterPart_21, s6_greaterPart_22, s6_greaterPart_23, s6_greaterPart_24, s6_greaterPart_27, s6_greaterPart_28, s6_greaterPart_31, s6_greaterPart_34, s6_greaterPart_36, s6_greaterPart_37, s6_greaterPart_38, s6_greaterPart_41, s6_greaterPart_44, s6_greaterPart_47, s6_greaterPart_50, s6_greaterPart_51, s6_greaterPart_52, s6_greaterPart_55, s6_greaterPart_56, s6_greaterPart_57, s6_greaterPart_60, am_k1_int, am_k1_ref, am_k1_none, am_cats_nil, am_cats_int, am_cats_ref, am_cats_long, Option.toList_some, Option.toList_none, List.singleton_append, List.nil_append, List.cons_append, true_and, and_true, if_true, if_false, va_rf, ↓reduceIte, Nat.reduceAdd, Nat.reduceMul, Nat.reduceSub, Nat.reduceLT, Nat.reduceLeDiff, Nat.reduceEqDiff, Nat.zero_le, Nat.add_zero, Nat.le_refl, nI_add, mul_nI, lt_nI, le_nI, eq_nI, bnd_nI, ci_nI, decide_eq_true_eq, decide_true, decide_false, Bool.true_or, Bool.or_true, Bool.or_false, Bool.false_or, not_true_eq_false, not_false_eq_true, Bool.false_eq_true, Bool.false_and, Bool.true_and, Bool.and_true, Bool.and_false, Bool.not_true, Bool.not_false, false_and, and_false, and_self, ob_1, rf_1_0, rf_1_1, rf_1_2, rf_1_3, rf_1_4, rf_1_5, rf_1_6, rf_1_7, rf_1_8, ob_2, rf_2_0, ib_3, rd_3, ob_4, rf_4_1, rf_4_2, rf_4_3, rf_4_5, rf_4_6, rf_4_7, rf_4_8, ib_5, rd_5, ib_6, rd_6, ib_7, rd_7, ib_8, rd_8, ib_9, rd_9, ib_10, rd_10, ib_11, rd_11, ob_12, rf_12_1, rf_12_2, rf_12_3, rf_12_5, rf_12_6, rf_12_7, rf_12_8, ib_13, rd_13, ib_14, rd_14, ib_15, rd_15, ib_16, rd_16, ib_17, rd_17, ib_18, rd_18, ib_19, rd_19, ob_20, rf_20_3, rf_20_4, ib_21, rd_21, ib_22, rd_22, ob_23, rf_23_0, ib_24, ix_24, rf_24_0, rf_24_1, rf_24_2, rf_24_3, rf_24_4, rf_24_5, rf_24_6, rf_24_7, rf_24_8, rf_24_9, ib_55, ix_55, rf_55_0, rf_55_1, ib_56, ob_57, rf_57_0, rf_57_1, ib_58, rd_58, ib_59, ob_60, rf_60_2, rf_60_3, rf_60_4, rf_60_5, rf_60_6, ib_61, rd_61, ib_62, ib_63, ix_63, rf_63_0, rf_63_1, rf_63_2, rf_63_3, rf_63_4, tb_t, tb_f, a2, cJ6_bitCount, hpc, sub_nI, cJ9_max] <;> rfl
  | r + 1, e, hm => by
    have ih := l6_greaterPart hk hT hO hA r (e + 1) (by omega)
    obtain ⟨a1, a2, a3, a4, a5, a6, a7⟩ := id hA
    have o1 := hO.1
    have h1 : ¬ tn 0 ≤ e := by omega
    have he4 : e < 4 := by omega
    have b3 := (a6 e (by omega)).2.2
    have v14 := hO.2.2.2.2.1 e he4
    have h16 := bs_16 (p := p) o1
    have hi := isb_nI (a := am_bs p (tn 0)) (c := e) (by omega) (by omega)
    rw [bs_bit o1 (by omega)] at hi
    rw [s6_greaterPart_5]
    cases hd : p e with
    | true =>
      rw [hd] at hi
      have hi2 : nI (am_bs p (tn 0)) >>> (nI e &&& 31) &&& nI 1 = nI 1 := of_decide_eq_true hi
      by_cases hq : k ≤ tn (14 + e)
      · have hq2 : ¬ tn (14 + e) < k := by omega
        simp only [am_bc, hd, hq, decide_true, Bool.true_and, if_true] at ih
        rcases id hT with ⟨rfl, rfl⟩ | ⟨rfl, rfl⟩ <;> simp only [Nat.reduceAdd] at b3 <;> simp (disch := omega) only [e6_greaterPart, s6_greaterPart_0, s6_greaterPart_1, s6_greaterPart_2, s6_greaterPart_3, s6_greaterPart_7, s6_greaterPart_8, s6_greaterPart_11, s6_greaterPart_14, s6_greaterPart_17, s6_greaterPart_18, s6_greaterPart_20, s6_greaterPart_21, s6_greaterPart_22, s6_greaterPart_23, s6_greaterPart_24, s6_greaterPart_27, s6_greaterPart_28, s6_greaterPart_31, s6_greaterPart_34, s6_greaterPart_36, s6_greaterPart_37, s6_greaterPart_38, s6_greaterPart_41, s6_greaterPart_44, s6_greaterPart_47, s6_greaterPart_50, s6_greaterPart_51, s6_greaterPart_52, s6_greaterPart_55, s6_greaterPart_56, s6_greaterPart_57, s6_greaterPart_60, am_k1_int, am_k1_ref, am_k1_none, am_cats_nil, am_cats_int, am_cats_ref, am_cats_long, Option.toList_some, Option.toList_none, List.singleton_append, List.nil_append, List.cons_append, true_and, and_true, if_true, if_false, va_rf, ↓reduceIte, Nat.reduceAdd, Nat.reduceMul, Nat.reduceSub, Nat.reduceLT, Nat.reduceLeDiff, Nat.reduceEqDiff, Nat.zero_le, Nat.add_zero, Nat.le_refl, nI_add, mul_nI, lt_nI, le_nI, eq_nI, bnd_nI, ci_nI, decide_eq_true_eq, decide_true, decide_false, Bool.true_or, Bool.or_true, Bool.or_false, Bool.false_or, not_true_eq_false, not_false_eq_true, Bool.false_eq_true, Bool.false_and, Bool.true_and, Bool.and_true, Bool.and_false, Bool.not_true, Bool.not_false, false_and, and_false, and_self, ob_1, rf_1_0, rf_1_1, rf_1_2, rf_1_3, rf_1_4, rf_1_5, rf_1_6, rf_1_7, rf_1_8, ob_2, rf_2_0, ib_3, rd_3, ob_4, rf_4_1, rf_4_2, rf_4_3, rf_4_5, rf_4_6, rf_4_7, rf_4_8, ib_5, rd_5, ib_6, rd_6, ib_7, rd_7, ib_8, rd_8, ib_9, rd_9, ib_10, rd_10, ib_11, rd_11, ob_12, rf_12_1, rf_12_2, rf_12_3, rf_12_5, rf_12_6, rf_12_7, rf_12_8, ib_13, rd_13, ib_14, rd_14, ib_15, rd_15, ib_16, rd_16, ib_17, rd_17, ib_18, rd_18, ib_19, rd_19, ob_20, rf_20_3, rf_20_4, ib_21, rd_21, ib_22, rd_22, ob_23, rf_23_0, ib_24, ix_24, rf_24_0, rf_24_1, rf_24_2, rf_24_3, rf_24_4, rf_24_5, rf_24_6, rf_24_7, rf_24_8, rf_24_9, ib_55, ix_55, rf_55_0, rf_55_1, ib_56, ob_57, rf_57_0, rf_57_1, ib_58, rd_58, ib_59, ob_60, rf_60_2, rf_60_3, rf_60_4, rf_60_5, rf_60_6, ib_61, rd_61, ib_62, ib_63, ix_63, rf_63_0, rf_63_1, rf_63_2, rf_63_3, rf_63_4, tb_t, tb_f, a2, h1, he4, b3, hi2, hq2] <;> exact ih
      · have hq2 : tn (14 + e) < k := by omega
        simp only [am_bc, hd, hq, decide_false, Bool.and_false, Bool.false_eq_true, if_false, Nat.add_zero] at ih
        rcases id hT with ⟨rfl, rfl⟩ | ⟨rfl, rfl⟩ <;> simp only [Nat.reduceAdd] at b3 <;> simp (disch := omega) only [e6_greaterPart, s6_greaterPart_0, s6_greaterPart_1, s6_greaterPart_2, s6_greaterPart_3, s6_greaterPart_7, s6_greaterPart_8, s6_greaterPart_11, s6_greaterPart_14, s6_greaterPart_17, s6_greaterPart_18, s6_greaterPart_20, s6_greaterPart_21, s6_greaterPart_22, s6_greaterPart_23, s6_greaterPart_24, s6_greaterPart_27, s6_greaterPart_28, s6_greaterPart_31, s6_greaterPart_34, s6_greaterPart_36, s6_greaterPart_37, s6_greaterPart_38, s6_greaterPart_41, s6_greaterPart_44, s6_greaterPart_47, s6_greaterPart_50, s6_greaterPart_51, s6_greaterPart_52, s6_greaterPart_55, s6_greaterPart_56, s6_greaterPart_57, s6_greaterPart_60, am_k1_int, am_k1_ref, am_k1_none, am_cats_nil, am_cats_int, am_cats_ref, am_cats_long, Option.toList_some, Option.toList_none, List.singleton_append, List.nil_append, List.cons_append, true_and, and_true, if_true, if_false, va_rf, ↓reduceIte, Nat.reduceAdd, Nat.reduceMul, Nat.reduceSub, Nat.reduceLT, Nat.reduceLeDiff, Nat.reduceEqDiff, Nat.zero_le, Nat.add_zero, Nat.le_refl, nI_add, mul_nI, lt_nI, le_nI, eq_nI, bnd_nI, ci_nI, decide_eq_true_eq, decide_true, decide_false, Bool.true_or, Bool.or_true, Bool.or_false, Bool.false_or, not_true_eq_false, not_false_eq_true, Bool.false_eq_true, Bool.false_and, Bool.true_and, Bool.and_true, Bool.and_false, Bool.not_true, Bool.not_false, false_and, and_false, and_self, ob_1, rf_1_0, rf_1_1, rf_1_2, rf_1_3, rf_1_4, rf_1_5, rf_1_6, rf_1_7, rf_1_8, ob_2, rf_2_0, ib_3, rd_3, ob_4, rf_4_1, rf_4_2, rf_4_3, rf_4_5, rf_4_6, rf_4_7, rf_4_8, ib_5, rd_5, ib_6, rd_6, ib_7, rd_7, ib_8, rd_8, ib_9, rd_9, ib_10, rd_10, ib_11, rd_11, ob_12, rf_12_1, rf_12_2, rf_12_3, rf_12_5, rf_12_6, rf_12_7, rf_12_8, ib_13, rd_13, ib_14, rd_14, ib_15, rd_15, ib_16, rd_16, ib_17, rd_17, ib_18, rd_18, ib_19, rd_19, ob_20, rf_20_3, rf_20_4, ib_21, rd_21, ib_22, rd_22, ob_23, rf_23_0, ib_24, ix_24, rf_24_0, rf_24_1, rf_24_2, rf_24_3, rf_24_4, rf_24_5, rf_24_6, rf_24_7, rf_24_8, rf_24_9, ib_55, ix_55, rf_55_0, rf_55_1, ib_56, ob_57, rf_57_0, rf_57_1, ib_58, rd_58, ib_59, ob_60, rf_60_2, rf_60_3, rf_60_4, rf_60_5, rf_60_6, ib_61, rd_61, ib_62, ib_63, ix_63, rf_63_0, rf_63_1, rf_63_2, rf_63_3, rf_63_4, tb_t, tb_f, a2, h1, he4, b3, hi2, hq2] <;> exact ih
    | false =>
      rw [hd] at hi
      have hi2 : ¬ nI (am_bs p (tn 0)) >>> (nI e &&& 31) &&& nI 1 = nI 1 := of_decide_eq_false hi
      simp only [am_bc, hd, Bool.false_and, Bool.false_eq_true, if_false, Nat.add_zero] at ih
      rcases id hT with ⟨rfl, rfl⟩ | ⟨rfl, rfl⟩ <;> simp (disch := omega) only [e6_greaterPart, s6_greaterPart_0, s6_greaterPart_1, s6_greaterPart_2, s6_greaterPart_3, s6_greaterPart_7, s6_greaterPart_8, s6_greaterPart_11, s6_greaterPart_14, s6_greaterPart_17, s6_greaterPart_18, s6_greaterPart_20, s6_greaterPart_21, s6_greaterPart_22, s6_greaterPart_23, s6_greaterPart_24, s6_greaterPart_27, s6_greaterPart_28, s6_greaterPart_31, s6_greaterPart_34, s6_greaterPart_36, s6_greaterPart_37, s6_greaterPart_38, s6_greaterPart_41, s6_greaterPart_44, s6_greaterPart_47, s6_greaterPart_50, s6_greaterPart_51, s6_greaterPart_52, s6_greaterPart_55, s6_greaterPart_56, s6_greaterPart_57, s6_greaterPart_60, am_k1_int, am_k1_ref, am_k1_none, am_cats_nil, am_cats_int, am_cats_ref, am_cats_long, Option.toList_some, Option.toList_none, List.singleton_append, List.nil_append, List.cons_append, true_and, and_true, if_true, if_false, va_rf, ↓reduceIte, Nat.reduceAdd, Nat.reduceMul, Nat.reduceSub, Nat.reduceLT, Nat.reduceLeDiff, Nat.reduceEqDiff, Nat.zero_le, Nat.add_zero, Nat.le_refl, nI_add, mul_nI, lt_nI, le_nI, eq_nI, bnd_nI, ci_nI, decide_eq_true_eq, decide_true, decide_false, Bool.true_or, Bool.or_true, Bool.or_false, Bool.false_or, not_true_eq_false, not_false_eq_true, Bool.false_eq_true, Bool.false_and, Bool.true_and, Bool.and_true, Bool.and_false, Bool.not_true, Bool.not_false, false_and, and_false, and_self, ob_1, rf_1_0, rf_1_1, rf_1_2, rf_1_3, rf_1_4, rf_1_5, rf_1_6, rf_1_7, rf_1_8, ob_2, rf_2_0, ib_3, rd_3, ob_4, rf_4_1, rf_4_2, rf_4_3, rf_4_5, rf_4_6, rf_4_7, rf_4_8, ib_5, rd_5, ib_6, rd_6, ib_7, rd_7, ib_8, rd_8, ib_9, rd_9, ib_10, rd_10, ib_11, rd_11, ob_12, rf_12_1, rf_12_2, rf_12_3, rf_12_5, rf_12_6, rf_12_7, rf_12_8, ib_13, rd_13, ib_14, rd_14, ib_15, rd_15, ib_16, rd_16, ib_17, rd_17, ib_18, rd_18, ib_19, rd_19, ob_20, rf_20_3, rf_20_4, ib_21, rd_21, ib_22, rd_22, ob_23, rf_23_0, ib_24, ix_24, rf_24_0, rf_24_1, rf_24_2, rf_24_3, rf_24_4, rf_24_5, rf_24_6, rf_24_7, rf_24_8, rf_24_9, ib_55, ix_55, rf_55_0, rf_55_1, ib_56, ob_57, rf_57_0, rf_57_1, ib_58, rd_58, ib_59, ob_60, rf_60_2, rf_60_3, rf_60_4, rf_60_5, rf_60_6, ib_61, rd_61, ib_62, ib_63, ix_63, rf_63_0, rf_63_1, rf_63_2, rf_63_3, rf_63_4, tb_t, tb_f, a2, h1, hi2] <;> exact ih
theorem c6_greaterPart {k : Nat} (hk : k < 2147483648) (hT : am_tbr sw T) (hO : ar_told tn) (hA : ar_T T tn I) : am_call (d + 2) m6_greaterPart [.ref 1, .int (nI (am_bs p (tn 0))), .int (nI k)] (am_sh n, I, J, am_Rf sw) Q ↔ Q (some (.int (nI (ar_gp tn p k)))) (am_sh n, I, J, am_Rf sw) := by
  rw [← l6_greaterPart (d := d) (n := n) (J := J) (Q := Q) (p := p) hk hT hO hA (tn 0) 0 (by omega), e6_greaterPart, s6_greaterPart_0, s6_greaterPart_1, s6_greaterPart_2, s6_greaterPart_3]
  exact Iff.rfl
theorem gp_le {k : Nat} (hO : ar_told tn) : ar_gp tn p k ≤ 4 := by
  have o1 := hO.1
  have hs := bc_sub (p := p) (q := fun e => decide (k ≤ tn (14 + e))) (tn 0)
  have hle := bc_le (p := p) (tn 0)
  unfold ar_gp
  omega
end
