/-! what a text tells: as numbers -/
def am_uf (f : Nat → Nat) (k v : Nat) : Nat → Nat := fun j => if j = k then v else f j
def am_pn (tx : Nat → Nat) (ln p : Nat) : Nat := am_nx tx ln (am_sp tx ln p)
def am_vv (tx : Nat → Nat) (ln p : Nat) : Nat := am_vl tx ln (am_sp tx ln p)
def am_kk (tx : Nat → Nat) (ln p : Nat) : Nat := am_kd tx ln (am_sp tx ln p)
def am_nb (tx : Nat → Nat) (ln p lo hi : Nat) : Bool := decide (am_kk tx ln p = 2) && decide (lo ≤ am_vv tx ln p ∧ am_vv tx ln p ≤ hi)
def am_ns (tx : Nat → Nat) (ln : Nat) : List (Nat × Nat × Nat) → Nat → Nat → (Nat → Nat) → Bool × Nat × Nat × (Nat → Nat)
  | [], p, st, tn => (true, st, p, tn)
  | q :: l, p, _, tn => if am_nb tx ln p q.2.1 q.2.2 = true then am_ns tx ln l (am_pn tx ln p) (am_sp tx ln p) (am_uf tn q.1 (am_vv tx ln p)) else (false, am_sp tx ln p, am_pn tx ln p, tn)
def am_ls (v : Nat) (tn : Nat → Nat) : List (Nat × Nat × Nat) := if v = 100 then [(6 + tn 0, 1, 40), (10 + tn 0, 0, 2), (14 + tn 0, 1, 60)] else if v = 99 then [(18 + tn 1, 0, 5), (24 + tn 1, 1, 12), (30 + tn 1, 0, 3), (36 + tn 1, 1, 30)] else if v = 116 then [(2, 10, 99)] else [(3, 0, 30)]
def am_fu (v : Nat) (tn : Nat → Nat) : Bool := if v = 100 then decide (tn 0 = 4) else if v = 99 then decide (tn 1 = 6) else if v = 116 then decide (tn 5 % 2 = 1) else if v = 107 then decide (tn 5 / 2 % 2 = 1) else true
def am_fin2 (v : Nat) (tn : Nat → Nat) : Nat → Nat := if v = 100 then am_uf tn 0 (tn 0 + 1) else if v = 99 then am_uf tn 1 (tn 1 + 1) else if v = 116 then am_uf tn 5 (tn 5 ||| 1) else am_uf tn 5 (tn 5 ||| 2)
/-- an item behind its letter: whether it can stand; where the last token begins; where it ends; what is told then -/
def am_im (tx : Nat → Nat) (ln v p st : Nat) (tn : Nat → Nat) : Bool × Nat × Nat × (Nat → Nat) :=
  if am_fu v tn = true then (false, st, p, tn) else
    if (am_ns tx ln (am_ls v tn) p st tn).1 = true then
      (if am_kk tx ln (am_ns tx ln (am_ls v tn) p st tn).2.2.1 = 3 then (true, am_sp tx ln (am_ns tx ln (am_ls v tn) p st tn).2.2.1, am_pn tx ln (am_ns tx ln (am_ls v tn) p st tn).2.2.1, am_uf (am_fin2 v (am_ns tx ln (am_ls v tn) p st tn).2.2.2) 4 (tn 4 + 1)) else (false, am_sp tx ln (am_ns tx ln (am_ls v tn) p st tn).2.2.1, p, tn))
    else (false, (am_ns tx ln (am_ls v tn) p st tn).2.1, p, tn)
/-- the whole text from a place on -/
def am_pa (tx : Nat → Nat) (ln : Nat) : Nat → Nat → (Nat → Nat) → Bool × Nat × (Nat → Nat)
  | 0, p, tn => (true, p, tn)
  | r + 1, p, tn => if am_kk tx ln p = 0 then (true, am_sp tx ln p, tn) else if am_kk tx ln p = 1 then (if (am_im tx ln (am_vv tx ln p) (am_pn tx ln p) (am_sp tx ln p) tn).1 = true then am_pa tx ln r (am_im tx ln (am_vv tx ln p) (am_pn tx ln p) (am_sp tx ln p) tn).2.2.1 (am_im tx ln (am_vv tx ln p) (am_pn tx ln p) (am_sp tx ln p) tn).2.2.2 else (false, (am_im tx ln (am_vv tx ln p) (am_pn tx ln p) (am_sp tx ln p) tn).2.1, tn)) else (false, am_sp tx ln p, tn)
section
variable {tx : Nat → Nat} {ln p : Nat}
theorem ns_t {q : Nat × Nat × Nat} {l : List (Nat × Nat × Nat)} {st : Nat} {tn : Nat → Nat} (h : am_nb tx ln p q.2.1 q.2.2 = true) : am_ns tx ln (q :: l) p st tn = am_ns tx ln l (am_pn tx ln p) (am_sp tx ln p) (am_uf tn q.1 (am_vv tx ln p)) := if_pos h
theorem ns_f {q : Nat × Nat × Nat} {l : List (Nat × Nat × Nat)} {st : Nat} {tn : Nat → Nat} (h : am_nb tx ln p q.2.1 q.2.2 = false) : am_ns tx ln (q :: l) p st tn = (false, am_sp tx ln p, am_pn tx ln p, tn) := if_neg (by rw [h]; decide)
theorem nb_v {lo hi : Nat} (h : am_nb tx ln p lo hi = true) : am_kk tx ln p = 2 ∧ lo ≤ am_vv tx ln p ∧ am_vv tx ln p ≤ hi := by
  unfold am_nb at h
  simpa using h
theorem pn_le (h : p ≤ ln) : am_pn tx ln p ≤ ln ∧ p ≤ am_pn tx ln p ∧ (am_kk tx ln p ≠ 0 → p + 1 ≤ am_pn tx ln p) := by
  have h1 := sp_le (tx := tx) h
  have h2 := nx_le (tx := tx) h1.2
  unfold am_pn am_kk am_kd
  refine ⟨h2.1, by omega, fun h3 => ?_⟩
  by_cases h4 : ln ≤ am_sp tx ln p
  · rw [if_pos h4] at h3; exact absurd rfl h3
  · omega
/-- what the class calls a token -/
theorem tk_kd (hx : ∀ p, tx p ≤ 255) : (am_kk tx ln p = 0 → am_tk tx ln (am_sp tx ln p) = -1) ∧ (am_kk tx ln p = 1 → am_tk tx ln (am_sp tx ln p) = nI (am_vv tx ln p) ∧ (am_vv tx ln p = 100 ∨ am_vv tx ln p = 99 ∨ am_vv tx ln p = 116 ∨ am_vv tx ln p = 107)) ∧ (am_kk tx ln p = 2 → am_vv tx ln p ≤ 99 → am_tk tx ln (am_sp tx ln p) = -3) ∧ (am_kk tx ln p = 2 → 99 < am_vv tx ln p → am_tk tx ln (am_sp tx ln p) = -2) ∧ (am_kk tx ln p = 3 → am_tk tx ln (am_sp tx ln p) = nI 59) ∧ (am_kk tx ln p = 4 → am_tk tx ln (am_sp tx ln p) = -2) ∧ am_kk tx ln p ≤ 4 := by
  unfold am_kk am_vv am_kd am_tk
  generalize am_sp tx ln p = s
  by_cases h0 : ln ≤ s
  · simp [h0]
  · cases hw : am_wrd (tx s) with
    | true =>
      have hd : am_dgt (tx s) = false := by
        unfold am_wrd at hw
        simp only [Bool.or_eq_true, decide_eq_true_eq] at hw
        unfold am_dgt
        simp only [decide_eq_false_iff_not]
        omega
      have evl : am_vl tx ln s = tx s := if_neg (by rw [hd]; decide)
      unfold am_wrd at hw
      simp only [Bool.or_eq_true, decide_eq_true_eq] at hw
      simp [h0, hd, evl]
      omega
    | false =>
      cases hd : am_dgt (tx s) with
      | true =>
        simp only [h0, hd, if_false, if_true, Bool.false_eq_true]
        refine ⟨by omega, by omega, fun _ h => by rw [if_pos h], fun _ h => by rw [if_neg (by omega)], by omega, by omega, by omega⟩
      | false =>
        by_cases h59 : tx s = 59
        · simp [h0, h59]
        · simp [h0, h59]
end
section
variable {n d : Nat} {J : Nat → Nat → Int64} {sw : Bool} {Q : am_Post} {tx : Nat → Nat} {ln p : Nat} {I : Nat → Nat → Int32}
theorem c5_readNumber {lo hi : Nat} (hL : ar_L tx ln I) (hp : p ≤ ln) (h2 : I 2 2 = nI p) (hlo : lo ≤ 99) (hhi : hi ≤ 99) (hq : ∀ I', (∀ a, a ≠ 2 → I' a = I a) → I' 2 1 = nI ln → I' 2 2 = nI (am_pn tx ln p) → I' 2 3 = nI (am_sp tx ln p) → (am_nb tx ln p lo hi = true → I' 2 5 = nI (am_vv tx ln p)) → Q (some (.int (am_bi (am_nb tx ln p lo hi)))) (am_sh n, I', J, am_Rf sw)) : am_call (d + 3) m5_readNumber [.ref 2, .int (nI lo), .int (nI hi)] (am_sh n, I, J, am_Rf sw) Q := by
  obtain ⟨t0, t1, t2, t3, t4, t5, t6⟩ := tk_kd (ln := ln) (p := p) hL.2.2.1
  simp (disch := omega) only [e5_readNumber, s5_readNumber_0, s5_readNumber_1, s5_readNumber_4, s5_readNumber_5, s5_readNumber_8, s5_readNumber_10, s5_readNumber_13, s5_readNumber_14, s5_readNumber_17, s5_readNumber_18, s5_readNumber_21, s5_readNumber_22, s5_readNumber_25, s5_readNumber_26, s5_readNumber_29, s5_readNumber_30, s5_readNumber_33, s5_readNumber_34, am_k1_int, am_k1_ref, am_k1_none, am_cats_nil, am_cats_int, am_cats_ref, am_cats_long, Option.toList_some, Option.toList_none, List.singleton_append, List.nil_append, List.cons_append, true_and, and_true, if_true, if_false, va_rf, ↓reduceIte, Nat.reduceAdd, Nat.reduceMul, Nat.reduceSub, Nat.reduceLT, Nat.reduceLeDiff, Nat.reduceEqDiff, Nat.zero_le, Nat.add_zero, Nat.le_refl, nI_add, mul_nI, lt_nI, le_nI, eq_nI, bnd_nI, ci_nI, decide_eq_true_eq, decide_true, decide_false, Bool.true_or, Bool.or_true, Bool.or_false, Bool.false_or, not_true_eq_false, not_false_eq_true, Bool.false_eq_true, Bool.false_and, Bool.true_and, Bool.and_true, Bool.and_false, Bool.not_true, Bool.not_false, false_and, and_false, and_self, ob_2, rf_2_0]
  refine c4_step hL hp h2 (fun I1 f1 f2 f3 f4 f5 f6 => ?_)
  have hfin := hq I1 f1 f2 f3 f4
  by_cases h : am_kk tx ln p = 2 ∧ am_vv tx ln p ≤ 99
  · have e3 := t2 h.1 h.2
    rw [e3] at f5
    have f6' : I1 2 5 = nI (am_vv tx ln p) := f6 e3
    have hnb : am_nb tx ln p lo hi = decide (lo ≤ am_vv tx ln p ∧ am_vv tx ln p ≤ hi) := by
      unfold am_nb
      simp [h.1]
    rw [hnb] at hfin
    by_cases g1 : lo ≤ am_vv tx ln p
    · have g1' : ¬ am_vv tx ln p < lo := by omega
      by_cases g2 : am_vv tx ln p ≤ hi
      · have g2' : ¬ hi < am_vv tx ln p := by omega
        have hf := hfin (fun _ => f6')
        simp only [g1, g2, and_self, decide_true, bi_t] at hf
        simp (disch := omega) only [s5_readNumber_0, s5_readNumber_1, s5_readNumber_4, s5_readNumber_5, s5_readNumber_8, s5_readNumber_10, s5_readNumber_13, s5_readNumber_14, s5_readNumber_17, s5_readNumber_18, s5_readNumber_21, s5_readNumber_22, s5_readNumber_25, s5_readNumber_26, s5_readNumber_29, s5_readNumber_30, s5_readNumber_33, s5_readNumber_34, am_k1_int, am_k1_ref, am_k1_none, am_cats_nil, am_cats_int, am_cats_ref, am_cats_long, Option.toList_some, Option.toList_none, List.singleton_append, List.nil_append, List.cons_append, true_and, and_true, if_true, if_false, va_rf, ↓reduceIte, Nat.reduceAdd, Nat.reduceMul, Nat.reduceSub, Nat.reduceLT, Nat.reduceLeDiff, Nat.reduceEqDiff, Nat.zero_le, Nat.add_zero, Nat.le_refl, nI_add, mul_nI, lt_nI, le_nI, eq_nI, bnd_nI, ci_nI, decide_eq_true_eq, decide_true, decide_false, Bool.true_or, Bool.or_true, Bool.or_false, Bool.false_or, not_true_eq_false, not_false_eq_true, Bool.false_eq_true, Bool.false_and, Bool.true_and, Bool.and_true, Bool.and_false, Bool.not_true, Bool.not_false, false_and, and_false, and_self, ob_2, rf_2_0, f5, f6', g1', g2', ret_1]
        exact hf
      · have g2' : hi < am_vv tx ln p := by omega
        have hf := hfin (fun _ => f6')
        simp only [g1, g2, and_false, decide_false, bi_f] at hf
        simp (disch := omega) only [s5_readNumber_0, s5_readNumber_1, s5_readNumber_4, s5_readNumber_5, s5_readNumber_8, s5_readNumber_10, s5_readNumber_13, s5_readNumber_14, s5_readNumber_17, s5_readNumber_18, s5_readNumber_21, s5_readNumber_22, s5_readNumber_25, s5_readNumber_26, s5_readNumber_29, s5_readNumber_30, s5_readNumber_33, s5_readNumber_34, am_k1_int, am_k1_ref, am_k1_none, am_cats_nil, am_cats_int, am_cats_ref, am_cats_long, Option.toList_some, Option.toList_none, List.singleton_append, List.nil_append, List.cons_append, true_and, and_true, if_true, if_false, va_rf, ↓reduceIte, Nat.reduceAdd, Nat.reduceMul, Nat.reduceSub, Nat.reduceLT, Nat.reduceLeDiff, Nat.reduceEqDiff, Nat.zero_le, Nat.add_zero, Nat.le_refl, nI_add, mul_nI, lt_nI, le_nI, eq_nI, bnd_nI, ci_nI, decide_eq_true_eq, decide_true, decide_false, Bool.true_or, Bool.or_true, Bool.or_false, Bool.false_or, not_true_eq_false, not_false_eq_true, Bool.false_eq_true, Bool.false_and, Bool.true_and, Bool.and_true, Bool.and_false, Bool.not_true, Bool.not_false, false_and, and_false, and_self, ob_2, rf_2_0, f5, f6', g1', g2', ret_0]
        exact hf
    · have g1' : am_vv tx ln p < lo := by omega
      have hf := hfin (fun _ => f6')
      simp only [g1, false_and, decide_false, bi_f] at hf
      simp (disch := omega) only [s5_readNumber_0, s5_readNumber_1, s5_readNumber_4, s5_readNumber_5, s5_readNumber_8, s5_readNumber_10, s5_readNumber_13, s5_readNumber_14, s5_readNumber_17, s5_readNumber_18, s5_readNumber_21, s5_readNumber_22, s5_readNumber_25, s5_readNumber_26, s5_readNumber_29, s5_readNumber_30, s5_readNumber_33, s5_readNumber_34, am_k1_int, am_k1_ref, am_k1_none, am_cats_nil, am_cats_int, am_cats_ref, am_cats_long, Option.toList_some, Option.toList_none, List.singleton_append, List.nil_append, List.cons_append, true_and, and_true, if_true, if_false, va_rf, ↓reduceIte, Nat.reduceAdd, Nat.reduceMul, Nat.reduceSub, Nat.reduceLT, Nat.reduceLeDiff, Nat.reduceEqDiff, Nat.zero_le, Nat.add_zero, Nat.le_refl, nI_add, mul_nI, lt_nI, le_nI, eq_nI, bnd_nI, ci_nI, decide_eq_true_eq, decide_true, decide_false, Bool.true_or, Bool.or_true, Bool.or_false, Bool.false_or, not_true_eq_false, not_false_eq_true, Bool.false_eq_true, Bool.false_and, Bool.true_and, Bool.and_true, Bool.and_false, Bool.not_true, Bool.not_false, false_and, and_false, and_self, ob_2, rf_2_0, f5, f6', g1', ret_0]
      exact hf
  · have hnb : am_nb tx ln p lo hi = false := by
      cases hb : am_nb tx ln p lo hi with
      | false => rfl
      | true =>
        have := nb_v hb
        exact absurd ⟨this.1, by omega⟩ h
    have h3 : ¬ I1 2 4 = -3 := by
      rw [f5]
      intro q
      have ok : am_kk tx ln p = 0 ∨ am_kk tx ln p = 1 ∨ am_kk tx ln p = 2 ∨ am_kk tx ln p = 3 ∨ am_kk tx ln p = 4 := by omega
      rcases ok with k | k | k | k | k
      · rw [t0 k] at q; exact absurd q (by decide)
      · obtain ⟨e1, e2⟩ := t1 k
        rw [e1] at q
        rcases e2 with e2 | e2 | e2 | e2 <;> rw [e2] at q <;> exact absurd q (by decide)
      · have : 99 < am_vv tx ln p := by
          apply Classical.byContradiction
          intro hh
          exact h ⟨k, by omega⟩
        rw [t3 k this] at q; exact absurd q (by decide)
      · rw [t4 k] at q; exact absurd q (by decide)
      · rw [t5 k] at q; exact absurd q (by decide)
    have hf := hfin (fun q => by rw [hnb] at q; exact absurd q (by decide))
    rw [hnb] at hf
    simp only [bi_f] at hf
    simp (disch := omega) only [s5_readNumber_0, s5_readNumber_1, s5_readNumber_4, s5_readNumber_5, s5_readNumber_8, s5_readNumber_10, s5_readNumber_13, s5_readNumber_14, s5_readNumber_17, s5_readNumber_18, s5_readNumber_21, s5_readNumber_22, s5_readNumber_25, s5_readNumber_26, s5_readNumber_29, s5_readNumber_30, s5_readNumber_33, s5_readNumber_34, am_k1_int, am_k1_ref, am_k1_none, am_cats_nil, am_cats_int, am_cats_ref, am_cats_long, Option.toList_some, Option.toList_none, List.singleton_append, List.nil_append, List.cons_append, true_and, and_true, if_true, if_false, va_rf, ↓reduceIte, Nat.reduceAdd, Nat.reduceMul, Nat.reduceSub, Nat.reduceLT, Nat.reduceLeDiff, Nat.reduceEqDiff, Nat.zero_le, Nat.add_zero, Nat.le_refl, nI_add, mul_nI, lt_nI, le_nI, eq_nI, bnd_nI, ci_nI, decide_eq_true_eq, decide_true, decide_false, Bool.true_or, Bool.or_true, Bool.or_false, Bool.false_or, not_true_eq_false, not_false_eq_true, Bool.false_eq_true, Bool.false_and, Bool.true_and, Bool.and_true, Bool.and_false, Bool.not_true, Bool.not_false, false_and, and_false, and_self, ob_2, rf_2_0, h3, ret_0]
    exact hf
theorem c5_readItemsEnd (hL : ar_L tx ln I) (hp : p ≤ ln) (h2 : I 2 2 = nI p) (hq : ∀ I', (∀ a, a ≠ 2 → I' a = I a) → I' 2 1 = nI ln → I' 2 2 = nI (am_pn tx ln p) → I' 2 3 = nI (am_sp tx ln p) → Q (some (.int (am_bi (decide (am_kk tx ln p = 3))))) (am_sh n, I', J, am_Rf sw)) : am_call (d + 3) m5_readItemsEnd [.ref 2] (am_sh n, I, J, am_Rf sw) Q := by
  obtain ⟨t0, t1, t2, t3, t4, t5, t6⟩ := tk_kd (ln := ln) (p := p) hL.2.2.1
  simp (disch := omega) only [e5_readItemsEnd, s5_readItemsEnd_0, s5_readItemsEnd_1, s5_readItemsEnd_4, s5_readItemsEnd_5, s5_readItemsEnd_8, s5_readItemsEnd_10, s5_readItemsEnd_13, s5_readItemsEnd_14, s5_readItemsEnd_17, s5_readItemsEnd_18, am_k1_int, am_k1_ref, am_k1_none, am_cats_nil, am_cats_int, am_cats_ref, am_cats_long, Option.toList_some, Option.toList_none, List.singleton_append, List.nil_append, List.cons_append, true_and, and_true, if_true, if_false, va_rf, ↓reduceIte, Nat.reduceAdd, Nat.reduceMul, Nat.reduceSub, Nat.reduceLT, Nat.reduceLeDiff, Nat.reduceEqDiff, Nat.zero_le, Nat.add_zero, Nat.le_refl, nI_add, mul_nI, lt_nI, le_nI, eq_nI, bnd_nI, ci_nI, decide_eq_true_eq, decide_true, decide_false, Bool.true_or, Bool.or_true, Bool.or_false, Bool.false_or, not_true_eq_false, not_false_eq_true, Bool.false_eq_true, Bool.false_and, Bool.true_and, Bool.and_true, Bool.and_false, Bool.not_true, Bool.not_false, false_and, and_false, and_self, ob_2, rf_2_0]
  refine c4_step hL hp h2 (fun I1 f1 f2 f3 f4 f5 f6 => ?_)
  have hf := hq I1 f1 f2 f3 f4
  by_cases h : am_kk tx ln p = 3
  · have e3 := t4 h
    rw [e3] at f5
    simp only [h, decide_true, bi_t] at hf
    simp (disch := omega) only [s5_readItemsEnd_0, s5_readItemsEnd_1, s5_readItemsEnd_4, s5_readItemsEnd_5, s5_readItemsEnd_8, s5_readItemsEnd_10, s5_readItemsEnd_13, s5_readItemsEnd_14, s5_readItemsEnd_17, s5_readItemsEnd_18, am_k1_int, am_k1_ref, am_k1_none, am_cats_nil, am_cats_int, am_cats_ref, am_cats_long, Option.toList_some, Option.toList_none, List.singleton_append, List.nil_append, List.cons_append, true_and, and_true, if_true, if_false, va_rf, ↓reduceIte, Nat.reduceAdd, Nat.reduceMul, Nat.reduceSub, Nat.reduceLT, Nat.reduceLeDiff, Nat.reduceEqDiff, Nat.zero_le, Nat.add_zero, Nat.le_refl, nI_add, mul_nI, lt_nI, le_nI, eq_nI, bnd_nI, ci_nI, decide_eq_true_eq, decide_true, decide_false, Bool.true_or, Bool.or_true, Bool.or_false, Bool.false_or, not_true_eq_false, not_false_eq_true, Bool.false_eq_true, Bool.false_and, Bool.true_and, Bool.and_true, Bool.and_false, Bool.not_true, Bool.not_false, false_and, and_false, and_self, ob_2, rf_2_0, f5, ret_1]
    exact hf
  · have h3 : ¬ I1 2 4 = nI 59 := by
      rw [f5]
      intro q
      have ok : am_kk tx ln p = 0 ∨ am_kk tx ln p = 1 ∨ am_kk tx ln p = 2 ∨ am_kk tx ln p = 4 := by omega
      rcases ok with k | k | k | k
      · rw [t0 k] at q; exact absurd q (by decide)
      · obtain ⟨e1, e2⟩ := t1 k
        rw [e1] at q
        rcases e2 with e2 | e2 | e2 | e2 <;> rw [e2] at q <;> exact absurd q (by decide)
      · by_cases hh : am_vv tx ln p ≤ 99
        · rw [t2 k hh] at q; exact absurd q (by decide)
        · rw [t3 k (by omega)] at q; exact absurd q (by decide)
      · rw [t5 k] at q; exact absurd q (by decide)
    simp only [h, decide_false, bi_f] at hf
    simp (disch := omega) only [s5_readItemsEnd_0, s5_readItemsEnd_1, s5_readItemsEnd_4, s5_readItemsEnd_5, s5_readItemsEnd_8, s5_readItemsEnd_10, s5_readItemsEnd_13, s5_readItemsEnd_14, s5_readItemsEnd_17, s5_readItemsEnd_18, am_k1_int, am_k1_ref, am_k1_none, am_cats_nil, am_cats_int, am_cats_ref, am_cats_long, Option.toList_some, Option.toList_none, List.singleton_append, List.nil_append, List.cons_append, true_and, and_true, if_true, if_false, va_rf, ↓reduceIte, Nat.reduceAdd, Nat.reduceMul, Nat.reduceSub, Nat.reduceLT, Nat.reduceLeDiff, Nat.reduceEqDiff, Nat.zero_le, Nat.add_zero, Nat.le_refl, nI_add, mul_nI, lt_nI, le_nI, eq_nI, bnd_nI, ci_nI, decide_eq_true_eq, decide_true, decide_false, Bool.true_or, Bool.or_true, Bool.or_false, Bool.false_or, not_true_eq_false, not_false_eq_true, Bool.false_eq_true, Bool.false_and, Bool.true_and, Bool.and_true, Bool.and_false, Bool.not_true, Bool.not_false, false_and, and_false, and_self, ob_2, rf_2_0, h3, ret_0]
    exact hf
end
