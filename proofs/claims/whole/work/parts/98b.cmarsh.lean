/-! the class: all anew -/
section
variable {n d T T2 : Nat} {tn : Nat → Nat} {I : Nat → Nat → Int32} {J : Nat → Nat → Int64} {sw : Bool} {Q : am_Post} {tx : Nat → Nat} {ln : Nat}
def ar_bA (T : Nat) (tn : Nat → Nat) (I I' : Nat → Nat → Int32) (J J' : Nat → Nat → Int64) : Prop := (∀ a, (a < 20 ∨ 23 < a) → a ≠ 56 → a ≠ 57 → (a < 60 ∨ 68 < a) → I' a = I a) ∧ (I' 20 0 = nI 0 ∧ I' 20 1 = nI 0 ∧ I' 20 2 = nI 0) ∧ (∀ e, e < 4 → I' 21 e = I (T + 1) e) ∧ (∀ q, q < 24 → I' 22 q = nI 0) ∧ I' 23 1 = I 23 1 ∧ I' 23 2 = nI 0 ∧ I' 57 2 = nI 0 ∧ (I' 56 0 = nI 0 ∧ I' 56 1 = nI 0) ∧ (∀ a, a ≠ 62 → J' a = J a) ∧ ar_C tn I' J'
set_option maxHeartbeats 4000000 in
theorem c6_beginAnew (hT : am_tbr sw T) (hO : ar_told tn) (hA : ar_Tq T tn I) (hq : ∀ I' J', ar_bA T tn I I' J J' → Q none (am_sh n, I', J', am_Rf sw)) : am_call (d + 5) m6_beginAnew [.ref 1] (am_sh n, I, J, am_Rf sw) Q := by
  have hT2 := tbr_or hT
  have z23 : (0 : Nat) < 23 := by decide
  have z57 : (0 : Nat) < 57 := by decide
  have z56 : (0 : Nat) < 56 := by decide
  obtain ⟨M, hM⟩ : ∃ M, M = am_up (am_up (am_up (am_up (am_beg I T) 23 2 (nI 0)) 57 2 (nI 0)) 56 0 (nI 0)) 56 1 (nI 0) := ⟨_, rfl⟩
  have gO : ∀ a, (a < 20 ∨ 23 < a) → a ≠ 56 → a ≠ 57 → M a = I a := fun a h1 h2 h3 => by
    rw [hM, am_up_ne h2, am_up_ne h2, am_up_ne h3, am_up_ne (by omega)]
    funext j
    show (if a = 20 then _ else if a = 21 then _ else if a = 22 then _ else I a j) = I a j
    rw [if_neg (by omega), if_neg (by omega), if_neg (by omega)]
  have hA2 : ar_Tq T tn M := by
    unfold ar_Tq at *
    rw [gO T (by omega) (by omega) (by omega), gO (T + 1) (by omega) (by omega) (by omega), gO (T + 2) (by omega) (by omega) (by omega), gO (T + 3) (by omega) (by omega) (by omega), gO (T + 4) (by omega) (by omega) (by omega), gO (T + 5) (by omega) (by omega) (by omega), gO (T + 6) (by omega) (by omega) (by omega), gO (T + 7) (by omega) (by omega) (by omega)]
    exact hA
  have hb20 : ∀ j, j < 3 → M 20 j = nI 0 := fun j hj => by
    rw [hM, am_up_ne (by omega), am_up_ne (by omega), am_up_ne (by omega), am_up_ne (by omega)]
    show (if (20 : Nat) = 20 then (if j < 3 then nI 0 else I 20 j) else _) = nI 0
    rw [if_pos rfl, if_pos hj]
  have hreck := c0_reckonq (n := n) (d := d) (J := J) (sw := sw) (Q := fun v M' => am_wp (d + 4) m6_beginAnew 58 [some (.ref 1), some (.int (nI 2))] (v.toList ++ []) M' Q) hT2 hO hA2 (fun I' J' g1 g2 g3 => by
    simp only [Option.toList_none, List.nil_append]
    rw [s6_beginAnew_58]
    refine hq I' J' ⟨fun a h1 h2 h3 h4 => by rw [g1 a h4, gO a h1 h2 h3], ⟨?_, ?_, ?_⟩, fun e he => ?_, fun q hq24 => ?_, ?_, ?_, ?_, ⟨?_, ?_⟩, g2, g3⟩
    · rw [g1 20 (by omega)]; exact hb20 0 (by omega)
    · rw [g1 20 (by omega)]; exact hb20 1 (by omega)
    · rw [g1 20 (by omega)]; exact hb20 2 (by omega)
    · rw [g1 21 (by omega), hM, am_up_ne (by omega), am_up_ne (by omega), am_up_ne (by omega), am_up_ne (by omega)]
      show (if (21 : Nat) = 20 then _ else if (21 : Nat) = 21 then (if e < 4 then I (T + 1) e else I 21 e) else _) = _
      rw [if_neg (by omega), if_pos rfl, if_pos he]
    · rw [g1 22 (by omega), hM, am_up_ne (by omega), am_up_ne (by omega), am_up_ne (by omega), am_up_ne (by omega)]
      show (if (22 : Nat) = 20 then _ else if (22 : Nat) = 21 then _ else if (22 : Nat) = 22 then (if q < 24 then nI 0 else I 22 q) else _) = _
      rw [if_neg (by omega), if_neg (by omega), if_pos rfl, if_pos hq24]
    · rw [g1 23 (by omega), hM, am_up_ne (by omega), am_up_ne (by omega), am_up_ne (by omega), up_n (by omega)]
      show (if (23 : Nat) = 20 then _ else if (23 : Nat) = 21 then _ else if (23 : Nat) = 22 then _ else I 23 1) = _
      rw [if_neg (by omega), if_neg (by omega), if_neg (by omega)]
    · rw [g1 23 (by omega), hM, am_up_ne (by omega), am_up_ne (by omega), am_up_ne (by omega), up_s]
    · rw [g1 57 (by omega), hM, am_up_ne (by omega), am_up_ne (by omega), up_s]
    · rw [g1 56 (by omega), hM, up_n (by omega), up_s]
    · rw [g1 56 (by omega), hM, up_s])
  have hbg := fun Q => c3_begin (n := n) (d := d + 2) (I := I) (J := J) (sw := sw) (Q := Q) hT2
  rcases id hT with ⟨rfl, rfl⟩ | ⟨rfl, rfl⟩
  all_goals simp (disch := omega) only [e6_beginAnew, s6_beginAnew_0, s6_beginAnew_1, s6_beginAnew_4, s6_beginAnew_5, s6_beginAnew_8, s6_beginAnew_11, s6_beginAnew_12, s6_beginAnew_15, s6_beginAnew_16, s6_beginAnew_19, s6_beginAnew_20, s6_beginAnew_23, s6_beginAnew_24, s6_beginAnew_27, s6_beginAnew_28, s6_beginAnew_29, s6_beginAnew_30, s6_beginAnew_31, s6_beginAnew_34, s6_beginAnew_35, s6_beginAnew_38, s6_beginAnew_39, s6_beginAnew_40, s6_beginAnew_41, s6_beginAnew_44, s6_beginAnew_47, s6_beginAnew_48, s6_beginAnew_51, s6_beginAnew_52, s6_beginAnew_55, am_k1_int, am_k1_ref, am_k1_none, am_cats_nil, am_cats_int, am_cats_ref, am_cats_long, Option.toList_some, Option.toList_none, List.singleton_append, List.nil_append, List.cons_append, true_and, and_true, if_true, if_false, va_rf, ↓reduceIte, Nat.reduceAdd, Nat.reduceMul, Nat.reduceSub, Nat.reduceLT, Nat.reduceLeDiff, Nat.reduceEqDiff, Nat.zero_le, Nat.add_zero, Nat.le_refl, nI_add, mul_nI, lt_nI, le_nI, eq_nI, bnd_nI, ci_nI, decide_eq_true_eq, decide_true, decide_false, Bool.true_or, Bool.or_true, Bool.or_false, Bool.false_or, not_true_eq_false, not_false_eq_true, Bool.false_eq_true, Bool.false_and, Bool.true_and, Bool.and_true, Bool.and_false, Bool.not_true, Bool.not_false, false_and, and_false, and_self, ob_1, rf_1_0, rf_1_1, rf_1_2, rf_1_3, rf_1_4, rf_1_5, rf_1_6, rf_1_7, rf_1_8, ob_2, rf_2_0, ib_3, rd_3, ob_4, rf_4_1, rf_4_2, rf_4_3, rf_4_5, rf_4_6, rf_4_7, rf_4_8, ib_5, rd_5, ib_6, rd_6, ib_7, rd_7, ib_8, rd_8, ib_9, rd_9, ib_10, rd_10, ib_11, rd_11, ob_12, rf_12_1, rf_12_2, rf_12_3, rf_12_5, rf_12_6, rf_12_7, rf_12_8, ib_13, rd_13, ib_14, rd_14, ib_15, rd_15, ib_16, rd_16, ib_17, rd_17, ib_18, rd_18, ib_19, rd_19, ob_20, rf_20_3, rf_20_4, ib_21, rd_21, ib_22, rd_22, ob_23, rf_23_0, ib_24, ix_24, rf_24_0, rf_24_1, rf_24_2, rf_24_3, rf_24_4, rf_24_5, rf_24_6, rf_24_7, rf_24_8, rf_24_9, ib_55, ix_55, rf_55_0, rf_55_1, ib_56, ob_57, rf_57_0, rf_57_1, ib_58, rd_58, ib_59, ob_60, rf_60_2, rf_60_3, rf_60_4, rf_60_5, rf_60_6, ib_61, rd_61, ib_62, ib_63, ix_63, rf_63_0, rf_63_1, rf_63_2, rf_63_3, rf_63_4, tb_t, tb_f, hbg, z23, z57, z56, zo_0, ← hM]
  all_goals exact hreck
theorem ns_st : ∀ (l : List (Nat × Nat × Nat)) (p st : Nat) (tn : Nat → Nat), p ≤ ln → st ≤ ln → (am_ns tx ln l p st tn).2.1 ≤ ln ∧ (am_ns tx ln l p st tn).2.2.1 ≤ ln
  | [], p, st, tn, h, h2 => ⟨h2, h⟩
  | q :: l, p, st, tn, h, h2 => by
    have hs := (sp_le (tx := tx) h).2
    have hp := (pn_le (tx := tx) h).1
    cases hb : am_nb tx ln p q.2.1 q.2.2 with
    | true =>
      rw [ns_t hb]
      exact ns_st l _ _ _ hp hs
    | false =>
      rw [ns_f hb]
      exact ⟨hs, hp⟩
theorem im_st {v p st : Nat} (h : p ≤ ln) (h2 : st ≤ ln) : (am_im tx ln v p st tn).2.1 ≤ ln ∧ (am_im tx ln v p st tn).2.2.1 ≤ ln := by
  have hn := ns_st (tx := tx) (am_ls v tn) p st tn h h2
  unfold am_im
  split
  · exact ⟨h2, h⟩
  · split
    · split
      · exact ⟨(sp_le hn.2).2, (pn_le hn.2).1⟩
      · exact ⟨(sp_le hn.2).2, h⟩
    · exact ⟨hn.1, h⟩
theorem pa_st : ∀ (r p : Nat) (tn : Nat → Nat), p ≤ ln → (am_pa tx ln r p tn).2.1 ≤ ln
  | 0, p, tn, h => h
  | r + 1, p, tn, h => by
    have hs := (sp_le (tx := tx) h).2
    have hp := (pn_le (tx := tx) h).1
    have hi := im_st (tx := tx) (tn := tn) (v := am_vv tx ln p) hp hs
    simp only [am_pa]
    split
    · exact hs
    · split
      · split
        · exact pa_st r _ _ hi.2
        · exact hi.1
      · exact hs
theorem rr_neg {s : Nat} (h : s ≤ 120) : ¬ nI 0 ≤ -10 - nI s := by
  have key : ∀ s, s < 121 → ¬ nI 0 ≤ -10 - nI s := by decide +kernel
  exact key s (by omega)
theorem Rf_swap (sw : Bool) : am_up (am_up (am_Rf sw) 1 1 (some (am_tb (!sw)))) 1 2 (some (am_tb sw)) = am_Rf (!sw) := by
  funext a j
  by_cases h : a = 1
  · subst h
    by_cases h2 : j = 2
    · subst h2
      rw [up_s]
      cases sw <;> rfl
    · rw [up_n (by omega)]
      by_cases h1 : j = 1
      · subst h1
        rw [up_s]
        cases sw <;> rfl
      · rw [up_n (by omega)]
        rcases (show j = 0 ∨ ∃ i, j = i + 3 by
          by_cases h0 : j = 0
          · exact Or.inl h0
          · exact Or.inr ⟨j - 3, by omega⟩) with rfl | ⟨i, rfl⟩
        · cases sw <;> rfl
        · cases sw <;> rfl
  · rw [up_n (by omega), up_n (by omega)]
    show (am_RT sw a).getD j none = (am_RT (!sw) a).getD j none
    have : am_RT sw a = am_RT (!sw) a := by
      unfold am_RT
      split
      · exact absurd rfl h
      all_goals rfl
    rw [this]
set_option maxHeartbeats 4000000 in
theorem c6_marsh (hT : am_tbr sw T) (hT2 : T2 = 16 - T) (hL : ar_L tx ln I) (hq0 : (am_pa tx ln 121 0 am_t0).1 = false → ∀ I', (∀ a, a ≠ 2 → (a < T2 ∨ T2 + 7 < a) → I' a = I a) → I' 2 1 = nI ln → Q (some (.int (am_rr (am_pa tx ln 121 0 am_t0)))) (am_sh n, I', J, am_Rf sw)) (hq1 : (am_pa tx ln 121 0 am_t0).1 = true → ∀ I1 I' J', (∀ a, a ≠ 2 → (a < T2 ∨ T2 + 7 < a) → I1 a = I a) → I1 2 1 = nI 0 → ar_Tq T2 (am_pa tx ln 121 0 am_t0).2.2 I1 → ar_bA T2 (am_pa tx ln 121 0 am_t0).2.2 I1 I' J J' → Q (some (.int (am_rr (am_pa tx ln 121 0 am_t0)))) (am_sh n, I', J', am_Rf (!sw))) : am_call (d + 8) m6_marsh [.ref 1] (am_sh n, I, J, am_Rf sw) Q := by
  have hln := hL.1
  have hT4 := tbr_or hT
  have hT2' : T2 = 4 ∨ T2 = 12 := by omega
  have htb : am_tb sw = T := by rcases hT with ⟨rfl, rfl⟩ | ⟨rfl, rfl⟩ <;> rfl
  have htb2 : am_tb (!sw) = T2 := by rcases hT with ⟨rfl, rfl⟩ | ⟨rfl, rfl⟩ <;> rw [hT2] <;> rfl
  have hTn : am_tbr (!sw) T2 := by
    rcases hT with ⟨rfl, rfl⟩ | ⟨rfl, rfl⟩
    · exact Or.inr ⟨rfl, hT2⟩
    · exact Or.inl ⟨rfl, hT2⟩
  have hsw := Rf_swap sw
  rw [htb, htb2] at hsw
  have hpst := pa_st (tx := tx) (ln := ln) 121 0 am_t0 (by omega)
  simp (disch := omega) only [e6_marsh, s6_marsh_0, s6_marsh_1, s6_marsh_4, s6_marsh_5, s6_marsh_8, s6_marsh_11, s6_marsh_12, s6_marsh_13, s6_marsh_16, s6_marsh_17, s6_marsh_18, s6_marsh_19, s6_marsh_22, s6_marsh_23, s6_marsh_24, s6_marsh_25, s6_marsh_28, s6_marsh_31, s6_marsh_32, s6_marsh_33, s6_marsh_36, s6_marsh_37, s6_marsh_40, s6_marsh_41, s6_marsh_44, s6_marsh_45, s6_marsh_48, s6_marsh_49, am_k1_int, am_k1_ref, am_k1_none, am_cats_nil, am_cats_int, am_cats_ref, am_cats_long, Option.toList_some, Option.toList_none, List.singleton_append, List.nil_append, List.cons_append, true_and, and_true, if_true, if_false, va_rf, ↓reduceIte, Nat.reduceAdd, Nat.reduceMul, Nat.reduceSub, Nat.reduceLT, Nat.reduceLeDiff, Nat.reduceEqDiff, Nat.zero_le, Nat.add_zero, Nat.le_refl, nI_add, mul_nI, lt_nI, le_nI, eq_nI, bnd_nI, ci_nI, decide_eq_true_eq, decide_true, decide_false, Bool.true_or, Bool.or_true, Bool.or_false, Bool.false_or, not_true_eq_false, not_false_eq_true, Bool.false_eq_true, Bool.false_and, Bool.true_and, Bool.and_true, Bool.and_false, Bool.not_true, Bool.not_false, false_and, and_false, and_self, ob_1, rf_1_0, rf_1_1, rf_1_2, rf_1_3, rf_1_4, rf_1_5, rf_1_6, rf_1_7, rf_1_8, htb2, ob_T hT2' n]
  refine c5_read hT2' hL (fun I1 f1 f2 f3 => ?_)
  cases hb : (am_pa tx ln 121 0 am_t0).1 with
  | false =>
    have hfin := hq0 hb I1 f1 f2
    have hrr : am_rr (am_pa tx ln 121 0 am_t0) = -10 - nI (am_pa tx ln 121 0 am_t0).2.1 := if_neg (by rw [hb]; decide)
    rw [hrr] at hfin ⊢
    have hng := rr_neg (s := (am_pa tx ln 121 0 am_t0).2.1) (by omega)
    simp (disch := omega) only [s6_marsh_0, s6_marsh_1, s6_marsh_4, s6_marsh_5, s6_marsh_8, s6_marsh_11, s6_marsh_12, s6_marsh_13, s6_marsh_16, s6_marsh_17, s6_marsh_18, s6_marsh_19, s6_marsh_22, s6_marsh_23, s6_marsh_24, s6_marsh_25, s6_marsh_28, s6_marsh_31, s6_marsh_32, s6_marsh_33, s6_marsh_36, s6_marsh_37, s6_marsh_40, s6_marsh_41, s6_marsh_44, s6_marsh_45, s6_marsh_48, s6_marsh_49, am_k1_int, am_k1_ref, am_k1_none, am_cats_nil, am_cats_int, am_cats_ref, am_cats_long, Option.toList_some, Option.toList_none, List.singleton_append, List.nil_append, List.cons_append, true_and, and_true, if_true, if_false, va_rf, ↓reduceIte, Nat.reduceAdd, Nat.reduceMul, Nat.reduceSub, Nat.reduceLT, Nat.reduceLeDiff, Nat.reduceEqDiff, Nat.zero_le, Nat.add_zero, Nat.le_refl, nI_add, mul_nI, lt_nI, le_nI, eq_nI, bnd_nI, ci_nI, decide_eq_true_eq, decide_true, decide_false, Bool.true_or, Bool.or_true, Bool.or_false, Bool.false_or, not_true_eq_false, not_false_eq_true, Bool.false_eq_true, Bool.false_and, Bool.true_and, Bool.and_true, Bool.and_false, Bool.not_true, Bool.not_false, false_and, and_false, and_self, hng]
    exact hfin
  | true =>
    have hto := pa_ok hL.2.2.1 hln 121 0 am_t0 (by omega) (by omega) told_0 (by decide) (by decide) hb
    have hrr : am_rr (am_pa tx ln 121 0 am_t0) = nI ((am_pa tx ln 121 0 am_t0).2.2 4) := if_pos hb
    have h9 := hto.2.2.2.2.2.2.2.2
    have hz4 : 0 ≤ (am_pa tx ln 121 0 am_t0).2.2 4 := by omega
    have z1 : (0 : Nat) < 1 := by decide
    have z2 : (0 : Nat) < 2 := by decide
    have hTc := f3 hb
    have hTq : ar_Tq T2 (am_pa tx ln 121 0 am_t0).2.2 (am_up I1 2 1 (nI 0)) := by
      obtain ⟨c1, c2, c3, c4, c5, c6, c7, c8⟩ := hTc
      unfold ar_Tq
      rw [am_up_ne (by omega), am_up_ne (by omega), am_up_ne (by omega), am_up_ne (by omega), am_up_ne (by omega), am_up_ne (by omega), am_up_ne (by omega), am_up_ne (by omega)]
      exact ⟨trivial, c1, c2, c3, c4, c7, c8⟩
    have hba := c6_beginAnew (n := n) (d := d + 2) (sw := !sw) (J := J) (Q := fun v M' => am_wp (d + 7) m6_marsh 49 [some (.ref 1), some (.int (nI ((am_pa tx ln 121 0 am_t0).2.2 4))), some (.ref T)] (.int (nI ((am_pa tx ln 121 0 am_t0).2.2 4)) :: (v.toList ++ [])) M' Q) hTn hto hTq (fun I' J' hA => by
      have hfin := hq1 hb (am_up I1 2 1 (nI 0)) I' J' (fun a h1 h2 => by rw [am_up_ne h1, f1 a h1 h2]) (by rw [up_s]) hTq hA
      rw [hrr] at hfin
      simp (disch := omega) only [s6_marsh_0, s6_marsh_1, s6_marsh_4, s6_marsh_5, s6_marsh_8, s6_marsh_11, s6_marsh_12, s6_marsh_13, s6_marsh_16, s6_marsh_17, s6_marsh_18, s6_marsh_19, s6_marsh_22, s6_marsh_23, s6_marsh_24, s6_marsh_25, s6_marsh_28, s6_marsh_31, s6_marsh_32, s6_marsh_33, s6_marsh_36, s6_marsh_37, s6_marsh_40, s6_marsh_41, s6_marsh_44, s6_marsh_45, s6_marsh_48, s6_marsh_49, am_k1_int, am_k1_ref, am_k1_none, am_cats_nil, am_cats_int, am_cats_ref, am_cats_long, Option.toList_some, Option.toList_none, List.singleton_append, List.nil_append, List.cons_append, true_and, and_true, if_true, if_false, va_rf, ↓reduceIte, Nat.reduceAdd, Nat.reduceMul, Nat.reduceSub, Nat.reduceLT, Nat.reduceLeDiff, Nat.reduceEqDiff, Nat.zero_le, Nat.add_zero, Nat.le_refl, nI_add, mul_nI, lt_nI, le_nI, eq_nI, bnd_nI, ci_nI, decide_eq_true_eq, decide_true, decide_false, Bool.true_or, Bool.or_true, Bool.or_false, Bool.false_or, not_true_eq_false, not_false_eq_true, Bool.false_eq_true, Bool.false_and, Bool.true_and, Bool.and_true, Bool.and_false, Bool.not_true, Bool.not_false, false_and, and_false, and_self]
      exact hfin)
    rw [hrr]
    simp (disch := omega) only [s6_marsh_0, s6_marsh_1, s6_marsh_4, s6_marsh_5, s6_marsh_8, s6_marsh_11, s6_marsh_12, s6_marsh_13, s6_marsh_16, s6_marsh_17, s6_marsh_18, s6_marsh_19, s6_marsh_22, s6_marsh_23, s6_marsh_24, s6_marsh_25, s6_marsh_28, s6_marsh_31, s6_marsh_32, s6_marsh_33, s6_marsh_36, s6_marsh_37, s6_marsh_40, s6_marsh_41, s6_marsh_44, s6_marsh_45, s6_marsh_48, s6_marsh_49, am_k1_int, am_k1_ref, am_k1_none, am_cats_nil, am_cats_int, am_cats_ref, am_cats_long, Option.toList_some, Option.toList_none, List.singleton_append, List.nil_append, List.cons_append, true_and, and_true, if_true, if_false, va_rf, ↓reduceIte, Nat.reduceAdd, Nat.reduceMul, Nat.reduceSub, Nat.reduceLT, Nat.reduceLeDiff, Nat.reduceEqDiff, Nat.zero_le, Nat.add_zero, Nat.le_refl, nI_add, mul_nI, lt_nI, le_nI, eq_nI, bnd_nI, ci_nI, decide_eq_true_eq, decide_true, decide_false, Bool.true_or, Bool.or_true, Bool.or_false, Bool.false_or, not_true_eq_false, not_false_eq_true, Bool.false_eq_true, Bool.false_and, Bool.true_and, Bool.and_true, Bool.and_false, Bool.not_true, Bool.not_false, false_and, and_false, and_self, ob_1, rf_1_0, rf_1_1, rf_1_2, rf_1_3, rf_1_4, rf_1_5, rf_1_6, rf_1_7, rf_1_8, ob_2, rf_2_0, hz4, htb, htb2, hsw, z1, z2]
    exact hba
end
