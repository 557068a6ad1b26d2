def am_rr (r : Bool × Nat × (Nat → Nat)) : Int32 := if r.1 = true then nI (r.2.2 4) else -10 - nI r.2.1
def am_t0 : Nat → Nat := fun j => if j = 2 then 60 else 0
section
variable {n d T : Nat} {J : Nat → Nat → Int64} {sw : Bool} {Q : am_Post} {tx : Nat → Nat} {ln : Nat}
theorem Tc_fr {tn : Nat → Nat} {I I' : Nat → Nat → Int32} (hT : T = 4 ∨ T = 12) (h : ∀ a, a ≠ 2 → I' a = I a) (hTc : ar_Tc T tn I) : ar_Tc T tn I' := by
  obtain ⟨c1, c2, c3, c4, c5, c6, c7, c8⟩ := hTc
  unfold ar_Tc
  rw [h T (by omega), h (T + 1) (by omega), h (T + 2) (by omega), h (T + 3) (by omega), h (T + 4) (by omega), h (T + 5) (by omega), h (T + 6) (by omega), h (T + 7) (by omega)]
  exact ⟨c1, c2, c3, c4, c5, c6, c7, c8⟩
set_option maxHeartbeats 4000000 in
theorem l5_readL (hT : T = 4 ∨ T = 12) : ∀ (r p : Nat) (tn : Nat → Nat) (I : Nat → Nat → Int32), ln + 1 ≤ p + r → p ≤ ln → ar_told tn → tn 5 ≤ 3 → 2 * tn 4 ≤ p → ar_L tx ln I → I 2 2 = nI p → ar_Tc T tn I → (∀ I', (∀ a, a ≠ 2 → (a < T ∨ T + 7 < a) → I' a = I a) → I' 2 1 = nI ln → ((am_pa tx ln r p tn).1 = true → ar_Tc T (am_pa tx ln r p tn).2.2 I') → Q (some (.int (am_rr (am_pa tx ln r p tn)))) (am_sh n, I', J, am_Rf sw)) → am_wp (d + 6) m5_read 10 [some (.ref T), some (.ref 2), some (.int (nI (tn 4)))] [] (am_sh n, I, J, am_Rf sw) Q
  | 0, p, tn, I, h1, h2, _, _, _, _, _, _, _ => absurd h1 (by omega)
  | r + 1, p, tn, I, h1, h2, hO, h5, h4, hL, hI, hTc, hq => by
    have hln := hL.1
    obtain ⟨t0, t1, t2, t3, t4, t5, t6⟩ := tk_kd (ln := ln) (p := p) hL.2.2.1
    have hp := pn_le (tx := tx) h2
    have hn : ¬ 120 ≤ tn 4 := by omega
    have hoT := ob_T hT n
    have ih := l5_readL hT r
    rw [s5_read_10]
    simp (disch := omega) only [s5_read_0, s5_read_1, s5_read_4, s5_read_5, s5_read_8, s5_read_9, s5_read_11, s5_read_13, s5_read_16, s5_read_17, s5_read_20, s5_read_21, s5_read_24, s5_read_25, s5_read_28, s5_read_29, s5_read_30, s5_read_31, s5_read_32, s5_read_35, s5_read_38, s5_read_41, s5_read_44, s5_read_47, s5_read_49, s5_read_50, s5_read_53, s5_read_54, am_k1_int, am_k1_ref, am_k1_none, am_cats_nil, am_cats_int, am_cats_ref, am_cats_long, Option.toList_some, Option.toList_none, List.singleton_append, List.nil_append, List.cons_append, true_and, and_true, if_true, if_false, va_rf, ↓reduceIte, Nat.reduceAdd, Nat.reduceMul, Nat.reduceSub, Nat.reduceLT, Nat.reduceLeDiff, Nat.reduceEqDiff, Nat.zero_le, Nat.add_zero, Nat.le_refl, nI_add, mul_nI, lt_nI, le_nI, eq_nI, bnd_nI, ci_nI, decide_eq_true_eq, decide_true, decide_false, Bool.true_or, Bool.or_true, Bool.or_false, Bool.false_or, not_true_eq_false, not_false_eq_true, Bool.false_eq_true, Bool.false_and, Bool.true_and, Bool.and_true, Bool.and_false, Bool.not_true, Bool.not_false, false_and, and_false, and_self, ob_2, rf_2_0, hn]
    refine c4_step hL h2 hI (fun I1 f1 f2 f3 f4 f5 f6 => ?_)
    have hL1 : ar_L tx ln I1 := ⟨hL.1, f2, hL.2.2.1, fun i hi => by rw [f1 3 (by omega)]; exact hL.2.2.2 i hi⟩
    have hTc1 := Tc_fr hT f1 hTc
    have hbad : (am_pa tx ln (r + 1) p tn) = (false, am_sp tx ln p, tn) → (¬ I1 2 4 = -1) → (¬ I1 2 4 = nI 99) → (¬ I1 2 4 = nI 100) → (¬ I1 2 4 = nI 107) → (¬ I1 2 4 = nI 116) → am_wp (d + 6) m5_read 21 [some (.ref T), some (.ref 2), some (.int (nI (tn 4)))] [.ref 2] (am_sh n, I1, J, am_Rf sw) Q := by
      intro epa z0 z1 z2 z3 z4
      rw [epa] at hq
      have hfin := hq I1 (fun a h _ => f1 a h) f2 (fun h => Bool.noConfusion h)
      simp (disch := omega) only [s5_read_0, s5_read_1, s5_read_4, s5_read_5, s5_read_8, s5_read_9, s5_read_11, s5_read_13, s5_read_16, s5_read_17, s5_read_20, s5_read_21, s5_read_24, s5_read_25, s5_read_28, s5_read_29, s5_read_30, s5_read_31, s5_read_32, s5_read_35, s5_read_38, s5_read_41, s5_read_44, s5_read_47, s5_read_49, s5_read_50, s5_read_53, s5_read_54, e5_readItem, s5_readItem_0, s5_readItem_1, s5_readItem_4, s5_readItem_48, s5_readItem_49, s5_readItem_50, s5_readItem_53, s5_readItem_54, s5_readItem_55, s5_readItem_56, s5_readItem_59, s5_readItem_60, s5_readItem_61, s5_readItem_62, s5_readItem_65, s5_readItem_66, s5_readItem_67, s5_readItem_68, s5_readItem_71, s5_readItem_72, s5_readItem_73, am_k1_int, am_k1_ref, am_k1_none, am_cats_nil, am_cats_int, am_cats_ref, am_cats_long, Option.toList_some, Option.toList_none, List.singleton_append, List.nil_append, List.cons_append, true_and, and_true, if_true, if_false, va_rf, ↓reduceIte, Nat.reduceAdd, Nat.reduceMul, Nat.reduceSub, Nat.reduceLT, Nat.reduceLeDiff, Nat.reduceEqDiff, Nat.zero_le, Nat.add_zero, Nat.le_refl, nI_add, mul_nI, lt_nI, le_nI, eq_nI, bnd_nI, ci_nI, decide_eq_true_eq, decide_true, decide_false, Bool.true_or, Bool.or_true, Bool.or_false, Bool.false_or, not_true_eq_false, not_false_eq_true, Bool.false_eq_true, Bool.false_and, Bool.true_and, Bool.and_true, Bool.and_false, Bool.not_true, Bool.not_false, false_and, and_false, and_self, ob_2, rf_2_0, hoT, z0, z1, z2, z3, z4, ret_0, f4]
      exact hfin
    have ok : am_kk tx ln p = 0 ∨ am_kk tx ln p = 1 ∨ am_kk tx ln p = 2 ∨ am_kk tx ln p = 3 ∨ am_kk tx ln p = 4 := by omega
    rcases ok with k | k | k | k | k
    · have epa : am_pa tx ln (r + 1) p tn = (true, am_sp tx ln p, tn) := if_pos k
      rw [epa] at hq
      rw [t0 k] at f5
      have hfin := hq I1 (fun a h _ => f1 a h) f2 (fun _ => hTc1)
      simp (disch := omega) only [s5_read_0, s5_read_1, s5_read_4, s5_read_5, s5_read_8, s5_read_9, s5_read_11, s5_read_13, s5_read_16, s5_read_17, s5_read_20, s5_read_21, s5_read_24, s5_read_25, s5_read_28, s5_read_29, s5_read_30, s5_read_31, s5_read_32, s5_read_35, s5_read_38, s5_read_41, s5_read_44, s5_read_47, s5_read_49, s5_read_50, s5_read_53, s5_read_54, am_k1_int, am_k1_ref, am_k1_none, am_cats_nil, am_cats_int, am_cats_ref, am_cats_long, Option.toList_some, Option.toList_none, List.singleton_append, List.nil_append, List.cons_append, true_and, and_true, if_true, if_false, va_rf, ↓reduceIte, Nat.reduceAdd, Nat.reduceMul, Nat.reduceSub, Nat.reduceLT, Nat.reduceLeDiff, Nat.reduceEqDiff, Nat.zero_le, Nat.add_zero, Nat.le_refl, nI_add, mul_nI, lt_nI, le_nI, eq_nI, bnd_nI, ci_nI, decide_eq_true_eq, decide_true, decide_false, Bool.true_or, Bool.or_true, Bool.or_false, Bool.false_or, not_true_eq_false, not_false_eq_true, Bool.false_eq_true, Bool.false_and, Bool.true_and, Bool.and_true, Bool.and_false, Bool.not_true, Bool.not_false, false_and, and_false, and_self, ob_2, rf_2_0, f5]
      exact hfin
    · obtain ⟨e1, e2⟩ := t1 k
      have hv := e2
      have hne : ¬ am_tk tx ln (am_sp tx ln p) = -1 := by
        rw [e1]
        rcases e2 with e2 | e2 | e2 | e2 <;> rw [e2] <;> decide
      have hp1 := hp.2.2 (by omega)
      have epa : am_pa tx ln (r + 1) p tn = (if (am_im tx ln (am_vv tx ln p) (am_pn tx ln p) (am_sp tx ln p) tn).1 = true then am_pa tx ln r (am_im tx ln (am_vv tx ln p) (am_pn tx ln p) (am_sp tx ln p) tn).2.2.1 (am_im tx ln (am_vv tx ln p) (am_pn tx ln p) (am_sp tx ln p) tn).2.2.2 else (false, (am_im tx ln (am_vv tx ln p) (am_pn tx ln p) (am_sp tx ln p) tn).2.1, tn)) := by
        simp only [am_pa]
        rw [if_neg (by omega), if_pos k]
      have f5' : ¬ I1 2 4 = -1 := by rw [f5]; exact hne
      simp (disch := omega) only [s5_read_0, s5_read_1, s5_read_4, s5_read_5, s5_read_8, s5_read_9, s5_read_11, s5_read_13, s5_read_16, s5_read_17, s5_read_20, s5_read_21, s5_read_24, s5_read_25, s5_read_28, s5_read_29, s5_read_30, s5_read_31, s5_read_32, s5_read_35, s5_read_38, s5_read_41, s5_read_44, s5_read_47, s5_read_49, s5_read_50, s5_read_53, s5_read_54, am_k1_int, am_k1_ref, am_k1_none, am_cats_nil, am_cats_int, am_cats_ref, am_cats_long, Option.toList_some, Option.toList_none, List.singleton_append, List.nil_append, List.cons_append, true_and, and_true, if_true, if_false, va_rf, ↓reduceIte, Nat.reduceAdd, Nat.reduceMul, Nat.reduceSub, Nat.reduceLT, Nat.reduceLeDiff, Nat.reduceEqDiff, Nat.zero_le, Nat.add_zero, Nat.le_refl, nI_add, mul_nI, lt_nI, le_nI, eq_nI, bnd_nI, ci_nI, decide_eq_true_eq, decide_true, decide_false, Bool.true_or, Bool.or_true, Bool.or_false, Bool.false_or, not_true_eq_false, not_false_eq_true, Bool.false_eq_true, Bool.false_and, Bool.true_and, Bool.and_true, Bool.and_false, Bool.not_true, Bool.not_false, false_and, and_false, and_self, ob_2, rf_2_0, hoT, f5']
      refine c5_readItem hT hO.1 hO.2.1 h5 hL1 h2 k f3 f4 f5 hTc1 (fun I2 hip => ?_)
      obtain ⟨i1, i2, i3, i4⟩ := hip
      cases hb : (am_im tx ln (am_vv tx ln p) (am_pn tx ln p) (am_sp tx ln p) tn).1 with
      | true =>
        obtain ⟨g1, g2, g3, g4, g5⟩ := im_ok hv hO h5 (by omega) hp.1 hb
        obtain ⟨j1, j2⟩ := i4 hb
        rw [if_pos hb] at epa
        rw [epa] at hq
        have hL2 : ar_L tx ln I2 := ⟨hL.1, i2, hL.2.2.1, fun i hi => by rw [i1 3 (by omega) (by omega), f1 3 (by omega)]; exact hL.2.2.2 i hi⟩
        have hfin := ih _ _ I2 (by omega) g5 g1 g2 (by rw [g3]; omega) hL2 j1 j2 (fun I' k1 k2 k3 => hq I' (fun a h h' => by rw [k1 a h h', i1 a h h', f1 a h]) k2 k3)
        rw [g3] at hfin
        simp (disch := omega) only [s5_read_0, s5_read_1, s5_read_4, s5_read_5, s5_read_8, s5_read_9, s5_read_11, s5_read_13, s5_read_16, s5_read_17, s5_read_20, s5_read_21, s5_read_24, s5_read_25, s5_read_28, s5_read_29, s5_read_30, s5_read_31, s5_read_32, s5_read_35, s5_read_38, s5_read_41, s5_read_44, s5_read_47, s5_read_49, s5_read_50, s5_read_53, s5_read_54, am_k1_int, am_k1_ref, am_k1_none, am_cats_nil, am_cats_int, am_cats_ref, am_cats_long, Option.toList_some, Option.toList_none, List.singleton_append, List.nil_append, List.cons_append, true_and, and_true, if_true, if_false, va_rf, ↓reduceIte, Nat.reduceAdd, Nat.reduceMul, Nat.reduceSub, Nat.reduceLT, Nat.reduceLeDiff, Nat.reduceEqDiff, Nat.zero_le, Nat.add_zero, Nat.le_refl, nI_add, mul_nI, lt_nI, le_nI, eq_nI, bnd_nI, ci_nI, decide_eq_true_eq, decide_true, decide_false, Bool.true_or, Bool.or_true, Bool.or_false, Bool.false_or, not_true_eq_false, not_false_eq_true, Bool.false_eq_true, Bool.false_and, Bool.true_and, Bool.and_true, Bool.and_false, Bool.not_true, Bool.not_false, false_and, and_false, and_self, bi_t, ite_bi2]
        exact hfin
      | false =>
        rw [if_neg (by rw [hb]; decide)] at epa
        rw [epa] at hq
        have hst := i3 hb
        have hfin := hq I2 (fun a h h' => by rw [i1 a h h', f1 a h]) i2 (fun h => Bool.noConfusion h)
        simp (disch := omega) only [s5_read_0, s5_read_1, s5_read_4, s5_read_5, s5_read_8, s5_read_9, s5_read_11, s5_read_13, s5_read_16, s5_read_17, s5_read_20, s5_read_21, s5_read_24, s5_read_25, s5_read_28, s5_read_29, s5_read_30, s5_read_31, s5_read_32, s5_read_35, s5_read_38, s5_read_41, s5_read_44, s5_read_47, s5_read_49, s5_read_50, s5_read_53, s5_read_54, am_k1_int, am_k1_ref, am_k1_none, am_cats_nil, am_cats_int, am_cats_ref, am_cats_long, Option.toList_some, Option.toList_none, List.singleton_append, List.nil_append, List.cons_append, true_and, and_true, if_true, if_false, va_rf, ↓reduceIte, Nat.reduceAdd, Nat.reduceMul, Nat.reduceSub, Nat.reduceLT, Nat.reduceLeDiff, Nat.reduceEqDiff, Nat.zero_le, Nat.add_zero, Nat.le_refl, nI_add, mul_nI, lt_nI, le_nI, eq_nI, bnd_nI, ci_nI, decide_eq_true_eq, decide_true, decide_false, Bool.true_or, Bool.or_true, Bool.or_false, Bool.false_or, not_true_eq_false, not_false_eq_true, Bool.false_eq_true, Bool.false_and, Bool.true_and, Bool.and_true, Bool.and_false, Bool.not_true, Bool.not_false, false_and, and_false, and_self, ob_2, rf_2_0, bi_f, ite_bi2, hst]
        exact hfin
    · have epa : am_pa tx ln (r + 1) p tn = (false, am_sp tx ln p, tn) := by
        simp only [am_pa]
        rw [if_neg (by omega), if_neg (by omega)]
      by_cases h99 : am_vv tx ln p ≤ 99
      · rw [t2 k h99] at f5
        exact hbad epa (by rw [f5]; decide) (by rw [f5]; decide) (by rw [f5]; decide) (by rw [f5]; decide) (by rw [f5]; decide)
      · rw [t3 k (by omega)] at f5
        exact hbad epa (by rw [f5]; decide) (by rw [f5]; decide) (by rw [f5]; decide) (by rw [f5]; decide) (by rw [f5]; decide)
    · have epa : am_pa tx ln (r + 1) p tn = (false, am_sp tx ln p, tn) := by
        simp only [am_pa]
        rw [if_neg (by omega), if_neg (by omega)]
      rw [t4 k] at f5
      exact hbad epa (by rw [f5]; decide) (by rw [f5]; decide) (by rw [f5]; decide) (by rw [f5]; decide) (by rw [f5]; decide)
    · have epa : am_pa tx ln (r + 1) p tn = (false, am_sp tx ln p, tn) := by
        simp only [am_pa]
        rw [if_neg (by omega), if_neg (by omega)]
      rw [t5 k] at f5
      exact hbad epa (by rw [f5]; decide) (by rw [f5]; decide) (by rw [f5]; decide) (by rw [f5]; decide) (by rw [f5]; decide)
theorem told_0 : ar_told am_t0 := by
  refine ⟨by decide, by decide, ⟨by decide, by decide⟩, by decide, fun e he => ?_, fun e he => absurd he (by show ¬ e < 0; omega), fun c hc => ?_, fun c hc => absurd hc (by show ¬ c < 0; omega), by decide⟩
  · unfold am_t0
    rw [if_neg (by omega), if_neg (by omega), if_neg (by omega)]
    omega
  · unfold am_t0
    rw [if_neg (by omega), if_neg (by omega), if_neg (by omega), if_neg (by omega)]
    omega
theorem c5_read {I : Nat → Nat → Int32} (hT : T = 4 ∨ T = 12) (hL : ar_L tx ln I) (hq : ∀ I', (∀ a, a ≠ 2 → (a < T ∨ T + 7 < a) → I' a = I a) → I' 2 1 = nI ln → ((am_pa tx ln 121 0 am_t0).1 = true → ar_Tc T (am_pa tx ln 121 0 am_t0).2.2 I') → Q (some (.int (am_rr (am_pa tx ln 121 0 am_t0)))) (am_sh n, I', J, am_Rf sw)) : am_call (d + 7) m5_read [.ref T, .ref 2] (am_sh n, I, J, am_Rf sw) Q := by
  have hln := hL.1
  have hoT := ob_T hT n
  have zT : 0 < T := by omega
  have z2 : 0 < 2 := by decide
  have zo0 : (nI 0 = 0 ∨ nI 0 = 1) := by decide
  obtain ⟨I1, hI1⟩ : ∃ I1, I1 = am_up (am_up (am_up (am_up (am_up (am_up (am_up I T 0 (nI 0)) T 4 (nI 0)) T 9 (nI 60)) T 10 (nI 0)) T 11 (nI 0)) T 12 (nI 0)) 2 2 (nI 0) := ⟨_, rfl⟩
  have g1 : ∀ a, a ≠ 2 → a ≠ T → I1 a = I a := fun a h h' => by rw [hI1, am_up_ne h, am_up_ne h', am_up_ne h', am_up_ne h', am_up_ne h', am_up_ne h', am_up_ne h']
  have g2 : I1 2 1 = nI ln := by rw [hI1, up_n (by omega), am_up_ne (by omega), am_up_ne (by omega), am_up_ne (by omega), am_up_ne (by omega), am_up_ne (by omega), am_up_ne (by omega)]; exact hL.2.1
  have gT : ∀ j, I1 T j = if j = 12 then nI 0 else if j = 11 then nI 0 else if j = 10 then nI 0 else if j = 9 then nI 60 else if j = 4 then nI 0 else if j = 0 then nI 0 else I T j := fun j => by
    rw [hI1, am_up_ne (by omega), up_at, up_at, up_at, up_at, up_at, up_at]
  have hL1 : ar_L tx ln I1 := ⟨hln, g2, hL.2.2.1, fun i hi => by rw [g1 3 (by omega) (by omega)]; exact hL.2.2.2 i hi⟩
  have hTc1 : ar_Tc T am_t0 I1 := ⟨by rw [gT]; rfl, by rw [gT]; rfl, by rw [gT]; rfl, by rw [gT]; rfl, by rw [gT]; rfl, by rw [gT]; rfl, fun e he => absurd he (by show ¬ e < 0; omega), fun c hc => absurd hc (by show ¬ c < 0; omega)⟩
  have hfin := l5_readL (n := n) (d := d) (J := J) (sw := sw) (Q := Q) (tx := tx) (ln := ln) hT 121 0 am_t0 I1 (by omega) (by omega) told_0 (by decide) (by decide) hL1 (by rw [hI1, up_s]) hTc1 (fun I' k1 k2 k3 => hq I' (fun a h h' => by rw [k1 a h h']; exact g1 a h (by omega)) k2 k3)
  simp (disch := omega) only [e5_read, s5_read_0, s5_read_1, s5_read_4, s5_read_5, s5_read_8, s5_read_9, s5_read_11, s5_read_13, s5_read_16, s5_read_17, s5_read_20, s5_read_21, s5_read_24, s5_read_25, s5_read_28, s5_read_29, s5_read_30, s5_read_31, s5_read_32, s5_read_35, s5_read_38, s5_read_41, s5_read_44, s5_read_47, s5_read_49, s5_read_50, s5_read_53, s5_read_54, e5_unsay, s5_unsay_0, s5_unsay_1, s5_unsay_2, s5_unsay_5, s5_unsay_6, s5_unsay_7, s5_unsay_10, s5_unsay_11, s5_unsay_13, s5_unsay_16, s5_unsay_17, s5_unsay_18, s5_unsay_21, s5_unsay_22, s5_unsay_23, s5_unsay_26, s5_unsay_27, s5_unsay_28, s5_unsay_31, e4_rewind, s4_rewind_0, s4_rewind_1, s4_rewind_2, s4_rewind_5, am_k1_int, am_k1_ref, am_k1_none, am_cats_nil, am_cats_int, am_cats_ref, am_cats_long, Option.toList_some, Option.toList_none, List.singleton_append, List.nil_append, List.cons_append, true_and, and_true, if_true, if_false, va_rf, ↓reduceIte, Nat.reduceAdd, Nat.reduceMul, Nat.reduceSub, Nat.reduceLT, Nat.reduceLeDiff, Nat.reduceEqDiff, Nat.zero_le, Nat.add_zero, Nat.le_refl, nI_add, mul_nI, lt_nI, le_nI, eq_nI, bnd_nI, ci_nI, decide_eq_true_eq, decide_true, decide_false, Bool.true_or, Bool.or_true, Bool.or_false, Bool.false_or, not_true_eq_false, not_false_eq_true, Bool.false_eq_true, Bool.false_and, Bool.true_and, Bool.and_true, Bool.and_false, Bool.not_true, Bool.not_false, false_and, and_false, and_self, ob_2, rf_2_0, hoT, zT, z2, zo0, ← hI1]
  exact hfin
end
