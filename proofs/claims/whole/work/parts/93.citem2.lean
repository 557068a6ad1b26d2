section
variable {n d T : Nat} {J : Nat → Nat → Int64} {sw : Bool} {Q : am_Post} {tx : Nat → Nat} {ln p st : Nat} {tn : Nat → Nat} {I : Nat → Nat → Int32}
set_option maxHeartbeats 4000000 in
theorem c5_readTen (hT : T = 4 ∨ T = 12) (h04 : tn 0 ≤ 4) (h06 : tn 1 ≤ 6) (h53 : tn 5 ≤ 3) (hL : ar_L tx ln I) (hp : p ≤ ln) (h2 : I 2 2 = nI p) (h3 : I 2 3 = nI st) (hTc : ar_Tc T tn I) (hq : ∀ I', ar_ip T ln I I' (am_im tx ln 116 p st tn) → Q (some (.int (am_bi (am_im tx ln 116 p st tn).1))) (am_sh n, I', J, am_Rf sw)) : am_call (d + 4) m5_readTen [.ref T, .ref 2] (am_sh n, I, J, am_Rf sw) Q := by
  have hoT := ob_T hT n
  obtain ⟨c1, c2, c3, c4, c5, c6, c7, c8⟩ := id hTc
  have zT : 0 < T := by omega
  have els : am_ls 116 tn = [(2, 10, 99)] := rfl
  have efu : am_fu 116 tn = decide (tn 5 % 2 = 1) := rfl
  by_cases hk4 : tn 5 % 2 = 1
  · have eim := im_full (tx := tx) (ln := ln) (p := p) (st := st) (v := 116) (tn := tn) (by rw [efu]; simpa using hk4)
    rw [eim] at hq
    have one0 : ¬ nI 1 = nI 0 := by decide
    rw [hk4] at c5
    have hfin := hq I ⟨fun _ _ _ => rfl, hL.2.1, fun _ => h3, fun h => Bool.noConfusion h⟩
    simp (disch := omega) only [e5_readTen, s5_readTen_0, s5_readTen_1, s5_readTen_4, s5_readTen_7, s5_readTen_8, s5_readTen_10, s5_readTen_12, s5_readTen_15, s5_readTen_18, s5_readTen_19, s5_readTen_20, s5_readTen_21, s5_readTen_22, s5_readTen_25, s5_readTen_26, s5_readTen_27, s5_readTen_30, s5_readTen_33, s5_readTen_34, s5_readTen_37, am_k1_int, am_k1_ref, am_k1_none, am_cats_nil, am_cats_int, am_cats_ref, am_cats_long, Option.toList_some, Option.toList_none, List.singleton_append, List.nil_append, List.cons_append, true_and, and_true, if_true, if_false, va_rf, ↓reduceIte, Nat.reduceAdd, Nat.reduceMul, Nat.reduceSub, Nat.reduceLT, Nat.reduceLeDiff, Nat.reduceEqDiff, Nat.zero_le, Nat.add_zero, Nat.le_refl, nI_add, mul_nI, lt_nI, le_nI, eq_nI, bnd_nI, ci_nI, decide_eq_true_eq, decide_true, decide_false, Bool.true_or, Bool.or_true, Bool.or_false, Bool.false_or, not_true_eq_false, not_false_eq_true, Bool.false_eq_true, Bool.false_and, Bool.true_and, Bool.and_true, Bool.and_false, Bool.not_true, Bool.not_false, false_and, and_false, and_self, hoT, c5, one0, ret_0]
    exact hfin
  have hk0 : tn 5 % 2 = 0 := by omega
  have efu2 : am_fu 116 tn = false := by rw [efu]; simpa using hk4
  have hp1 := pn_le (tx := tx) hp
  rw [hk0] at c5
  simp (disch := omega) only [e5_readTen, s5_readTen_0, s5_readTen_1, s5_readTen_4, s5_readTen_7, s5_readTen_8, s5_readTen_10, s5_readTen_12, s5_readTen_15, s5_readTen_18, s5_readTen_19, s5_readTen_20, s5_readTen_21, s5_readTen_22, s5_readTen_25, s5_readTen_26, s5_readTen_27, s5_readTen_30, s5_readTen_33, s5_readTen_34, s5_readTen_37, am_k1_int, am_k1_ref, am_k1_none, am_cats_nil, am_cats_int, am_cats_ref, am_cats_long, Option.toList_some, Option.toList_none, List.singleton_append, List.nil_append, List.cons_append, true_and, and_true, if_true, if_false, va_rf, ↓reduceIte, Nat.reduceAdd, Nat.reduceMul, Nat.reduceSub, Nat.reduceLT, Nat.reduceLeDiff, Nat.reduceEqDiff, Nat.zero_le, Nat.add_zero, Nat.le_refl, nI_add, mul_nI, lt_nI, le_nI, eq_nI, bnd_nI, ci_nI, decide_eq_true_eq, decide_true, decide_false, Bool.true_or, Bool.or_true, Bool.or_false, Bool.false_or, not_true_eq_false, not_false_eq_true, Bool.false_eq_true, Bool.false_and, Bool.true_and, Bool.and_true, Bool.and_false, Bool.not_true, Bool.not_false, false_and, and_false, and_self, hoT, c5]
  refine c5_readNumber hL hp h2 (by omega) (by omega) (fun I1 f1 f2 f3 f4 f5 => ?_)
  cases n1 : am_nb tx ln p 10 99 with
  | false =>
    have eim := im_f (st := st) (tn := tn) efu2 (by rw [els]; exact ns_f n1)
    rw [eim] at hq
    have hfin := hq I1 ⟨fun a h _ => f1 a h, f2, fun _ => f4, fun h => Bool.noConfusion h⟩
    simp (disch := omega) only [s5_readTen_0, s5_readTen_1, s5_readTen_4, s5_readTen_7, s5_readTen_8, s5_readTen_10, s5_readTen_12, s5_readTen_15, s5_readTen_18, s5_readTen_19, s5_readTen_20, s5_readTen_21, s5_readTen_22, s5_readTen_25, s5_readTen_26, s5_readTen_27, s5_readTen_30, s5_readTen_33, s5_readTen_34, s5_readTen_37, am_k1_int, am_k1_ref, am_k1_none, am_cats_nil, am_cats_int, am_cats_ref, am_cats_long, Option.toList_some, Option.toList_none, List.singleton_append, List.nil_append, List.cons_append, true_and, and_true, if_true, if_false, va_rf, ↓reduceIte, Nat.reduceAdd, Nat.reduceMul, Nat.reduceSub, Nat.reduceLT, Nat.reduceLeDiff, Nat.reduceEqDiff, Nat.zero_le, Nat.add_zero, Nat.le_refl, nI_add, mul_nI, lt_nI, le_nI, eq_nI, bnd_nI, ci_nI, decide_eq_true_eq, decide_true, decide_false, Bool.true_or, Bool.or_true, Bool.or_false, Bool.false_or, not_true_eq_false, not_false_eq_true, Bool.false_eq_true, Bool.false_and, Bool.true_and, Bool.and_true, Bool.and_false, Bool.not_true, Bool.not_false, false_and, and_false, and_self, bi_f, ite_bi2, ret_0]
    exact hfin
  | true =>
  have w1 := nb_v n1
  have g1 := f5 n1
  have zo1 : (nI 1 = 0 ∨ nI 1 = 1) := by decide
  simp (disch := omega) only [s5_readTen_0, s5_readTen_1, s5_readTen_4, s5_readTen_7, s5_readTen_8, s5_readTen_10, s5_readTen_12, s5_readTen_15, s5_readTen_18, s5_readTen_19, s5_readTen_20, s5_readTen_21, s5_readTen_22, s5_readTen_25, s5_readTen_26, s5_readTen_27, s5_readTen_30, s5_readTen_33, s5_readTen_34, s5_readTen_37, am_k1_int, am_k1_ref, am_k1_none, am_cats_nil, am_cats_int, am_cats_ref, am_cats_long, Option.toList_some, Option.toList_none, List.singleton_append, List.nil_append, List.cons_append, true_and, and_true, if_true, if_false, va_rf, ↓reduceIte, Nat.reduceAdd, Nat.reduceMul, Nat.reduceSub, Nat.reduceLT, Nat.reduceLeDiff, Nat.reduceEqDiff, Nat.zero_le, Nat.add_zero, Nat.le_refl, nI_add, mul_nI, lt_nI, le_nI, eq_nI, bnd_nI, ci_nI, decide_eq_true_eq, decide_true, decide_false, Bool.true_or, Bool.or_true, Bool.or_false, Bool.false_or, not_true_eq_false, not_false_eq_true, Bool.false_eq_true, Bool.false_and, Bool.true_and, Bool.and_true, Bool.and_false, Bool.not_true, Bool.not_false, false_and, and_false, and_self, ob_2, rf_2_0, bi_t, ite_bi2, hoT, zT, zo1, g1, up_n, Value.category]
  refine c5_readItemsEnd (L_up (L_up hL f1 f2 (a := T) (j := 11) (v := nI 1) (by omega) (by omega)) (fun _ _ => rfl) (by rw [am_up_ne (by omega)]; exact f2) (by omega) (by omega)) hp1.1 (by rw [am_up_ne (by omega), am_up_ne (by omega)]; exact f3) (fun I2 m1 m2 m3 m4 => ?_)
  have ens : am_ns tx ln (am_ls 116 tn) p st tn = (true, am_sp tx ln p, am_pn tx ln p, (am_uf tn 2 (am_vv tx ln p))) := by
    rw [els, ns_t n1]
    rfl
  have hfr : ∀ a, a ≠ 2 → (a < T ∨ T + 7 < a) → I2 a = I a := fun a h h' => by rw [m1 a h, am_up_ne (by omega), am_up_ne (by omega), f1 a h]
  by_cases h59 : am_kk tx ln (am_pn tx ln p) = 3
  · have eim := im_t efu2 ens h59
    rw [eim] at hq
    have rT : ∀ j, I2 T j = if j = 9 then nI (am_vv tx ln p) else if j = 11 then nI 1 else I T j := fun j => by
      rw [m1 T (by omega), up_at, up_at, f1 T (by omega)]
    have rTc : ∀ a, T + 1 ≤ a → a ≤ T + 7 → I2 a = I a := fun a h h' => by rw [m1 a (by omega), am_up_ne (by omega), am_up_ne (by omega), f1 a (by omega)]
    have hfin := hq I2 ⟨hfr, m2, fun h => Bool.noConfusion h, fun _ => ⟨m3, ?_⟩⟩
    · simp only [h59, decide_true]
      simp (disch := omega) only [s5_readTen_0, s5_readTen_1, s5_readTen_4, s5_readTen_7, s5_readTen_8, s5_readTen_10, s5_readTen_12, s5_readTen_15, s5_readTen_18, s5_readTen_19, s5_readTen_20, s5_readTen_21, s5_readTen_22, s5_readTen_25, s5_readTen_26, s5_readTen_27, s5_readTen_30, s5_readTen_33, s5_readTen_34, s5_readTen_37, am_k1_int, am_k1_ref, am_k1_none, am_cats_nil, am_cats_int, am_cats_ref, am_cats_long, Option.toList_some, Option.toList_none, List.singleton_append, List.nil_append, List.cons_append, true_and, and_true, if_true, if_false, va_rf, ↓reduceIte, Nat.reduceAdd, Nat.reduceMul, Nat.reduceSub, Nat.reduceLT, Nat.reduceLeDiff, Nat.reduceEqDiff, Nat.zero_le, Nat.add_zero, Nat.le_refl, nI_add, mul_nI, lt_nI, le_nI, eq_nI, bnd_nI, ci_nI, decide_eq_true_eq, decide_true, decide_false, Bool.true_or, Bool.or_true, Bool.or_false, Bool.false_or, not_true_eq_false, not_false_eq_true, Bool.false_eq_true, Bool.false_and, Bool.true_and, Bool.and_true, Bool.and_false, Bool.not_true, Bool.not_false, false_and, and_false, and_self, bi_ret]
      exact hfin
    · show ar_Tc T (am_uf (am_uf (am_uf tn 2 (am_vv tx ln p)) 5 ((am_uf tn 2 (am_vv tx ln p)) 5 ||| 1)) 4 (tn 4 + 1)) I2
      have e0 : (am_uf tn 2 (am_vv tx ln p)) 5 = tn 5 := uf_n (by omega)
      rw [e0]
      have h5 : (tn 5 ||| 1) % 2 = 1 ∧ (tn 5 ||| 1) / 2 % 2 = tn 5 / 2 % 2 := by
        rcases (show tn 5 = 0 ∨ tn 5 = 1 ∨ tn 5 = 2 ∨ tn 5 = 3 by omega) with h | h | h | h <;> rw [h] <;> decide
      refine ⟨?_, ?_, ?_, ?_, ?_, ?_, fun e he => ?_, fun c hc => ?_⟩
      · rw [rT, if_neg (by omega), if_neg (by omega), c1, uf_n (by omega), uf_n (by omega), uf_n (by omega)]
      · rw [rT, if_neg (by omega), if_neg (by omega), c2, uf_n (by omega), uf_n (by omega), uf_n (by omega)]
      · rw [rT, if_pos rfl, uf_n (by omega), uf_n (by omega), uf_s]
      · rw [rT, if_neg (by omega), if_neg (by omega), c4, uf_n (by omega), uf_n (by omega), uf_n (by omega)]
      · rw [rT, if_neg (by omega), if_pos rfl, uf_n (by omega), uf_s, h5.1]
      · rw [rT, if_neg (by omega), if_neg (by omega), c6, uf_n (by omega), uf_s, h5.2]
      · rw [uf_n (by omega), uf_n (by omega), uf_n (by omega)] at he
        rw [rTc (T + 1) (by omega) (by omega), rTc (T + 2) (by omega) (by omega), rTc (T + 3) (by omega) (by omega)]
        obtain ⟨y1, y2, y3⟩ := c7 e he
        exact ⟨by rw [y1, uf_n (by omega), uf_n (by omega), uf_n (by omega)], by rw [y2, uf_n (by omega), uf_n (by omega), uf_n (by omega)], by rw [y3, uf_n (by omega), uf_n (by omega), uf_n (by omega)]⟩
      · rw [uf_n (by omega), uf_n (by omega), uf_n (by omega)] at hc
        rw [rTc (T + 4) (by omega) (by omega), rTc (T + 5) (by omega) (by omega), rTc (T + 6) (by omega) (by omega), rTc (T + 7) (by omega) (by omega)]
        obtain ⟨y1, y2, y3, y4⟩ := c8 c hc
        exact ⟨by rw [y1, uf_n (by omega), uf_n (by omega), uf_n (by omega)], by rw [y2, uf_n (by omega), uf_n (by omega), uf_n (by omega)], by rw [y3, uf_n (by omega), uf_n (by omega), uf_n (by omega)], by rw [y4, uf_n (by omega), uf_n (by omega), uf_n (by omega)]⟩
  · have eim := im_e efu2 ens h59
    rw [eim] at hq
    have hfin := hq I2 ⟨hfr, m2, fun _ => m4, fun h => Bool.noConfusion h⟩
    simp only [h59, decide_false]
    simp (disch := omega) only [s5_readTen_0, s5_readTen_1, s5_readTen_4, s5_readTen_7, s5_readTen_8, s5_readTen_10, s5_readTen_12, s5_readTen_15, s5_readTen_18, s5_readTen_19, s5_readTen_20, s5_readTen_21, s5_readTen_22, s5_readTen_25, s5_readTen_26, s5_readTen_27, s5_readTen_30, s5_readTen_33, s5_readTen_34, s5_readTen_37, am_k1_int, am_k1_ref, am_k1_none, am_cats_nil, am_cats_int, am_cats_ref, am_cats_long, Option.toList_some, Option.toList_none, List.singleton_append, List.nil_append, List.cons_append, true_and, and_true, if_true, if_false, va_rf, ↓reduceIte, Nat.reduceAdd, Nat.reduceMul, Nat.reduceSub, Nat.reduceLT, Nat.reduceLeDiff, Nat.reduceEqDiff, Nat.zero_le, Nat.add_zero, Nat.le_refl, nI_add, mul_nI, lt_nI, le_nI, eq_nI, bnd_nI, ci_nI, decide_eq_true_eq, decide_true, decide_false, Bool.true_or, Bool.or_true, Bool.or_false, Bool.false_or, not_true_eq_false, not_false_eq_true, Bool.false_eq_true, Bool.false_and, Bool.true_and, Bool.and_true, Bool.and_false, Bool.not_true, Bool.not_false, false_and, and_false, and_self, bi_ret]
    exact hfin
set_option maxHeartbeats 4000000 in
theorem c5_readCellar (hT : T = 4 ∨ T = 12) (h04 : tn 0 ≤ 4) (h06 : tn 1 ≤ 6) (h53 : tn 5 ≤ 3) (hL : ar_L tx ln I) (hp : p ≤ ln) (h2 : I 2 2 = nI p) (h3 : I 2 3 = nI st) (hTc : ar_Tc T tn I) (hq : ∀ I', ar_ip T ln I I' (am_im tx ln 107 p st tn) → Q (some (.int (am_bi (am_im tx ln 107 p st tn).1))) (am_sh n, I', J, am_Rf sw)) : am_call (d + 4) m5_readCellar [.ref T, .ref 2] (am_sh n, I, J, am_Rf sw) Q := by
  have hoT := ob_T hT n
  obtain ⟨c1, c2, c3, c4, c5, c6, c7, c8⟩ := id hTc
  have zT : 0 < T := by omega
  have els : am_ls 107 tn = [(3, 0, 30)] := rfl
  have efu : am_fu 107 tn = decide (tn 5 / 2 % 2 = 1) := rfl
  by_cases hk4 : tn 5 / 2 % 2 = 1
  · have eim := im_full (tx := tx) (ln := ln) (p := p) (st := st) (v := 107) (tn := tn) (by rw [efu]; simpa using hk4)
    rw [eim] at hq
    have one0 : ¬ nI 1 = nI 0 := by decide
    rw [hk4] at c6
    have hfin := hq I ⟨fun _ _ _ => rfl, hL.2.1, fun _ => h3, fun h => Bool.noConfusion h⟩
    simp (disch := omega) only [e5_readCellar, s5_readCellar_0, s5_readCellar_1, s5_readCellar_4, s5_readCellar_7, s5_readCellar_8, s5_readCellar_9, s5_readCellar_11, s5_readCellar_14, s5_readCellar_17, s5_readCellar_18, s5_readCellar_19, s5_readCellar_20, s5_readCellar_21, s5_readCellar_24, s5_readCellar_25, s5_readCellar_26, s5_readCellar_29, s5_readCellar_32, s5_readCellar_33, s5_readCellar_36, am_k1_int, am_k1_ref, am_k1_none, am_cats_nil, am_cats_int, am_cats_ref, am_cats_long, Option.toList_some, Option.toList_none, List.singleton_append, List.nil_append, List.cons_append, true_and, and_true, if_true, if_false, va_rf, ↓reduceIte, Nat.reduceAdd, Nat.reduceMul, Nat.reduceSub, Nat.reduceLT, Nat.reduceLeDiff, Nat.reduceEqDiff, Nat.zero_le, Nat.add_zero, Nat.le_refl, nI_add, mul_nI, lt_nI, le_nI, eq_nI, bnd_nI, ci_nI, decide_eq_true_eq, decide_true, decide_false, Bool.true_or, Bool.or_true, Bool.or_false, Bool.false_or, not_true_eq_false, not_false_eq_true, Bool.false_eq_true, Bool.false_and, Bool.true_and, Bool.and_true, Bool.and_false, Bool.not_true, Bool.not_false, false_and, and_false, and_self, hoT, c6, one0, ret_0]
    exact hfin
  have hk0 : tn 5 / 2 % 2 = 0 := by omega
  have efu2 : am_fu 107 tn = false := by rw [efu]; simpa using hk4
  have hp1 := pn_le (tx := tx) hp
  rw [hk0] at c6
  simp (disch := omega) only [e5_readCellar, s5_readCellar_0, s5_readCellar_1, s5_readCellar_4, s5_readCellar_7, s5_readCellar_8, s5_readCellar_9, s5_readCellar_11, s5_readCellar_14, s5_readCellar_17, s5_readCellar_18, s5_readCellar_19, s5_readCellar_20, s5_readCellar_21, s5_readCellar_24, s5_readCellar_25, s5_readCellar_26, s5_readCellar_29, s5_readCellar_32, s5_readCellar_33, s5_readCellar_36, am_k1_int, am_k1_ref, am_k1_none, am_cats_nil, am_cats_int, am_cats_ref, am_cats_long, Option.toList_some, Option.toList_none, List.singleton_append, List.nil_append, List.cons_append, true_and, and_true, if_true, if_false, va_rf, ↓reduceIte, Nat.reduceAdd, Nat.reduceMul, Nat.reduceSub, Nat.reduceLT, Nat.reduceLeDiff, Nat.reduceEqDiff, Nat.zero_le, Nat.add_zero, Nat.le_refl, nI_add, mul_nI, lt_nI, le_nI, eq_nI, bnd_nI, ci_nI, decide_eq_true_eq, decide_true, decide_false, Bool.true_or, Bool.or_true, Bool.or_false, Bool.false_or, not_true_eq_false, not_false_eq_true, Bool.false_eq_true, Bool.false_and, Bool.true_and, Bool.and_true, Bool.and_false, Bool.not_true, Bool.not_false, false_and, and_false, and_self, hoT, c6]
  refine c5_readNumber hL hp h2 (by omega) (by omega) (fun I1 f1 f2 f3 f4 f5 => ?_)
  cases n1 : am_nb tx ln p 0 30 with
  | false =>
    have eim := im_f (st := st) (tn := tn) efu2 (by rw [els]; exact ns_f n1)
    rw [eim] at hq
    have hfin := hq I1 ⟨fun a h _ => f1 a h, f2, fun _ => f4, fun h => Bool.noConfusion h⟩
    simp (disch := omega) only [s5_readCellar_0, s5_readCellar_1, s5_readCellar_4, s5_readCellar_7, s5_readCellar_8, s5_readCellar_9, s5_readCellar_11, s5_readCellar_14, s5_readCellar_17, s5_readCellar_18, s5_readCellar_19, s5_readCellar_20, s5_readCellar_21, s5_readCellar_24, s5_readCellar_25, s5_readCellar_26, s5_readCellar_29, s5_readCellar_32, s5_readCellar_33, s5_readCellar_36, am_k1_int, am_k1_ref, am_k1_none, am_cats_nil, am_cats_int, am_cats_ref, am_cats_long, Option.toList_some, Option.toList_none, List.singleton_append, List.nil_append, List.cons_append, true_and, and_true, if_true, if_false, va_rf, ↓reduceIte, Nat.reduceAdd, Nat.reduceMul, Nat.reduceSub, Nat.reduceLT, Nat.reduceLeDiff, Nat.reduceEqDiff, Nat.zero_le, Nat.add_zero, Nat.le_refl, nI_add, mul_nI, lt_nI, le_nI, eq_nI, bnd_nI, ci_nI, decide_eq_true_eq, decide_true, decide_false, Bool.true_or, Bool.or_true, Bool.or_false, Bool.false_or, not_true_eq_false, not_false_eq_true, Bool.false_eq_true, Bool.false_and, Bool.true_and, Bool.and_true, Bool.and_false, Bool.not_true, Bool.not_false, false_and, and_false, and_self, bi_f, ite_bi2, ret_0]
    exact hfin
  | true =>
  have w1 := nb_v n1
  have g1 := f5 n1
  have zo1 : (nI 1 = 0 ∨ nI 1 = 1) := by decide
  simp (disch := omega) only [s5_readCellar_0, s5_readCellar_1, s5_readCellar_4, s5_readCellar_7, s5_readCellar_8, s5_readCellar_9, s5_readCellar_11, s5_readCellar_14, s5_readCellar_17, s5_readCellar_18, s5_readCellar_19, s5_readCellar_20, s5_readCellar_21, s5_readCellar_24, s5_readCellar_25, s5_readCellar_26, s5_readCellar_29, s5_readCellar_32, s5_readCellar_33, s5_readCellar_36, am_k1_int, am_k1_ref, am_k1_none, am_cats_nil, am_cats_int, am_cats_ref, am_cats_long, Option.toList_some, Option.toList_none, List.singleton_append, List.nil_append, List.cons_append, true_and, and_true, if_true, if_false, va_rf, ↓reduceIte, Nat.reduceAdd, Nat.reduceMul, Nat.reduceSub, Nat.reduceLT, Nat.reduceLeDiff, Nat.reduceEqDiff, Nat.zero_le, Nat.add_zero, Nat.le_refl, nI_add, mul_nI, lt_nI, le_nI, eq_nI, bnd_nI, ci_nI, decide_eq_true_eq, decide_true, decide_false, Bool.true_or, Bool.or_true, Bool.or_false, Bool.false_or, not_true_eq_false, not_false_eq_true, Bool.false_eq_true, Bool.false_and, Bool.true_and, Bool.and_true, Bool.and_false, Bool.not_true, Bool.not_false, false_and, and_false, and_self, ob_2, rf_2_0, bi_t, ite_bi2, hoT, zT, zo1, g1, up_n, Value.category]
  refine c5_readItemsEnd (L_up (L_up hL f1 f2 (a := T) (j := 12) (v := nI 1) (by omega) (by omega)) (fun _ _ => rfl) (by rw [am_up_ne (by omega)]; exact f2) (by omega) (by omega)) hp1.1 (by rw [am_up_ne (by omega), am_up_ne (by omega)]; exact f3) (fun I2 m1 m2 m3 m4 => ?_)
  have ens : am_ns tx ln (am_ls 107 tn) p st tn = (true, am_sp tx ln p, am_pn tx ln p, (am_uf tn 3 (am_vv tx ln p))) := by
    rw [els, ns_t n1]
    rfl
  have hfr : ∀ a, a ≠ 2 → (a < T ∨ T + 7 < a) → I2 a = I a := fun a h h' => by rw [m1 a h, am_up_ne (by omega), am_up_ne (by omega), f1 a h]
  by_cases h59 : am_kk tx ln (am_pn tx ln p) = 3
  · have eim := im_t efu2 ens h59
    rw [eim] at hq
    have rT : ∀ j, I2 T j = if j = 10 then nI (am_vv tx ln p) else if j = 12 then nI 1 else I T j := fun j => by
      rw [m1 T (by omega), up_at, up_at, f1 T (by omega)]
    have rTc : ∀ a, T + 1 ≤ a → a ≤ T + 7 → I2 a = I a := fun a h h' => by rw [m1 a (by omega), am_up_ne (by omega), am_up_ne (by omega), f1 a (by omega)]
    have hfin := hq I2 ⟨hfr, m2, fun h => Bool.noConfusion h, fun _ => ⟨m3, ?_⟩⟩
    · simp only [h59, decide_true]
      simp (disch := omega) only [s5_readCellar_0, s5_readCellar_1, s5_readCellar_4, s5_readCellar_7, s5_readCellar_8, s5_readCellar_9, s5_readCellar_11, s5_readCellar_14, s5_readCellar_17, s5_readCellar_18, s5_readCellar_19, s5_readCellar_20, s5_readCellar_21, s5_readCellar_24, s5_readCellar_25, s5_readCellar_26, s5_readCellar_29, s5_readCellar_32, s5_readCellar_33, s5_readCellar_36, am_k1_int, am_k1_ref, am_k1_none, am_cats_nil, am_cats_int, am_cats_ref, am_cats_long, Option.toList_some, Option.toList_none, List.singleton_append, List.nil_append, List.cons_append, true_and, and_true, if_true, if_false, va_rf, ↓reduceIte, Nat.reduceAdd, Nat.reduceMul, Nat.reduceSub, Nat.reduceLT, Nat.reduceLeDiff, Nat.reduceEqDiff, Nat.zero_le, Nat.add_zero, Nat.le_refl, nI_add, mul_nI, lt_nI, le_nI, eq_nI, bnd_nI, ci_nI, decide_eq_true_eq, decide_true, decide_false, Bool.true_or, Bool.or_true, Bool.or_false, Bool.false_or, not_true_eq_false, not_false_eq_true, Bool.false_eq_true, Bool.false_and, Bool.true_and, Bool.and_true, Bool.and_false, Bool.not_true, Bool.not_false, false_and, and_false, and_self, bi_ret]
      exact hfin
    · show ar_Tc T (am_uf (am_uf (am_uf tn 3 (am_vv tx ln p)) 5 ((am_uf tn 3 (am_vv tx ln p)) 5 ||| 2)) 4 (tn 4 + 1)) I2
      have e0 : (am_uf tn 3 (am_vv tx ln p)) 5 = tn 5 := uf_n (by omega)
      rw [e0]
      have h5 : (tn 5 ||| 2) / 2 % 2 = 1 ∧ (tn 5 ||| 2) % 2 = tn 5 % 2 := by
        rcases (show tn 5 = 0 ∨ tn 5 = 1 ∨ tn 5 = 2 ∨ tn 5 = 3 by omega) with h | h | h | h <;> rw [h] <;> decide
      refine ⟨?_, ?_, ?_, ?_, ?_, ?_, fun e he => ?_, fun c hc => ?_⟩
      · rw [rT, if_neg (by omega), if_neg (by omega), c1, uf_n (by omega), uf_n (by omega), uf_n (by omega)]
      · rw [rT, if_neg (by omega), if_neg (by omega), c2, uf_n (by omega), uf_n (by omega), uf_n (by omega)]
      · rw [rT, if_neg (by omega), if_neg (by omega), c3, uf_n (by omega), uf_n (by omega), uf_n (by omega)]
      · rw [rT, if_pos rfl, uf_n (by omega), uf_n (by omega), uf_s]
      · rw [rT, if_neg (by omega), if_neg (by omega), c5, uf_n (by omega), uf_s, h5.2]
      · rw [rT, if_neg (by omega), if_pos rfl, uf_n (by omega), uf_s, h5.1]
      · rw [uf_n (by omega), uf_n (by omega), uf_n (by omega)] at he
        rw [rTc (T + 1) (by omega) (by omega), rTc (T + 2) (by omega) (by omega), rTc (T + 3) (by omega) (by omega)]
        obtain ⟨y1, y2, y3⟩ := c7 e he
        exact ⟨by rw [y1, uf_n (by omega), uf_n (by omega), uf_n (by omega)], by rw [y2, uf_n (by omega), uf_n (by omega), uf_n (by omega)], by rw [y3, uf_n (by omega), uf_n (by omega), uf_n (by omega)]⟩
      · rw [uf_n (by omega), uf_n (by omega), uf_n (by omega)] at hc
        rw [rTc (T + 4) (by omega) (by omega), rTc (T + 5) (by omega) (by omega), rTc (T + 6) (by omega) (by omega), rTc (T + 7) (by omega) (by omega)]
        obtain ⟨y1, y2, y3, y4⟩ := c8 c hc
        exact ⟨by rw [y1, uf_n (by omega), uf_n (by omega), uf_n (by omega)], by rw [y2, uf_n (by omega), uf_n (by omega), uf_n (by omega)], by rw [y3, uf_n (by omega), uf_n (by omega), uf_n (by omega)], by rw [y4, uf_n (by omega), uf_n (by omega), uf_n (by omega)]⟩
  · have eim := im_e efu2 ens h59
    rw [eim] at hq
    have hfin := hq I2 ⟨hfr, m2, fun _ => m4, fun h => Bool.noConfusion h⟩
    simp only [h59, decide_false]
    simp (disch := omega) only [s5_readCellar_0, s5_readCellar_1, s5_readCellar_4, s5_readCellar_7, s5_readCellar_8, s5_readCellar_9, s5_readCellar_11, s5_readCellar_14, s5_readCellar_17, s5_readCellar_18, s5_readCellar_19, s5_readCellar_20, s5_readCellar_21, s5_readCellar_24, s5_readCellar_25, s5_readCellar_26, s5_readCellar_29, s5_readCellar_32, s5_readCellar_33, s5_readCellar_36, am_k1_int, am_k1_ref, am_k1_none, am_cats_nil, am_cats_int, am_cats_ref, am_cats_long, Option.toList_some, Option.toList_none, List.singleton_append, List.nil_append, List.cons_append, true_and, and_true, if_true, if_false, va_rf, ↓reduceIte, Nat.reduceAdd, Nat.reduceMul, Nat.reduceSub, Nat.reduceLT, Nat.reduceLeDiff, Nat.reduceEqDiff, Nat.zero_le, Nat.add_zero, Nat.le_refl, nI_add, mul_nI, lt_nI, le_nI, eq_nI, bnd_nI, ci_nI, decide_eq_true_eq, decide_true, decide_false, Bool.true_or, Bool.or_true, Bool.or_false, Bool.false_or, not_true_eq_false, not_false_eq_true, Bool.false_eq_true, Bool.false_and, Bool.true_and, Bool.and_true, Bool.and_false, Bool.not_true, Bool.not_false, false_and, and_false, and_self, bi_ret]
    exact hfin
/-- an item, by its letter -/
theorem c5_readItem (hT : T = 4 ∨ T = 12) (h04 : tn 0 ≤ 4) (h06 : tn 1 ≤ 6) (h53 : tn 5 ≤ 3) (hL : ar_L tx ln I) (hp : p ≤ ln) (h1 : am_kk tx ln p = 1) (h2 : I 2 2 = nI (am_pn tx ln p)) (h3 : I 2 3 = nI st) (h4 : I 2 4 = am_tk tx ln (am_sp tx ln p)) (hTc : ar_Tc T tn I) (hq : ∀ I', ar_ip T ln I I' (am_im tx ln (am_vv tx ln p) (am_pn tx ln p) st tn) → Q (some (.int (am_bi (am_im tx ln (am_vv tx ln p) (am_pn tx ln p) st tn).1))) (am_sh n, I', J, am_Rf sw)) : am_call (d + 5) m5_readItem [.ref T, .ref 2] (am_sh n, I, J, am_Rf sw) Q := by
  obtain ⟨t0, t1, -⟩ := tk_kd (ln := ln) (p := p) hL.2.2.1
  obtain ⟨e1, e2⟩ := t1 h1
  have hp1 := (pn_le (tx := tx) hp).1
  have hoT := ob_T hT n
  rw [e1] at h4
  rcases e2 with e2 | e2 | e2 | e2 <;> rw [e2] at hq h4
  · simp (disch := omega) only [e5_readItem, s5_readItem_0, s5_readItem_1, s5_readItem_4, s5_readItem_48, s5_readItem_49, s5_readItem_50, s5_readItem_53, s5_readItem_54, s5_readItem_55, s5_readItem_56, s5_readItem_59, s5_readItem_60, s5_readItem_61, s5_readItem_62, s5_readItem_65, s5_readItem_66, s5_readItem_67, s5_readItem_68, s5_readItem_71, s5_readItem_72, s5_readItem_73, am_k1_int, am_k1_ref, am_k1_none, am_cats_nil, am_cats_int, am_cats_ref, am_cats_long, Option.toList_some, Option.toList_none, List.singleton_append, List.nil_append, List.cons_append, true_and, and_true, if_true, if_false, va_rf, ↓reduceIte, Nat.reduceAdd, Nat.reduceMul, Nat.reduceSub, Nat.reduceLT, Nat.reduceLeDiff, Nat.reduceEqDiff, Nat.zero_le, Nat.add_zero, Nat.le_refl, nI_add, mul_nI, lt_nI, le_nI, eq_nI, bnd_nI, ci_nI, decide_eq_true_eq, decide_true, decide_false, Bool.true_or, Bool.or_true, Bool.or_false, Bool.false_or, not_true_eq_false, not_false_eq_true, Bool.false_eq_true, Bool.false_and, Bool.true_and, Bool.and_true, Bool.and_false, Bool.not_true, Bool.not_false, false_and, and_false, and_self, ob_2, rf_2_0, h4, hoT]
    refine c5_readDawn hT h04 hL hp1 h2 h3 hTc (fun I' h => ?_)
    simp (disch := omega) only [s5_readItem_0, s5_readItem_1, s5_readItem_4, s5_readItem_48, s5_readItem_49, s5_readItem_50, s5_readItem_53, s5_readItem_54, s5_readItem_55, s5_readItem_56, s5_readItem_59, s5_readItem_60, s5_readItem_61, s5_readItem_62, s5_readItem_65, s5_readItem_66, s5_readItem_67, s5_readItem_68, s5_readItem_71, s5_readItem_72, s5_readItem_73, am_k1_int, am_k1_ref, am_k1_none, am_cats_nil, am_cats_int, am_cats_ref, am_cats_long, Option.toList_some, Option.toList_none, List.singleton_append, List.nil_append, List.cons_append, true_and, and_true, if_true, if_false, va_rf, ↓reduceIte, Nat.reduceAdd, Nat.reduceMul, Nat.reduceSub, Nat.reduceLT, Nat.reduceLeDiff, Nat.reduceEqDiff, Nat.zero_le, Nat.add_zero, Nat.le_refl, nI_add, mul_nI, lt_nI, le_nI, eq_nI, bnd_nI, ci_nI, decide_eq_true_eq, decide_true, decide_false, Bool.true_or, Bool.or_true, Bool.or_false, Bool.false_or, not_true_eq_false, not_false_eq_true, Bool.false_eq_true, Bool.false_and, Bool.true_and, Bool.and_true, Bool.and_false, Bool.not_true, Bool.not_false, false_and, and_false, and_self, bi_ret]
    exact hq I' h
  · simp (disch := omega) only [e5_readItem, s5_readItem_0, s5_readItem_1, s5_readItem_4, s5_readItem_48, s5_readItem_49, s5_readItem_50, s5_readItem_53, s5_readItem_54, s5_readItem_55, s5_readItem_56, s5_readItem_59, s5_readItem_60, s5_readItem_61, s5_readItem_62, s5_readItem_65, s5_readItem_66, s5_readItem_67, s5_readItem_68, s5_readItem_71, s5_readItem_72, s5_readItem_73, am_k1_int, am_k1_ref, am_k1_none, am_cats_nil, am_cats_int, am_cats_ref, am_cats_long, Option.toList_some, Option.toList_none, List.singleton_append, List.nil_append, List.cons_append, true_and, and_true, if_true, if_false, va_rf, ↓reduceIte, Nat.reduceAdd, Nat.reduceMul, Nat.reduceSub, Nat.reduceLT, Nat.reduceLeDiff, Nat.reduceEqDiff, Nat.zero_le, Nat.add_zero, Nat.le_refl, nI_add, mul_nI, lt_nI, le_nI, eq_nI, bnd_nI, ci_nI, decide_eq_true_eq, decide_true, decide_false, Bool.true_or, Bool.or_true, Bool.or_false, Bool.false_or, not_true_eq_false, not_false_eq_true, Bool.false_eq_true, Bool.false_and, Bool.true_and, Bool.and_true, Bool.and_false, Bool.not_true, Bool.not_false, false_and, and_false, and_self, ob_2, rf_2_0, h4, hoT]
    refine c5_readClient hT h04 h06 hL hp1 h2 h3 hTc (fun I' h => ?_)
    simp (disch := omega) only [s5_readItem_0, s5_readItem_1, s5_readItem_4, s5_readItem_48, s5_readItem_49, s5_readItem_50, s5_readItem_53, s5_readItem_54, s5_readItem_55, s5_readItem_56, s5_readItem_59, s5_readItem_60, s5_readItem_61, s5_readItem_62, s5_readItem_65, s5_readItem_66, s5_readItem_67, s5_readItem_68, s5_readItem_71, s5_readItem_72, s5_readItem_73, am_k1_int, am_k1_ref, am_k1_none, am_cats_nil, am_cats_int, am_cats_ref, am_cats_long, Option.toList_some, Option.toList_none, List.singleton_append, List.nil_append, List.cons_append, true_and, and_true, if_true, if_false, va_rf, ↓reduceIte, Nat.reduceAdd, Nat.reduceMul, Nat.reduceSub, Nat.reduceLT, Nat.reduceLeDiff, Nat.reduceEqDiff, Nat.zero_le, Nat.add_zero, Nat.le_refl, nI_add, mul_nI, lt_nI, le_nI, eq_nI, bnd_nI, ci_nI, decide_eq_true_eq, decide_true, decide_false, Bool.true_or, Bool.or_true, Bool.or_false, Bool.false_or, not_true_eq_false, not_false_eq_true, Bool.false_eq_true, Bool.false_and, Bool.true_and, Bool.and_true, Bool.and_false, Bool.not_true, Bool.not_false, false_and, and_false, and_self, bi_ret]
    exact hq I' h
  · simp (disch := omega) only [e5_readItem, s5_readItem_0, s5_readItem_1, s5_readItem_4, s5_readItem_48, s5_readItem_49, s5_readItem_50, s5_readItem_53, s5_readItem_54, s5_readItem_55, s5_readItem_56, s5_readItem_59, s5_readItem_60, s5_readItem_61, s5_readItem_62, s5_readItem_65, s5_readItem_66, s5_readItem_67, s5_readItem_68, s5_readItem_71, s5_readItem_72, s5_readItem_73, am_k1_int, am_k1_ref, am_k1_none, am_cats_nil, am_cats_int, am_cats_ref, am_cats_long, Option.toList_some, Option.toList_none, List.singleton_append, List.nil_append, List.cons_append, true_and, and_true, if_true, if_false, va_rf, ↓reduceIte, Nat.reduceAdd, Nat.reduceMul, Nat.reduceSub, Nat.reduceLT, Nat.reduceLeDiff, Nat.reduceEqDiff, Nat.zero_le, Nat.add_zero, Nat.le_refl, nI_add, mul_nI, lt_nI, le_nI, eq_nI, bnd_nI, ci_nI, decide_eq_true_eq, decide_true, decide_false, Bool.true_or, Bool.or_true, Bool.or_false, Bool.false_or, not_true_eq_false, not_false_eq_true, Bool.false_eq_true, Bool.false_and, Bool.true_and, Bool.and_true, Bool.and_false, Bool.not_true, Bool.not_false, false_and, and_false, and_self, ob_2, rf_2_0, h4, hoT]
    refine c5_readTen hT h04 h06 h53 hL hp1 h2 h3 hTc (fun I' h => ?_)
    simp (disch := omega) only [s5_readItem_0, s5_readItem_1, s5_readItem_4, s5_readItem_48, s5_readItem_49, s5_readItem_50, s5_readItem_53, s5_readItem_54, s5_readItem_55, s5_readItem_56, s5_readItem_59, s5_readItem_60, s5_readItem_61, s5_readItem_62, s5_readItem_65, s5_readItem_66, s5_readItem_67, s5_readItem_68, s5_readItem_71, s5_readItem_72, s5_readItem_73, am_k1_int, am_k1_ref, am_k1_none, am_cats_nil, am_cats_int, am_cats_ref, am_cats_long, Option.toList_some, Option.toList_none, List.singleton_append, List.nil_append, List.cons_append, true_and, and_true, if_true, if_false, va_rf, ↓reduceIte, Nat.reduceAdd, Nat.reduceMul, Nat.reduceSub, Nat.reduceLT, Nat.reduceLeDiff, Nat.reduceEqDiff, Nat.zero_le, Nat.add_zero, Nat.le_refl, nI_add, mul_nI, lt_nI, le_nI, eq_nI, bnd_nI, ci_nI, decide_eq_true_eq, decide_true, decide_false, Bool.true_or, Bool.or_true, Bool.or_false, Bool.false_or, not_true_eq_false, not_false_eq_true, Bool.false_eq_true, Bool.false_and, Bool.true_and, Bool.and_true, Bool.and_false, Bool.not_true, Bool.not_false, false_and, and_false, and_self, bi_ret]
    exact hq I' h
  · simp (disch := omega) only [e5_readItem, s5_readItem_0, s5_readItem_1, s5_readItem_4, s5_readItem_48, s5_readItem_49, s5_readItem_50, s5_readItem_53, s5_readItem_54, s5_readItem_55, s5_readItem_56, s5_readItem_59, s5_readItem_60, s5_readItem_61, s5_readItem_62, s5_readItem_65, s5_readItem_66, s5_readItem_67, s5_readItem_68, s5_readItem_71, s5_readItem_72, s5_readItem_73, am_k1_int, am_k1_ref, am_k1_none, am_cats_nil, am_cats_int, am_cats_ref, am_cats_long, Option.toList_some, Option.toList_none, List.singleton_append, List.nil_append, List.cons_append, true_and, and_true, if_true, if_false, va_rf, ↓reduceIte, Nat.reduceAdd, Nat.reduceMul, Nat.reduceSub, Nat.reduceLT, Nat.reduceLeDiff, Nat.reduceEqDiff, Nat.zero_le, Nat.add_zero, Nat.le_refl, nI_add, mul_nI, lt_nI, le_nI, eq_nI, bnd_nI, ci_nI, decide_eq_true_eq, decide_true, decide_false, Bool.true_or, Bool.or_true, Bool.or_false, Bool.false_or, not_true_eq_false, not_false_eq_true, Bool.false_eq_true, Bool.false_and, Bool.true_and, Bool.and_true, Bool.and_false, Bool.not_true, Bool.not_false, false_and, and_false, and_self, ob_2, rf_2_0, h4, hoT]
    refine c5_readCellar hT h04 h06 h53 hL hp1 h2 h3 hTc (fun I' h => ?_)
    simp (disch := omega) only [s5_readItem_0, s5_readItem_1, s5_readItem_4, s5_readItem_48, s5_readItem_49, s5_readItem_50, s5_readItem_53, s5_readItem_54, s5_readItem_55, s5_readItem_56, s5_readItem_59, s5_readItem_60, s5_readItem_61, s5_readItem_62, s5_readItem_65, s5_readItem_66, s5_readItem_67, s5_readItem_68, s5_readItem_71, s5_readItem_72, s5_readItem_73, am_k1_int, am_k1_ref, am_k1_none, am_cats_nil, am_cats_int, am_cats_ref, am_cats_long, Option.toList_some, Option.toList_none, List.singleton_append, List.nil_append, List.cons_append, true_and, and_true, if_true, if_false, va_rf, ↓reduceIte, Nat.reduceAdd, Nat.reduceMul, Nat.reduceSub, Nat.reduceLT, Nat.reduceLeDiff, Nat.reduceEqDiff, Nat.zero_le, Nat.add_zero, Nat.le_refl, nI_add, mul_nI, lt_nI, le_nI, eq_nI, bnd_nI, ci_nI, decide_eq_true_eq, decide_true, decide_false, Bool.true_or, Bool.or_true, Bool.or_false, Bool.false_or, not_true_eq_false, not_false_eq_true, Bool.false_eq_true, Bool.false_and, Bool.true_and, Bool.and_true, Bool.and_false, Bool.not_true, Bool.not_false, false_and, and_false, and_self, bi_ret]
    exact hq I' h
end
