section
variable {n d : Nat} {tn : Nat → Nat} {J : Nat → Nat → Int64} {sw : Bool} {F U : Nat}
set_option maxHeartbeats 4000000 in
theorem tell_L {c P O V r M Tw : Nat} {a : Nat → Nat} {I : Nat → Nat → Int32} {Q : am_Post} (hO : ar_told tn) (hF : F ≤ tn 0) (hU : U < 2 ^ tn 1) (hIH : ar_tS n d tn J sw F U r) (hC : ar_C tn I J) (hl : ar_tl tn F U (r + 1) c P a) (hu : U.testBit c = true) (hV : V < 2 ^ tn 1) (hVb : ∀ k, k < 6 → V.testBit k = (U.testBit k && decide (c < k))) (h69 : ∀ j, j < tn 0 - F → I 69 (F + j) = nI (am_as a j c)) (hTw : Tw = am_most tn F U - am_ct a (tn 0 - F) c) (hq : ∀ b I', ar_te tn F U (r + 1) c P I I' b → Q (some (.int (am_bi b))) (am_sh n, I', J, am_Rf sw)) (hB : ∀ (I1 : Nat → Nat → Int32) (l7 : Option Value), (∀ q, q ≠ 69 → q ≠ 70 → I1 q = I q) → (∀ k, k < c → I1 70 k = I 70 k) → (∀ q, q < 4 → I1 69 q = I 69 q) → (∀ z, z / am_W (tn 0 - F + 1) U (tn 1) (r + 1) = P → am_dg (tn 0 - F) U (tn 1) z c < tn 0 - F → ¬ am_oT tn F U z) → am_wp (d + r + 3) m0_tell 116 [some (.ref 60), some (.int (nI c)), some (.int (nI F)), some (.int (nI O)), some (.int (nI Tw)), some (.int (nI V)), some (.int (nI M)), l7] [] (am_sh n, I1, J, am_Rf sw) Q) : ∀ (s j : Nat) (I1 : Nat → Nat → Int32), j + s = tn 0 - F → (∀ q, q ≠ 69 → q ≠ 70 → I1 q = I q) → (∀ k, k < c → I1 70 k = I 70 k) → (∀ q, q < 4 → I1 69 q = I 69 q) → (∀ z, z / am_W (tn 0 - F + 1) U (tn 1) (r + 1) = P → am_dg (tn 0 - F) U (tn 1) z c < j → ¬ am_oT tn F U z) → am_wp (d + r + 3) m0_tell 57 [some (.ref 60), some (.int (nI c)), some (.int (nI F)), some (.int (nI O)), some (.int (nI Tw)), some (.int (nI V)), some (.int (nI M)), some (.int (nI (F + j)))] [] (am_sh n, I1, J, am_Rf sw) Q
  | 0, j, I1, hs, g1, g2, g3, g4 => by
    have o1 := hO.1
    obtain rfl : j = tn 0 - F := by omega
    have k0 : I1 60 0 = nI (tn 0) := by rw [g1 _ (by decide) (by decide)]; exact hC.1
    have hx : F + (tn 0 - F) = tn 0 := by omega
    rw [s0_tell_57]
    simp (disch := omega) only [s0_tell_59, s0_tell_60, s0_tell_63, am_k1_int, am_k1_ref, am_k1_none, am_cats_nil, am_cats_int, am_cats_ref, am_cats_long, Option.toList_some, Option.toList_none, List.singleton_append, List.nil_append, List.cons_append, true_and, and_true, if_true, if_false, va_rf, ↓reduceIte, Nat.reduceAdd, Nat.reduceMul, Nat.reduceSub, Nat.reduceLT, Nat.reduceLeDiff, Nat.reduceEqDiff, Nat.zero_le, Nat.add_zero, Nat.le_refl, nI_add, mul_nI, lt_nI, le_nI, eq_nI, bnd_nI, ci_nI, decide_eq_true_eq, decide_true, decide_false, Bool.true_or, Bool.or_true, Bool.or_false, Bool.false_or, not_true_eq_false, not_false_eq_true, Bool.false_eq_true, Bool.false_and, Bool.true_and, Bool.and_true, Bool.and_false, Bool.not_true, Bool.not_false, false_and, and_false, and_self, ob_60, rf_60_2, rf_60_3, rf_60_4, rf_60_5, rf_60_6, k0, hx]
    exact hB I1 _ g1 g2 g3 g4
  | s + 1, j, I1, hs, g1, g2, g3, g4 => by
    obtain ⟨h1, h2, h3, h4⟩ := id hl
    have o1 := hO.1
    have o2 := hO.2.1
    have p6 := (pow2_6 o2).1
    have hc6 : c < 6 := by omega
    have p5 := pw6 hc6
    have z1 : (0 : Nat) < 69 := by decide
    have hjK : j < tn 0 - F := by omega
    have he : F + j < tn 0 := by omega
    have he4 : F + j < 4 := by omega
    have hne : ¬ tn 0 ≤ F + j := by omega
    have hja : F + j + 1 = F + (j + 1) := rfl
    have k0 : I1 60 0 = nI (tn 0) := by rw [g1 _ (by decide) (by decide)]; exact hC.1
    have hCI : ∀ I2 : Nat → Nat → Int32, (∀ q, q ≠ 69 → q ≠ 70 → I2 q = I q) → ar_C tn I2 J := fun I2 hh => fr_C_ hO ⟨by rw [hh _ (by decide) (by decide)], by rw [hh _ (by decide) (by decide)], by rw [hh _ (by decide) (by decide)], fun q q1 q2 => by rw [hh _ (by omega) (by omega)]⟩ hC
    have hst : I1 69 (F + j) = nI (am_as a j c) := by rw [g3 _ he4]; exact h69 j hjK
    have hal := as_lt (a := a) (j := j) c
    have hpc : 2 ^ c < 2 ^ tn 1 := Nat.pow_lt_pow_right (by decide) (by omega)
    have hset : am_as a j c ||| 2 ^ c < 2 ^ tn 1 := Nat.or_lt_two_pow (by omega) hpc
    have hb0 : (am_as a j c).testBit c = false := by rw [as_tb]; simp
    have ha64 : am_as a j c < 64 := by omega
    have hto := fun Q => c0_tellOne (n := n) (d := d + r + 1) (sw := sw) (Q := Q) hO (hCI I1 g1) he hc6 hset hst
    have hml := most_le tn F U hO
    have ih := tell_L hO hF hU hIH hC hl hu hV hVb h69 hTw hq hB s (j + 1)
    rw [s0_tell_57]
    cases hcan : am_can tn (F + j) (am_as a j c ||| 2 ^ c) with
    | false =>
      simp only [hcan, Bool.false_eq_true, if_false] at hto
      have hws := wo_same ha64 hc6 hb0
      simp (disch := omega) only [s0_tell_59, s0_tell_60, s0_tell_63, s0_tell_66, s0_tell_67, s0_tell_68, s0_tell_70, s0_tell_73, s0_tell_95, s0_tell_96, s0_tell_99, s0_tell_101, s0_tell_102, s0_tell_103, s0_tell_104, s0_tell_105, s0_tell_106, s0_tell_107, s0_tell_108, s0_tell_109, s0_tell_110, s0_tell_113, am_k1_int, am_k1_ref, am_k1_none, am_cats_nil, am_cats_int, am_cats_ref, am_cats_long, Option.toList_some, Option.toList_none, List.singleton_append, List.nil_append, List.cons_append, true_and, and_true, if_true, if_false, va_rf, ↓reduceIte, Nat.reduceAdd, Nat.reduceMul, Nat.reduceSub, Nat.reduceLT, Nat.reduceLeDiff, Nat.reduceEqDiff, Nat.zero_le, Nat.add_zero, Nat.le_refl, nI_add, mul_nI, lt_nI, le_nI, eq_nI, bnd_nI, ci_nI, decide_eq_true_eq, decide_true, decide_false, Bool.true_or, Bool.or_true, Bool.or_false, Bool.false_or, not_true_eq_false, not_false_eq_true, Bool.false_eq_true, Bool.false_and, Bool.true_and, Bool.and_true, Bool.and_false, Bool.not_true, Bool.not_false, false_and, and_false, and_self, ob_60, rf_60_2, rf_60_3, rf_60_4, rf_60_5, rf_60_6, ib_69, rd_69, Value.category, k0, hne, he4, z1, hto, hst, shl_nI, Nat.one_mul, wo_nI, hws, hja]
      refine ih _ (by omega) (fun q q1 q2 => by rw [am_up_ne q1]; exact g1 q q1 q2) (fun k hk => by rw [up_n (by omega)]; exact g2 k hk) (fun q hq => ?_) (fun z hz hd => ?_)
      · by_cases e : q = F + j
        · rw [e, up_s, ← hst]; exact g3 _ he4
        · rw [up_n (by omega)]; exact g3 q hq
      · by_cases e : am_dg (tn 0 - F) U (tn 1) z c = j
        · exact fun hT => tl_cant hO hl hz e hjK hcan hT.1
        · exact g4 z hz (by omega)
    | true =>
      simp only [hcan, if_true] at hto
      have hnx := tl_next (j := j) (P' := P * (tn 0 - F + 1) + j) hl (by omega) (Or.inl ⟨hu, rfl⟩) (fun _ => hcan)
      have hfit := tl_fits hO hF hU hnx
      rw [ct_sa, if_pos hjK] at hfit
      have hT1 : 1 ≤ Tw := by omega
      have hT24 : Tw ≤ 24 := by omega
      obtain ⟨I2, hI2⟩ : ∃ I2, I2 = am_up (am_up I1 69 (F + j) (nI (am_as a j c ||| 2 ^ c))) 70 c (nI (F + j)) := ⟨_, rfl⟩
      have i1 : ∀ q, q ≠ 69 → q ≠ 70 → I2 q = I q := fun q q1 q2 => by rw [hI2, am_up_ne q2, am_up_ne q1]; exact g1 q q1 q2
      have i69 : ∀ q, I2 69 q = if q = F + j then nI (am_as a j c ||| 2 ^ c) else I1 69 q := fun q => by
        rw [hI2, am_up_ne (by decide)]
        by_cases e : q = F + j
        · rw [if_pos e, e, up_s]
        · rw [if_neg e, up_n (by omega)]
      have i70 : ∀ k, I2 70 k = if k = c then nI (F + j) else I1 70 k := fun k => by
        rw [hI2]
        by_cases e : k = c
        · rw [if_pos e, e, up_s]
        · rw [if_neg e, up_n (by omega), am_up_ne (by decide)]
      have hcall := hIH (c + 1) (P * (tn 0 - F + 1) + j) V (am_sa a c j) I2 (fun v M' => am_wp (d + r + 3) m0_tell 90 [some (.ref 60), some (.int (nI c)), some (.int (nI F)), some (.int (nI O)), some (.int (nI Tw)), some (.int (nI V)), some (.int (nI M)), some (.int (nI (F + j)))] (v.toList ++ []) M' Q) (hCI I2 i1) hnx hV (fun k hk => hVb k hk) (fun i hi => by
        rw [i69, as_sa]
        by_cases e : j = i
        · rw [if_pos (by omega), if_pos e, e]
        · rw [if_neg (by omega), if_neg e, Nat.or_zero, g3 _ (by omega)]
          exact h69 i hi) (fun b I3 hte => by
        obtain ⟨t1, t2, t3, t4⟩ := hte
        cases b with
        | true =>
          obtain ⟨x, x1, x2, x3, x4⟩ := t3 rfl
          obtain ⟨x5, x6⟩ := cd_in h1 hu (by omega) x1
          have hfin := hq true I3 ⟨fun q q1 q2 => by rw [t1 q q1 q2]; exact i1 q q1 q2, fun k hk => by rw [t2 k (by omega), i70, if_neg (by omega)]; exact g2 k hk, fun _ => ⟨x, x5, x2, fun z hz hz2 => ?_, fun k hk1 hk2 => ?_⟩, fun h => absurd h (by decide)⟩
          · simp (disch := omega) only [s0_tell_90, s0_tell_93, s0_tell_94, am_k1_int, am_k1_ref, am_k1_none, am_cats_nil, am_cats_int, am_cats_ref, am_cats_long, Option.toList_some, Option.toList_none, List.singleton_append, List.nil_append, List.cons_append, true_and, and_true, if_true, if_false, va_rf, ↓reduceIte, Nat.reduceAdd, Nat.reduceMul, Nat.reduceSub, Nat.reduceLT, Nat.reduceLeDiff, Nat.reduceEqDiff, Nat.zero_le, Nat.add_zero, Nat.le_refl, nI_add, mul_nI, lt_nI, le_nI, eq_nI, bnd_nI, ci_nI, decide_eq_true_eq, decide_true, decide_false, Bool.true_or, Bool.or_true, Bool.or_false, Bool.false_or, not_true_eq_false, not_false_eq_true, Bool.false_eq_true, Bool.false_and, Bool.true_and, Bool.and_true, Bool.and_false, Bool.not_true, Bool.not_false, false_and, and_false, and_self, bi_t, ite_bi2, ret_1]
            exact hfin
          · have y1 := cd_out h1 hu hz2
            have y2 : z / am_W (tn 0 - F + 1) U (tn 1) r ≤ x / am_W (tn 0 - F + 1) U (tn 1) r := Nat.div_le_div_right (by omega)
            by_cases e : am_dg (tn 0 - F) U (tn 1) z c = j
            · exact x3 z hz (by rw [y1, e])
            · exact g4 z hz2 (by omega)
          · by_cases e : k = c
            · rw [e, t2 c (by omega), i70, if_pos rfl, x6]
              exact (if_pos hjK).symm
            · exact x4 k (by omega) hk2
        | false =>
          obtain ⟨x3, x4⟩ := t4 rfl
          have hI3 : I3 69 (F + j) = nI (am_as a j c ||| 2 ^ c) := by rw [x4 _ he4, i69, if_pos rfl]
          have hws := wo_back ha64 hc6 hb0
          have hs64 : am_as a j c ||| 2 ^ c < 64 := by omega
          simp (disch := omega) only [s0_tell_90, s0_tell_95, s0_tell_96, s0_tell_99, s0_tell_101, s0_tell_102, s0_tell_103, s0_tell_104, s0_tell_105, s0_tell_106, s0_tell_107, s0_tell_108, s0_tell_109, s0_tell_110, s0_tell_113, am_k1_int, am_k1_ref, am_k1_none, am_cats_nil, am_cats_int, am_cats_ref, am_cats_long, Option.toList_some, Option.toList_none, List.singleton_append, List.nil_append, List.cons_append, true_and, and_true, if_true, if_false, va_rf, ↓reduceIte, Nat.reduceAdd, Nat.reduceMul, Nat.reduceSub, Nat.reduceLT, Nat.reduceLeDiff, Nat.reduceEqDiff, Nat.zero_le, Nat.add_zero, Nat.le_refl, nI_add, mul_nI, lt_nI, le_nI, eq_nI, bnd_nI, ci_nI, decide_eq_true_eq, decide_true, decide_false, Bool.true_or, Bool.or_true, Bool.or_false, Bool.false_or, not_true_eq_false, not_false_eq_true, Bool.false_eq_true, Bool.false_and, Bool.true_and, Bool.and_true, Bool.and_false, Bool.not_true, Bool.not_false, false_and, and_false, and_self, ob_60, rf_60_2, rf_60_3, rf_60_4, rf_60_5, rf_60_6, ib_69, rd_69, Value.category, bi_f, ite_bi2, he4, z1, hI3, shl_nI, Nat.one_mul, wo_nI, hws, hja]
          refine ih _ (by omega) (fun q q1 q2 => by rw [am_up_ne q1, t1 q q1 q2]; exact i1 q q1 q2) (fun k hk => by rw [up_n (by omega), t2 k (by omega), i70, if_neg (by omega)]; exact g2 k hk) (fun q hq => ?_) (fun z hz hd => ?_)
          · by_cases e : q = F + j
            · rw [e, up_s, ← hst]; exact g3 _ he4
            · rw [up_n (by omega), x4 q hq, i69, if_neg e]; exact g3 q hq
          · by_cases e : am_dg (tn 0 - F) U (tn 1) z c = j
            · have y1 := cd_out h1 hu hz
              exact x3 z (by rw [y1, e])
            · exact g4 z hz (by omega))
      rw [ct_sa, if_pos hjK, show am_most tn F U - (am_ct a (tn 0 - F) c + 1) = Tw - 1 by omega] at hcall
      simp (disch := omega) only [s0_tell_59, s0_tell_60, s0_tell_63, s0_tell_66, s0_tell_67, s0_tell_68, s0_tell_70, s0_tell_73, s0_tell_76, s0_tell_77, s0_tell_78, s0_tell_79, s0_tell_80, s0_tell_81, s0_tell_83, s0_tell_85, s0_tell_86, s0_tell_87, am_k1_int, am_k1_ref, am_k1_none, am_cats_nil, am_cats_int, am_cats_ref, am_cats_long, Option.toList_some, Option.toList_none, List.singleton_append, List.nil_append, List.cons_append, true_and, and_true, if_true, if_false, va_rf, ↓reduceIte, Nat.reduceAdd, Nat.reduceMul, Nat.reduceSub, Nat.reduceLT, Nat.reduceLeDiff, Nat.reduceEqDiff, Nat.zero_le, Nat.add_zero, Nat.le_refl, nI_add, mul_nI, lt_nI, le_nI, eq_nI, bnd_nI, ci_nI, decide_eq_true_eq, decide_true, decide_false, Bool.true_or, Bool.or_true, Bool.or_false, Bool.false_or, not_true_eq_false, not_false_eq_true, Bool.false_eq_true, Bool.false_and, Bool.true_and, Bool.and_true, Bool.and_false, Bool.not_true, Bool.not_false, false_and, and_false, and_self, ob_60, rf_60_2, rf_60_3, rf_60_4, rf_60_5, rf_60_6, k0, hne, hto, sub_nI, ← hI2]
      exact hcall
theorem tell_s {r : Nat} (hO : ar_told tn) (hF : F ≤ tn 0) (hU : U < 2 ^ tn 1) (hIH : ar_tS n d tn J sw F U r) : ar_tS n d tn J sw F U (r + 1) := by
  intro c P O a I Q hC hl hO2 hOb h69 hq
  obtain ⟨h1, h2, h3, h4⟩ := id hl
  have o1 := hO.1
  have o2 := hO.2.1
  have p6 := (pow2_6 o2).1
  have hc6 : c < 6 := by omega
  have hcn : c < tn 1 := by omega
  have p5 := pw6 hc6
  have hO64 : O < 64 := by omega
  have k1 := hC.2.1
  have hF5 : F < 5 := by omega
  have hVle := wo_le O c
  have hV64 := wo_lt (c := c) hO64
  have hVb : ∀ k, k < 6 → (am_wo O c).testBit k = (U.testBit k && decide (c < k)) := by
    intro k hk
    rw [wo_tb hO64 hc6 hk, hOb k hk]
    by_cases e1 : c < k
    · have e2 : ¬ k = c := by omega
      have e3 : c ≤ k := by omega
      simp [e1, e2, e3]
    · by_cases e2 : k = c
      · simp [e1, e2]
      · have e3 : ¬ c ≤ k := by omega
        simp [e1, e2, e3]
  have hOc := hOb c hc6
  rw [decide_eq_true (Nat.le_refl c), Bool.and_true] at hOc
  have hmv := hC.2.2.2.2 F hF (am_wo O c) (by omega)
  obtain ⟨r1, r2, -⟩ := rf_63 hF5 sw n
  have hml := most_le tn F U hO
  have hml2 := most_le tn F (am_wo O c) hO
  obtain ⟨M, hM⟩ : ∃ M, M = am_most tn F (am_wo O c) := ⟨_, rfl⟩
  obtain ⟨Tw, hTw⟩ : ∃ Tw, Tw = am_most tn F U - am_ct a (tn 0 - F) c := ⟨_, rfl⟩
  rw [← hM] at hmv
  rw [← hTw]
  show am_call ((d + r + 3) + 1) m0_tell _ _ _
  rw [e0_tell]
  cases hu : U.testBit c with
  | false =>
    rw [hu] at hOc
    have hws := wo_same hO64 hc6 hOc
    have hB := fun l3 l7 => tell_B (P' := P) (O := am_wo O c) hO hF hU hIH hC hl (Or.inr ⟨hu, rfl, rfl⟩) (by omega) hVb h69 hM hTw hq I l3 l7 (fun _ _ _ => rfl) (fun _ _ => rfl) (fun _ _ => rfl) (fun z hz hd => by
      rw [(cd_no (K := tn 0 - F) (x := z) h1 hu).2] at hd
      omega)
    rw [hws] at hmv hB
    simp (disch := omega) only [s0_tell_0, s0_tell_1, s0_tell_2, s0_tell_5, s0_tell_19, s0_tell_20, s0_tell_21, s0_tell_22, s0_tell_23, s0_tell_24, s0_tell_25, s0_tell_26, s0_tell_28, s0_tell_29, s0_tell_32, s0_tell_33, s0_tell_34, s0_tell_36, s0_tell_37, s0_tell_39, s0_tell_41, s0_tell_42, am_k1_int, am_k1_ref, am_k1_none, am_cats_nil, am_cats_int, am_cats_ref, am_cats_long, Option.toList_some, Option.toList_none, List.singleton_append, List.nil_append, List.cons_append, true_and, and_true, if_true, if_false, va_rf, ↓reduceIte, Nat.reduceAdd, Nat.reduceMul, Nat.reduceSub, Nat.reduceLT, Nat.reduceLeDiff, Nat.reduceEqDiff, Nat.zero_le, Nat.add_zero, Nat.le_refl, nI_add, mul_nI, lt_nI, le_nI, eq_nI, bnd_nI, ci_nI, decide_eq_true_eq, decide_true, decide_false, Bool.true_or, Bool.or_true, Bool.or_false, Bool.false_or, not_true_eq_false, not_false_eq_true, Bool.false_eq_true, Bool.false_and, Bool.true_and, Bool.and_true, Bool.and_false, Bool.not_true, Bool.not_false, false_and, and_false, and_self, ob_60, rf_60_2, rf_60_3, rf_60_4, rf_60_5, rf_60_6, ib_63, ix_63, rf_63_0, rf_63_1, rf_63_2, rf_63_3, rf_63_4, k1, hcn, shl_nI, Nat.one_mul, wo_nI, hws, hF5, r1, r2, hO64, hmv]
    exact hB _ _
  | true =>
    rw [hu] at hOc
    have hwl := wo_less hO64 hc6 hOc
    have hwn : ¬ am_wo O c = O := by omega
    have hB := fun I1 l7 => tell_B (P' := P * (tn 0 - F + 1) + (tn 0 - F)) (O := am_wo O c) hO hF hU hIH hC hl (Or.inl ⟨hu, rfl⟩) (by omega) hVb h69 hM hTw hq I1 (some (.int (nI O))) l7
    by_cases g : M + 1 < Tw
    · have hB2 := fun l7 => hB I l7 (fun _ _ _ => rfl) (fun _ _ => rfl) (fun _ _ => rfl) (fun z hz hd hT => by
        have := tl_prune hO hF hl hz hT.1 (show am_wo O c < 2 ^ tn 1 by omega) hVb
        rw [if_pos hd] at this
        have := hT.2
        omega)
      simp (disch := omega) only [s0_tell_0, s0_tell_1, s0_tell_2, s0_tell_5, s0_tell_19, s0_tell_20, s0_tell_21, s0_tell_22, s0_tell_23, s0_tell_24, s0_tell_25, s0_tell_26, s0_tell_28, s0_tell_29, s0_tell_32, s0_tell_33, s0_tell_34, s0_tell_36, s0_tell_37, s0_tell_39, s0_tell_41, s0_tell_42, s0_tell_45, s0_tell_47, s0_tell_48, s0_tell_49, s0_tell_51, am_k1_int, am_k1_ref, am_k1_none, am_cats_nil, am_cats_int, am_cats_ref, am_cats_long, Option.toList_some, Option.toList_none, List.singleton_append, List.nil_append, List.cons_append, true_and, and_true, if_true, if_false, va_rf, ↓reduceIte, Nat.reduceAdd, Nat.reduceMul, Nat.reduceSub, Nat.reduceLT, Nat.reduceLeDiff, Nat.reduceEqDiff, Nat.zero_le, Nat.add_zero, Nat.le_refl, nI_add, mul_nI, lt_nI, le_nI, eq_nI, bnd_nI, ci_nI, decide_eq_true_eq, decide_true, decide_false, Bool.true_or, Bool.or_true, Bool.or_false, Bool.false_or, not_true_eq_false, not_false_eq_true, Bool.false_eq_true, Bool.false_and, Bool.true_and, Bool.and_true, Bool.and_false, Bool.not_true, Bool.not_false, false_and, and_false, and_self, ob_60, rf_60_2, rf_60_3, rf_60_4, rf_60_5, rf_60_6, ib_63, ix_63, rf_63_0, rf_63_1, rf_63_2, rf_63_3, rf_63_4, k1, hcn, shl_nI, Nat.one_mul, wo_nI, hwn, hF5, r1, r2, hV64, hmv, g]
      exact hB2 _
    · have hL := tell_L (V := am_wo O c) (O := O) (M := M) hO hF hU hIH hC hl hu (by omega) hVb h69 hTw hq hB (tn 0 - F) 0 I (by omega) (fun _ _ _ => rfl) (fun _ _ => rfl) (fun _ _ => rfl) (fun z _ hd => absurd hd (by omega))
      rw [Nat.add_zero] at hL
      simp (disch := omega) only [s0_tell_0, s0_tell_1, s0_tell_2, s0_tell_5, s0_tell_19, s0_tell_20, s0_tell_21, s0_tell_22, s0_tell_23, s0_tell_24, s0_tell_25, s0_tell_26, s0_tell_28, s0_tell_29, s0_tell_32, s0_tell_33, s0_tell_34, s0_tell_36, s0_tell_37, s0_tell_39, s0_tell_41, s0_tell_42, s0_tell_45, s0_tell_47, s0_tell_48, s0_tell_49, s0_tell_51, s0_tell_54, s0_tell_55, am_k1_int, am_k1_ref, am_k1_none, am_cats_nil, am_cats_int, am_cats_ref, am_cats_long, Option.toList_some, Option.toList_none, List.singleton_append, List.nil_append, List.cons_append, true_and, and_true, if_true, if_false, va_rf, ↓reduceIte, Nat.reduceAdd, Nat.reduceMul, Nat.reduceSub, Nat.reduceLT, Nat.reduceLeDiff, Nat.reduceEqDiff, Nat.zero_le, Nat.add_zero, Nat.le_refl, nI_add, mul_nI, lt_nI, le_nI, eq_nI, bnd_nI, ci_nI, decide_eq_true_eq, decide_true, decide_false, Bool.true_or, Bool.or_true, Bool.or_false, Bool.false_or, not_true_eq_false, not_false_eq_true, Bool.false_eq_true, Bool.false_and, Bool.true_and, Bool.and_true, Bool.and_false, Bool.not_true, Bool.not_false, false_and, and_false, and_self, ob_60, rf_60_2, rf_60_3, rf_60_4, rf_60_5, rf_60_6, ib_63, ix_63, rf_63_0, rf_63_1, rf_63_2, rf_63_3, rf_63_4, k1, hcn, shl_nI, Nat.one_mul, wo_nI, hwn, hF5, r1, r2, hV64, hmv, g]
      exact hL
theorem c0_tell (hO : ar_told tn) (hF : F ≤ tn 0) (hU : U < 2 ^ tn 1) : ∀ r, ar_tS n d tn J sw F U r
  | 0 => tell_0 hO hF hU
  | r + 1 => tell_s hO hF hU (c0_tell hO hF hU r)
end
