def ar_sew (sn : Nat → Nat) (c k : Nat) : Nat → Nat := fun j => if j = 1 then sn 1 + k else if j = 2 then sn 2 ||| 2 ^ c else sn j
theorem sew_n {sn : Nat → Nat} {c k j : Nat} (h1 : j ≠ 1) (h2 : j ≠ 2) : ar_sew sn c k j = sn j := by
  unfold ar_sew
  rw [if_neg h1, if_neg h2]
theorem or_lt {a c m : Nat} (h : a < 2 ^ m) (hc : c < m) : a ||| 2 ^ c < 2 ^ m := Nat.or_lt_two_pow h (Nat.pow_lt_pow_right (by decide) hc)
theorem ok_sew {tn sn : Nat → Nat} {c k : Nat} (hO : ar_told tn) (h : ar_ok tn sn) (hc : c < tn 1) (h4 : sn 1 + k ≤ 99) : ar_ok tn (ar_sew sn c k) := by
  obtain ⟨h1, h2, h5, h6⟩ := h
  have o2 := hO.2.1
  have g := or_lt h5 hc
  have g2 := (pow2_6 o2).1
  refine ⟨fun j => ?_, ?_, ?_, fun c2 hc2 => ?_⟩
  · have := h1 j
    unfold ar_sew
    split
    · omega
    · split
      · omega
      · omega
  · rw [sew_n (by omega) (by omega)]; exact h2
  · exact g
  · show ar_y (ar_sew sn c k) c2 ≤ _
    have : ar_y (ar_sew sn c k) c2 = ar_y sn c2 := by
      unfold ar_y
      simp (disch := omega) only [sew_n]
    rw [this]
    exact h6 c2 hc2
section
variable {n d : Nat} {x y z : Int32}
set_option maxHeartbeats 4000000 in
theorem p_sews : am_pr n (d + 6) m6_sews m7_sews [.ref 1, .int x] [.ref 77, .int x] := by
  intro sw I J hR
  obtain ⟨T, tn, sn, pn, im, tx, fm, fi, nx, m, ln, pm, hT, hO, hA, hS, hP, hI, hX, hF, hC, hJ⟩ := id hR
  obtain ⟨a1, a2, a3, a4, a5, a6, a7⟩ := id hA
  have o1 := hO.1
  have o2 := hO.2.1
  cases hb : am_bnd x (tn 1) with
  | false =>
    simp (disch := omega) only [e6_sews, s6_sews_0, s6_sews_1, s6_sews_2, s6_sews_5, s6_sews_8, s6_sews_9, s6_sews_10, s6_sews_11, s6_sews_12, s6_sews_15, s6_sews_18, s6_sews_20, s6_sews_21, s6_sews_22, s6_sews_25, s6_sews_26, s6_sews_29, s6_sews_32, s6_sews_33, s6_sews_36, s6_sews_37, s6_sews_38, s6_sews_41, s6_sews_44, s6_sews_45, s6_sews_46, s6_sews_49, s6_sews_50, s6_sews_53, s6_sews_56, e7_sews, s7_sews_0, s7_sews_1, s7_sews_2, s7_sews_5, s7_sews_8, s7_sews_9, s7_sews_10, s7_sews_11, s7_sews_14, s7_sews_15, s7_sews_16, s7_sews_17, s7_sews_20, s7_sews_21, s7_sews_22, s7_sews_25, s7_sews_26, s7_sews_29, s7_sews_30, s7_sews_31, s7_sews_32, s7_sews_35, s7_sews_38, s7_sews_39, s7_sews_40, s7_sews_43, s7_sews_44, s7_sews_47, s7_sews_49, s7_sews_50, s7_sews_51, s7_sews_52, s7_sews_55, s7_sews_56, s7_sews_59, s7_sews_60, s7_sews_61, s7_sews_62, s7_sews_65, s7_sews_67, s7_sews_68, s7_sews_69, s7_sews_70, s7_sews_71, s7_sews_72, s7_sews_75, s7_sews_76, s7_sews_77, s7_sews_80, s7_sews_82, s7_sews_83, s7_sews_84, s7_sews_87, s7_sews_88, s7_sews_91, s7_sews_92, s7_sews_93, s7_sews_94, s7_sews_95, s7_sews_96, s7_sews_97, s7_sews_98, s7_sews_99, s7_sews_100, s7_sews_103, s7_sews_104, s7_sews_105, s7_sews_106, s7_sews_107, s7_sews_110, s7_sews_112, s7_sews_113, s7_sews_114, s7_sews_115, s7_sews_116, s7_sews_117, s7_sews_118, s7_sews_121, s7_sews_122, s7_sews_123, am_k1_int, am_k1_ref, am_k1_none, am_cats_nil, am_cats_int, am_cats_ref, am_cats_long, Option.toList_some, Option.toList_none, List.singleton_append, List.nil_append, List.cons_append, true_and, and_true, if_true, if_false, va_rf, ↓reduceIte, Nat.reduceAdd, Nat.reduceMul, Nat.reduceSub, Nat.reduceLT, Nat.reduceLeDiff, Nat.reduceEqDiff, Nat.zero_le, Nat.add_zero, Nat.le_refl, nI_add, mul_nI, lt_nI, le_nI, eq_nI, bnd_nI, ci_nI, decide_eq_true_eq, decide_true, decide_false, Bool.true_or, Bool.or_true, Bool.or_false, Bool.false_or, not_true_eq_false, not_false_eq_true, Bool.false_eq_true, Bool.false_and, Bool.true_and, Bool.and_true, Bool.and_false, Bool.not_true, Bool.not_false, false_and, and_false, and_self, ob_1, rf_1_0, rf_1_1, rf_1_2, rf_1_3, rf_1_4, rf_1_5, rf_1_6, rf_1_7, rf_1_8, ob_2, rf_2_0, ib_3, rd_3, ob_4, rf_4_1, rf_4_2, rf_4_3, rf_4_5, rf_4_6, rf_4_7, rf_4_8, ib_5, rd_5, ib_6, rd_6, ib_7, rd_7, ib_8, rd_8, ib_9, rd_9, ib_10, rd_10, ib_11, rd_11, ob_12, rf_12_1, rf_12_2, rf_12_3, rf_12_5, rf_12_6, rf_12_7, rf_12_8, ib_13, rd_13, ib_14, rd_14, ib_15, rd_15, ib_16, rd_16, ib_17, rd_17, ib_18, rd_18, ib_19, rd_19, ob_20, rf_20_3, rf_20_4, ib_21, rd_21, ib_22, rd_22, ob_23, rf_23_0, ib_24, ix_24, rf_24_0, rf_24_1, rf_24_2, rf_24_3, rf_24_4, rf_24_5, rf_24_6, rf_24_7, rf_24_8, rf_24_9, ib_55, ix_55, rf_55_0, rf_55_1, ib_56, ob_57, rf_57_0, rf_57_1, ib_58, rd_58, ib_59, ob_60, rf_60_2, rf_60_3, rf_60_4, rf_60_5, rf_60_6, ib_61, rd_61, ib_62, ib_63, ix_63, rf_63_0, rf_63_1, rf_63_2, rf_63_3, rf_63_4, ob_77, rf_77_1, rf_77_3, rf_77_4, rf_77_5, rf_77_6, rf_77_8, rf_77_9, rf_77_10, rf_77_16, rf_77_17, rf_77_18, rf_77_19, rf_77_20, ib_78, rd_78, ib_79, rd_79, ib_80, rd_80, ib_81, rd_81, ib_82, rd_82, ib_83, rd_83, ib_84, ib_85, rd_85, ib_86, rd_86, ib_87, rd_87, ib_88, ib_89, rd_89, ib_90, rd_90, c6_isClient hT a3 o2, c7_isClient (a1 1 (by omega)) o2, hb, bi_t, bi_f, ite_bi2]
    exact ⟨⟨_, rfl⟩, sw, I, J, rfl, fun _ => rfl, hR⟩
  | true =>
  obtain ⟨c, hc, rfl⟩ := bnd_of hb (by omega)
  have hc6 : c < 6 := by omega
  have r0 := hS.1 0 (by omega)
  have r1 := hS.1 1 (by omega)
  have r2 := hS.1 2 (by omega)
  obtain ⟨u0, u1, u2, u3, u4⟩ := hS.2.2
  have t0 := a1 0 (by omega)
  have t2 := a1 2 (by omega)
  have t24 := a1 (24 + c) (by omega)
  have t36 := a1 (36 + c) (by omega)
  have q24 : 24 + c < 42 := by omega
  have q36 : 36 + c < 42 := by omega
  obtain ⟨y1, y2, y3⟩ := S_yds hS hc6
  have hs0 := hS.2.1.2.1
  have hle := hS.2.1.1
  have hl1 := hle 1
  have hl2 := hle 2
  have v24 := hO.2.2.2.2.2.2.1 c hc6
  have v2 := hO.2.2.1
  have hyn : ar_y sn c ≤ tn (24 + c) := hS.2.1.2.2.2 c hc
  have hisb := isb_nI (a := sn 2) (c := c) (by omega) (by omega)
  have hval : am_msew I T (tn 0) c = (decide (sn 0 < tn 0) && (!(sn 2).testBit c && (decide (ar_y sn c = tn (24 + c)) && decide (sn 1 + tn (36 + c) ≤ tn 2)))) := by
    unfold am_msew
    rw [u0, bnd_nI (by omega), u2, hisb, y1, (a7 c hc).2.1, dec_nI (by omega) (by omega), u1, (a7 c hc).2.2.2, a4, nI_add]
    simp only [le_nI (show sn 1 + tn (36 + c) < 2147483648 by omega) (show tn 2 < 2147483648 by omega)]
  by_cases hw : sn 0 < tn 0
  case neg =>
    have hw2 : sn 0 = tn 0 := by omega
    simp (disch := omega) only [e6_sews, s6_sews_0, s6_sews_1, s6_sews_2, s6_sews_5, s6_sews_8, s6_sews_9, s6_sews_10, s6_sews_11, s6_sews_12, s6_sews_15, s6_sews_18, s6_sews_20, s6_sews_21, s6_sews_22, s6_sews_25, s6_sews_26, s6_sews_29, s6_sews_32, s6_sews_33, s6_sews_36, s6_sews_37, s6_sews_38, s6_sews_41, s6_sews_44, s6_sews_45, s6_sews_46, s6_sews_49, s6_sews_50, s6_sews_53, s6_sews_56, e7_sews, s7_sews_0, s7_sews_1, s7_sews_2, s7_sews_5, s7_sews_8, s7_sews_9, s7_sews_10, s7_sews_11, s7_sews_14, s7_sews_15, s7_sews_16, s7_sews_17, s7_sews_20, s7_sews_21, s7_sews_22, s7_sews_25, s7_sews_26, s7_sews_29, s7_sews_30, s7_sews_31, s7_sews_32, s7_sews_35, s7_sews_38, s7_sews_39, s7_sews_40, s7_sews_43, s7_sews_44, s7_sews_47, s7_sews_49, s7_sews_50, s7_sews_51, s7_sews_52, s7_sews_55, s7_sews_56, s7_sews_59, s7_sews_60, s7_sews_61, s7_sews_62, s7_sews_65, s7_sews_67, s7_sews_68, s7_sews_69, s7_sews_70, s7_sews_71, s7_sews_72, s7_sews_75, s7_sews_76, s7_sews_77, s7_sews_80, s7_sews_82, s7_sews_83, s7_sews_84, s7_sews_87, s7_sews_88, s7_sews_91, s7_sews_92, s7_sews_93, s7_sews_94, s7_sews_95, s7_sews_96, s7_sews_97, s7_sews_98, s7_sews_99, s7_sews_100, s7_sews_103, s7_sews_104, s7_sews_105, s7_sews_106, s7_sews_107, s7_sews_110, s7_sews_112, s7_sews_113, s7_sews_114, s7_sews_115, s7_sews_116, s7_sews_117, s7_sews_118, s7_sews_121, s7_sews_122, s7_sews_123, am_k1_int, am_k1_ref, am_k1_none, am_cats_nil, am_cats_int, am_cats_ref, am_cats_long, Option.toList_some, Option.toList_none, List.singleton_append, List.nil_append, List.cons_append, true_and, and_true, if_true, if_false, va_rf, ↓reduceIte, Nat.reduceAdd, Nat.reduceMul, Nat.reduceSub, Nat.reduceLT, Nat.reduceLeDiff, Nat.reduceEqDiff, Nat.zero_le, Nat.add_zero, Nat.le_refl, nI_add, mul_nI, lt_nI, le_nI, eq_nI, bnd_nI, ci_nI, decide_eq_true_eq, decide_true, decide_false, Bool.true_or, Bool.or_true, Bool.or_false, Bool.false_or, not_true_eq_false, not_false_eq_true, Bool.false_eq_true, Bool.false_and, Bool.true_and, Bool.and_true, Bool.and_false, Bool.not_true, Bool.not_false, false_and, and_false, and_self, ob_1, rf_1_0, rf_1_1, rf_1_2, rf_1_3, rf_1_4, rf_1_5, rf_1_6, rf_1_7, rf_1_8, ob_2, rf_2_0, ib_3, rd_3, ob_4, rf_4_1, rf_4_2, rf_4_3, rf_4_5, rf_4_6, rf_4_7, rf_4_8, ib_5, rd_5, ib_6, rd_6, ib_7, rd_7, ib_8, rd_8, ib_9, rd_9, ib_10, rd_10, ib_11, rd_11, ob_12, rf_12_1, rf_12_2, rf_12_3, rf_12_5, rf_12_6, rf_12_7, rf_12_8, ib_13, rd_13, ib_14, rd_14, ib_15, rd_15, ib_16, rd_16, ib_17, rd_17, ib_18, rd_18, ib_19, rd_19, ob_20, rf_20_3, rf_20_4, ib_21, rd_21, ib_22, rd_22, ob_23, rf_23_0, ib_24, ix_24, rf_24_0, rf_24_1, rf_24_2, rf_24_3, rf_24_4, rf_24_5, rf_24_6, rf_24_7, rf_24_8, rf_24_9, ib_55, ix_55, rf_55_0, rf_55_1, ib_56, ob_57, rf_57_0, rf_57_1, ib_58, rd_58, ib_59, ob_60, rf_60_2, rf_60_3, rf_60_4, rf_60_5, rf_60_6, ib_61, rd_61, ib_62, ib_63, ix_63, rf_63_0, rf_63_1, rf_63_2, rf_63_3, rf_63_4, ob_77, rf_77_1, rf_77_3, rf_77_4, rf_77_5, rf_77_6, rf_77_8, rf_77_9, rf_77_10, rf_77_16, rf_77_17, rf_77_18, rf_77_19, rf_77_20, ib_78, rd_78, ib_79, rd_79, ib_80, rd_80, ib_81, rd_81, ib_82, rd_82, ib_83, rd_83, ib_84, ib_85, rd_85, ib_86, rd_86, ib_87, rd_87, ib_88, ib_89, rd_89, ib_90, rd_90, c6_isClient hT a3 o2, c7_isClient (a1 1 (by omega)) o2, hb, hc, c6_maySew hT a2 o1 hc6, hval, hw, r0, t0, hw2, Nat.lt_irrefl, bi_ret, bi_t, bi_f, ite_bi2]
    exact ⟨⟨_, rfl⟩, sw, I, J, rfl, fun _ => rfl, hR⟩
  have hw2 : ¬ sn 0 = tn 0 := by omega
  cases hd : (sn 2).testBit c with
  | true =>
    rw [hd] at hval hisb
    simp (disch := omega) only [e6_sews, s6_sews_0, s6_sews_1, s6_sews_2, s6_sews_5, s6_sews_8, s6_sews_9, s6_sews_10, s6_sews_11, s6_sews_12, s6_sews_15, s6_sews_18, s6_sews_20, s6_sews_21, s6_sews_22, s6_sews_25, s6_sews_26, s6_sews_29, s6_sews_32, s6_sews_33, s6_sews_36, s6_sews_37, s6_sews_38, s6_sews_41, s6_sews_44, s6_sews_45, s6_sews_46, s6_sews_49, s6_sews_50, s6_sews_53, s6_sews_56, e7_sews, s7_sews_0, s7_sews_1, s7_sews_2, s7_sews_5, s7_sews_8, s7_sews_9, s7_sews_10, s7_sews_11, s7_sews_14, s7_sews_15, s7_sews_16, s7_sews_17, s7_sews_20, s7_sews_21, s7_sews_22, s7_sews_25, s7_sews_26, s7_sews_29, s7_sews_30, s7_sews_31, s7_sews_32, s7_sews_35, s7_sews_38, s7_sews_39, s7_sews_40, s7_sews_43, s7_sews_44, s7_sews_47, s7_sews_49, s7_sews_50, s7_sews_51, s7_sews_52, s7_sews_55, s7_sews_56, s7_sews_59, s7_sews_60, s7_sews_61, s7_sews_62, s7_sews_65, s7_sews_67, s7_sews_68, s7_sews_69, s7_sews_70, s7_sews_71, s7_sews_72, s7_sews_75, s7_sews_76, s7_sews_77, s7_sews_80, s7_sews_82, s7_sews_83, s7_sews_84, s7_sews_87, s7_sews_88, s7_sews_91, s7_sews_92, s7_sews_93, s7_sews_94, s7_sews_95, s7_sews_96, s7_sews_97, s7_sews_98, s7_sews_99, s7_sews_100, s7_sews_103, s7_sews_104, s7_sews_105, s7_sews_106, s7_sews_107, s7_sews_110, s7_sews_112, s7_sews_113, s7_sews_114, s7_sews_115, s7_sews_116, s7_sews_117, s7_sews_118, s7_sews_121, s7_sews_122, s7_sews_123, am_k1_int, am_k1_ref, am_k1_none, am_cats_nil, am_cats_int, am_cats_ref, am_cats_long, Option.toList_some, Option.toList_none, List.singleton_append, List.nil_append, List.cons_append, true_and, and_true, if_true, if_false, va_rf, ↓reduceIte, Nat.reduceAdd, Nat.reduceMul, Nat.reduceSub, Nat.reduceLT, Nat.reduceLeDiff, Nat.reduceEqDiff, Nat.zero_le, Nat.add_zero, Nat.le_refl, nI_add, mul_nI, lt_nI, le_nI, eq_nI, bnd_nI, ci_nI, decide_eq_true_eq, decide_true, decide_false, Bool.true_or, Bool.or_true, Bool.or_false, Bool.false_or, not_true_eq_false, not_false_eq_true, Bool.false_eq_true, Bool.false_and, Bool.true_and, Bool.and_true, Bool.and_false, Bool.not_true, Bool.not_false, false_and, and_false, and_self, ob_1, rf_1_0, rf_1_1, rf_1_2, rf_1_3, rf_1_4, rf_1_5, rf_1_6, rf_1_7, rf_1_8, ob_2, rf_2_0, ib_3, rd_3, ob_4, rf_4_1, rf_4_2, rf_4_3, rf_4_5, rf_4_6, rf_4_7, rf_4_8, ib_5, rd_5, ib_6, rd_6, ib_7, rd_7, ib_8, rd_8, ib_9, rd_9, ib_10, rd_10, ib_11, rd_11, ob_12, rf_12_1, rf_12_2, rf_12_3, rf_12_5, rf_12_6, rf_12_7, rf_12_8, ib_13, rd_13, ib_14, rd_14, ib_15, rd_15, ib_16, rd_16, ib_17, rd_17, ib_18, rd_18, ib_19, rd_19, ob_20, rf_20_3, rf_20_4, ib_21, rd_21, ib_22, rd_22, ob_23, rf_23_0, ib_24, ix_24, rf_24_0, rf_24_1, rf_24_2, rf_24_3, rf_24_4, rf_24_5, rf_24_6, rf_24_7, rf_24_8, rf_24_9, ib_55, ix_55, rf_55_0, rf_55_1, ib_56, ob_57, rf_57_0, rf_57_1, ib_58, rd_58, ib_59, ob_60, rf_60_2, rf_60_3, rf_60_4, rf_60_5, rf_60_6, ib_61, rd_61, ib_62, ib_63, ix_63, rf_63_0, rf_63_1, rf_63_2, rf_63_3, rf_63_4, ob_77, rf_77_1, rf_77_3, rf_77_4, rf_77_5, rf_77_6, rf_77_8, rf_77_9, rf_77_10, rf_77_16, rf_77_17, rf_77_18, rf_77_19, rf_77_20, ib_78, rd_78, ib_79, rd_79, ib_80, rd_80, ib_81, rd_81, ib_82, rd_82, ib_83, rd_83, ib_84, ib_85, rd_85, ib_86, rd_86, ib_87, rd_87, ib_88, ib_89, rd_89, ib_90, rd_90, c6_isClient hT a3 o2, c7_isClient (a1 1 (by omega)) o2, hb, hc, c6_maySew hT a2 o1 hc6, hval, hw, r0, r2, t0, hw2, c7_isOf, hisb, bi_ret, bi_t, bi_f, ite_bi2]
    exact ⟨⟨_, rfl⟩, sw, I, J, rfl, fun _ => rfl, hR⟩
  | false =>
  rw [hd] at hval hisb
  by_cases g4 : ar_y sn c = tn (24 + c)
  case neg =>
    have g4' : ar_y sn c < tn (24 + c) := by omega
    simp (disch := omega) only [e6_sews, s6_sews_0, s6_sews_1, s6_sews_2, s6_sews_5, s6_sews_8, s6_sews_9, s6_sews_10, s6_sews_11, s6_sews_12, s6_sews_15, s6_sews_18, s6_sews_20, s6_sews_21, s6_sews_22, s6_sews_25, s6_sews_26, s6_sews_29, s6_sews_32, s6_sews_33, s6_sews_36, s6_sews_37, s6_sews_38, s6_sews_41, s6_sews_44, s6_sews_45, s6_sews_46, s6_sews_49, s6_sews_50, s6_sews_53, s6_sews_56, e7_sews, s7_sews_0, s7_sews_1, s7_sews_2, s7_sews_5, s7_sews_8, s7_sews_9, s7_sews_10, s7_sews_11, s7_sews_14, s7_sews_15, s7_sews_16, s7_sews_17, s7_sews_20, s7_sews_21, s7_sews_22, s7_sews_25, s7_sews_26, s7_sews_29, s7_sews_30, s7_sews_31, s7_sews_32, s7_sews_35, s7_sews_38, s7_sews_39, s7_sews_40, s7_sews_43, s7_sews_44, s7_sews_47, s7_sews_49, s7_sews_50, s7_sews_51, s7_sews_52, s7_sews_55, s7_sews_56, s7_sews_59, s7_sews_60, s7_sews_61, s7_sews_62, s7_sews_65, s7_sews_67, s7_sews_68, s7_sews_69, s7_sews_70, s7_sews_71, s7_sews_72, s7_sews_75, s7_sews_76, s7_sews_77, s7_sews_80, s7_sews_82, s7_sews_83, s7_sews_84, s7_sews_87, s7_sews_88, s7_sews_91, s7_sews_92, s7_sews_93, s7_sews_94, s7_sews_95, s7_sews_96, s7_sews_97, s7_sews_98, s7_sews_99, s7_sews_100, s7_sews_103, s7_sews_104, s7_sews_105, s7_sews_106, s7_sews_107, s7_sews_110, s7_sews_112, s7_sews_113, s7_sews_114, s7_sews_115, s7_sews_116, s7_sews_117, s7_sews_118, s7_sews_121, s7_sews_122, s7_sews_123, am_k1_int, am_k1_ref, am_k1_none, am_cats_nil, am_cats_int, am_cats_ref, am_cats_long, Option.toList_some, Option.toList_none, List.singleton_append, List.nil_append, List.cons_append, true_and, and_true, if_true, if_false, va_rf, ↓reduceIte, Nat.reduceAdd, Nat.reduceMul, Nat.reduceSub, Nat.reduceLT, Nat.reduceLeDiff, Nat.reduceEqDiff, Nat.zero_le, Nat.add_zero, Nat.le_refl, nI_add, mul_nI, lt_nI, le_nI, eq_nI, bnd_nI, ci_nI, decide_eq_true_eq, decide_true, decide_false, Bool.true_or, Bool.or_true, Bool.or_false, Bool.false_or, not_true_eq_false, not_false_eq_true, Bool.false_eq_true, Bool.false_and, Bool.true_and, Bool.and_true, Bool.and_false, Bool.not_true, Bool.not_false, false_and, and_false, and_self, ob_1, rf_1_0, rf_1_1, rf_1_2, rf_1_3, rf_1_4, rf_1_5, rf_1_6, rf_1_7, rf_1_8, ob_2, rf_2_0, ib_3, rd_3, ob_4, rf_4_1, rf_4_2, rf_4_3, rf_4_5, rf_4_6, rf_4_7, rf_4_8, ib_5, rd_5, ib_6, rd_6, ib_7, rd_7, ib_8, rd_8, ib_9, rd_9, ib_10, rd_10, ib_11, rd_11, ob_12, rf_12_1, rf_12_2, rf_12_3, rf_12_5, rf_12_6, rf_12_7, rf_12_8, ib_13, rd_13, ib_14, rd_14, ib_15, rd_15, ib_16, rd_16, ib_17, rd_17, ib_18, rd_18, ib_19, rd_19, ob_20, rf_20_3, rf_20_4, ib_21, rd_21, ib_22, rd_22, ob_23, rf_23_0, ib_24, ix_24, rf_24_0, rf_24_1, rf_24_2, rf_24_3, rf_24_4, rf_24_5, rf_24_6, rf_24_7, rf_24_8, rf_24_9, ib_55, ix_55, rf_55_0, rf_55_1, ib_56, ob_57, rf_57_0, rf_57_1, ib_58, rd_58, ib_59, ob_60, rf_60_2, rf_60_3, rf_60_4, rf_60_5, rf_60_6, ib_61, rd_61, ib_62, ib_63, ix_63, rf_63_0, rf_63_1, rf_63_2, rf_63_3, rf_63_4, ob_77, rf_77_1, rf_77_3, rf_77_4, rf_77_5, rf_77_6, rf_77_8, rf_77_9, rf_77_10, rf_77_16, rf_77_17, rf_77_18, rf_77_19, rf_77_20, ib_78, rd_78, ib_79, rd_79, ib_80, rd_80, ib_81, rd_81, ib_82, rd_82, ib_83, rd_83, ib_84, ib_85, rd_85, ib_86, rd_86, ib_87, rd_87, ib_88, ib_89, rd_89, ib_90, rd_90, c6_isClient hT a3 o2, c7_isClient (a1 1 (by omega)) o2, hb, hc, c6_maySew hT a2 o1 hc6, hval, hw, r0, r2, t0, hw2, c7_isOf, hisb, c7_yardsOf hc6, y2, q24, t24, g4, g4', bi_ret, bi_t, bi_f, ite_bi2]
    exact ⟨⟨_, rfl⟩, sw, I, J, rfl, fun _ => rfl, hR⟩
  by_cases g5 : sn 1 + tn (36 + c) ≤ tn 2
  case neg =>
    simp (disch := omega) only [e6_sews, s6_sews_0, s6_sews_1, s6_sews_2, s6_sews_5, s6_sews_8, s6_sews_9, s6_sews_10, s6_sews_11, s6_sews_12, s6_sews_15, s6_sews_18, s6_sews_20, s6_sews_21, s6_sews_22, s6_sews_25, s6_sews_26, s6_sews_29, s6_sews_32, s6_sews_33, s6_sews_36, s6_sews_37, s6_sews_38, s6_sews_41, s6_sews_44, s6_sews_45, s6_sews_46, s6_sews_49, s6_sews_50, s6_sews_53, s6_sews_56, e7_sews, s7_sews_0, s7_sews_1, s7_sews_2, s7_sews_5, s7_sews_8, s7_sews_9, s7_sews_10, s7_sews_11, s7_sews_14, s7_sews_15, s7_sews_16, s7_sews_17, s7_sews_20, s7_sews_21, s7_sews_22, s7_sews_25, s7_sews_26, s7_sews_29, s7_sews_30, s7_sews_31, s7_sews_32, s7_sews_35, s7_sews_38, s7_sews_39, s7_sews_40, s7_sews_43, s7_sews_44, s7_sews_47, s7_sews_49, s7_sews_50, s7_sews_51, s7_sews_52, s7_sews_55, s7_sews_56, s7_sews_59, s7_sews_60, s7_sews_61, s7_sews_62, s7_sews_65, s7_sews_67, s7_sews_68, s7_sews_69, s7_sews_70, s7_sews_71, s7_sews_72, s7_sews_75, s7_sews_76, s7_sews_77, s7_sews_80, s7_sews_82, s7_sews_83, s7_sews_84, s7_sews_87, s7_sews_88, s7_sews_91, s7_sews_92, s7_sews_93, s7_sews_94, s7_sews_95, s7_sews_96, s7_sews_97, s7_sews_98, s7_sews_99, s7_sews_100, s7_sews_103, s7_sews_104, s7_sews_105, s7_sews_106, s7_sews_107, s7_sews_110, s7_sews_112, s7_sews_113, s7_sews_114, s7_sews_115, s7_sews_116, s7_sews_117, s7_sews_118, s7_sews_121, s7_sews_122, s7_sews_123, am_k1_int, am_k1_ref, am_k1_none, am_cats_nil, am_cats_int, am_cats_ref, am_cats_long, Option.toList_some, Option.toList_none, List.singleton_append, List.nil_append, List.cons_append, true_and, and_true, if_true, if_false, va_rf, ↓reduceIte, Nat.reduceAdd, Nat.reduceMul, Nat.reduceSub, Nat.reduceLT, Nat.reduceLeDiff, Nat.reduceEqDiff, Nat.zero_le, Nat.add_zero, Nat.le_refl, nI_add, mul_nI, lt_nI, le_nI, eq_nI, bnd_nI, ci_nI, decide_eq_true_eq, decide_true, decide_false, Bool.true_or, Bool.or_true, Bool.or_false, Bool.false_or, not_true_eq_false, not_false_eq_true, Bool.false_eq_true, Bool.false_and, Bool.true_and, Bool.and_true, Bool.and_false, Bool.not_true, Bool.not_false, false_and, and_false, and_self, ob_1, rf_1_0, rf_1_1, rf_1_2, rf_1_3, rf_1_4, rf_1_5, rf_1_6, rf_1_7, rf_1_8, ob_2, rf_2_0, ib_3, rd_3, ob_4, rf_4_1, rf_4_2, rf_4_3, rf_4_5, rf_4_6, rf_4_7, rf_4_8, ib_5, rd_5, ib_6, rd_6, ib_7, rd_7, ib_8, rd_8, ib_9, rd_9, ib_10, rd_10, ib_11, rd_11, ob_12, rf_12_1, rf_12_2, rf_12_3, rf_12_5, rf_12_6, rf_12_7, rf_12_8, ib_13, rd_13, ib_14, rd_14, ib_15, rd_15, ib_16, rd_16, ib_17, rd_17, ib_18, rd_18, ib_19, rd_19, ob_20, rf_20_3, rf_20_4, ib_21, rd_21, ib_22, rd_22, ob_23, rf_23_0, ib_24, ix_24, rf_24_0, rf_24_1, rf_24_2, rf_24_3, rf_24_4, rf_24_5, rf_24_6, rf_24_7, rf_24_8, rf_24_9, ib_55, ix_55, rf_55_0, rf_55_1, ib_56, ob_57, rf_57_0, rf_57_1, ib_58, rd_58, ib_59, ob_60, rf_60_2, rf_60_3, rf_60_4, rf_60_5, rf_60_6, ib_61, rd_61, ib_62, ib_63, ix_63, rf_63_0, rf_63_1, rf_63_2, rf_63_3, rf_63_4, ob_77, rf_77_1, rf_77_3, rf_77_4, rf_77_5, rf_77_6, rf_77_8, rf_77_9, rf_77_10, rf_77_16, rf_77_17, rf_77_18, rf_77_19, rf_77_20, ib_78, rd_78, ib_79, rd_79, ib_80, rd_80, ib_81, rd_81, ib_82, rd_82, ib_83, rd_83, ib_84, ib_85, rd_85, ib_86, rd_86, ib_87, rd_87, ib_88, ib_89, rd_89, ib_90, rd_90, c6_isClient hT a3 o2, c7_isClient (a1 1 (by omega)) o2, hb, hc, c6_maySew hT a2 o1 hc6, hval, hw, r0, r1, r2, t0, t2, hw2, c7_isOf, hisb, c7_yardsOf hc6, y2, q24, t24, g4, Nat.lt_irrefl, q36, t36, g5, bi_ret, bi_t, bi_f, ite_bi2]
    exact ⟨⟨_, rfl⟩, sw, I, J, rfl, fun _ => rfl, hR⟩
  obtain ⟨p0, p1, p2, p3, p4, -⟩ := id hP
  obtain ⟨I1, hI1⟩ : ∃ I1, I1 = am_up (am_up (am_bec I (25 + 3 * nx) 20) 23 1 (nI ((nx + 1) % 10))) 23 2 (nI (min (m + 1) 10)) := ⟨_, rfl⟩
  have hrem : ∀ Q, am_call (d + 5) m1_remember [.ref 23, .ref 20] (am_sh n, I, J, am_Rf sw) Q ↔ Q none (am_sh n, I1, J, am_Rf sw) := by
    intro Q
    rw [hI1]
    exact c1_remember p1 p0 p2 p3
  have i20 : I1 20 = I 20 := by rw [hI1]; simp (disch := omega) only [am_up_ne, bec_row]
  have iT : I1 (T + 7) c = nI (tn (36 + c)) := by
    rw [hI1, ← (a7 c hc).2.2.2]
    have hT2 := tbr_or hT
    simp (disch := omega) only [am_up_ne, bec_row]
  obtain ⟨I2, hI2⟩ : ∃ I2, I2 = am_up (am_up I1 20 2 (nI (sn 2 ||| 2 ^ c))) 20 1 (nI (sn 1 + tn (36 + c))) := ⟨_, rfl⟩
  have e2 : nI 1 <<< (nI c &&& 31) = nI (2 ^ c) := by
    have := (pow2_6 (nc := c) (by omega)).1
    rw [shl_nI (by omega) (by omega), Nat.one_mul]
  have hsew : ∀ Q, am_call (d + 5) m3_sew [.ref 20, .int (nI c), .int (nI (tn (36 + c)))] (am_sh n, I1, J, am_Rf sw) Q ↔ Q none (am_sh n, I2, J, am_Rf sw) := by
    intro Q
    rw [c3_sew st20, hI2, i20, u1, u2, nI_add, e2, or_nI]
  obtain ⟨I3, hI3⟩ : ∃ I3, I3 = am_up (am_row I2 82 (am_kp I2 m)) 77 7 (nI (min (m + 1) 10)) := ⟨_, rfl⟩
  have hkp : ∀ Q, am_call (d + 5) m7_keeps [.ref 77] (am_sh n, I2, J, am_Rf sw) Q ↔ Q none (am_sh n, I3, J, am_Rf sw) := by
    intro Q
    rw [hI3]
    refine c7_keeps p0 ?_
    rw [hI2, hI1]
    simp (disch := omega) only [up_n, bec_n, p4]
  have i81 : I3 81 = I 81 := by rw [hI3, hI2, hI1]; simp (disch := omega) only [am_up_ne, am_row_ne, bec_row]
  have i79 : I3 79 = I 79 := by rw [hI3, hI2, hI1]; simp (disch := omega) only [am_up_ne, am_row_ne, bec_row]
  have m81 : I2 81 = I 81 := by rw [hI2, hI1]; simp (disch := omega) only [am_up_ne, bec_row]
  have m79 : I2 79 = I 79 := by rw [hI2, hI1]; simp (disch := omega) only [am_up_ne, bec_row]
  have m20 : I2 20 1 = nI (sn 1 + tn (36 + c)) := by rw [hI2, up_s]
  have key : am_call (d + 6) m6_sews [.ref 1, .int (nI c)] (am_sh n, I, J, am_Rf sw) (fun v M1 => v = some (.int (nI (sn 1 + tn (36 + c)))) ∧ M1 = (am_sh n, I2, J, am_Rf sw)) := by
    rcases id hT with ⟨rfl, rfl⟩ | ⟨rfl, rfl⟩ <;> simp only [Nat.reduceAdd] at iT <;> simp (disch := omega) only [e6_sews, s6_sews_0, s6_sews_1, s6_sews_2, s6_sews_5, s6_sews_8, s6_sews_9, s6_sews_10, s6_sews_11, s6_sews_12, s6_sews_15, s6_sews_18, s6_sews_20, s6_sews_21, s6_sews_22, s6_sews_25, s6_sews_26, s6_sews_29, s6_sews_32, s6_sews_33, s6_sews_36, s6_sews_37, s6_sews_38, s6_sews_41, s6_sews_44, s6_sews_45, s6_sews_46, s6_sews_49, s6_sews_50, s6_sews_53, s6_sews_56, am_k1_int, am_k1_ref, am_k1_none, am_cats_nil, am_cats_int, am_cats_ref, am_cats_long, Option.toList_some, Option.toList_none, List.singleton_append, List.nil_append, List.cons_append, true_and, and_true, if_true, if_false, va_rf, ↓reduceIte, Nat.reduceAdd, Nat.reduceMul, Nat.reduceSub, Nat.reduceLT, Nat.reduceLeDiff, Nat.reduceEqDiff, Nat.zero_le, Nat.add_zero, Nat.le_refl, nI_add, mul_nI, lt_nI, le_nI, eq_nI, bnd_nI, ci_nI, decide_eq_true_eq, decide_true, decide_false, Bool.true_or, Bool.or_true, Bool.or_false, Bool.false_or, not_true_eq_false, not_false_eq_true, Bool.false_eq_true, Bool.false_and, Bool.true_and, Bool.and_true, Bool.and_false, Bool.not_true, Bool.not_false, false_and, and_false, and_self, ob_1, rf_1_0, rf_1_1, rf_1_2, rf_1_3, rf_1_4, rf_1_5, rf_1_6, rf_1_7, rf_1_8, ob_2, rf_2_0, ib_3, rd_3, ob_4, rf_4_1, rf_4_2, rf_4_3, rf_4_5, rf_4_6, rf_4_7, rf_4_8, ib_5, rd_5, ib_6, rd_6, ib_7, rd_7, ib_8, rd_8, ib_9, rd_9, ib_10, rd_10, ib_11, rd_11, ob_12, rf_12_1, rf_12_2, rf_12_3, rf_12_5, rf_12_6, rf_12_7, rf_12_8, ib_13, rd_13, ib_14, rd_14, ib_15, rd_15, ib_16, rd_16, ib_17, rd_17, ib_18, rd_18, ib_19, rd_19, ob_20, rf_20_3, rf_20_4, ib_21, rd_21, ib_22, rd_22, ob_23, rf_23_0, ib_24, ix_24, rf_24_0, rf_24_1, rf_24_2, rf_24_3, rf_24_4, rf_24_5, rf_24_6, rf_24_7, rf_24_8, rf_24_9, ib_55, ix_55, rf_55_0, rf_55_1, ib_56, ob_57, rf_57_0, rf_57_1, ib_58, rd_58, ib_59, ob_60, rf_60_2, rf_60_3, rf_60_4, rf_60_5, rf_60_6, ib_61, rd_61, ib_62, ib_63, ix_63, rf_63_0, rf_63_1, rf_63_2, rf_63_3, rf_63_4, tb_t, tb_f, c6_isClient hT a3 o2, hb, hc, hc6, c6_maySew hT a2 o1 hc6, hval, hw, g4, g5, hrem, iT, hsew, m20, bi_ret, bi_t, bi_f, ite_bi2]
  refine am_call_mono _ _ _ _ _ _ ?_ key
  rintro v M1 ⟨rfl, rfl⟩
  have z1 : (0 : Nat) < 81 := by decide
  have hmod : am_call (d + 6) m7_sews [.ref 77, .int (nI c)] (am_sh n, I2, J, am_Rf sw) (fun v M2 => v = some (.int (nI (sn 1 + tn (36 + c)))) ∧ M2 = (am_sh n, am_up (am_up I3 81 2 (nI (sn 2 ||| 2 ^ c))) 81 1 (nI (sn 1 + tn (36 + c))), J, am_Rf sw)) := by
    simp (disch := omega) only [e7_sews, s7_sews_0, s7_sews_1, s7_sews_2, s7_sews_5, s7_sews_8, s7_sews_9, s7_sews_10, s7_sews_11, s7_sews_14, s7_sews_15, s7_sews_16, s7_sews_17, s7_sews_20, s7_sews_21, s7_sews_22, s7_sews_25, s7_sews_26, s7_sews_29, s7_sews_30, s7_sews_31, s7_sews_32, s7_sews_35, s7_sews_38, s7_sews_39, s7_sews_40, s7_sews_43, s7_sews_44, s7_sews_47, s7_sews_49, s7_sews_50, s7_sews_51, s7_sews_52, s7_sews_55, s7_sews_56, s7_sews_59, s7_sews_60, s7_sews_61, s7_sews_62, s7_sews_65, s7_sews_67, s7_sews_68, s7_sews_69, s7_sews_70, s7_sews_71, s7_sews_72, s7_sews_75, s7_sews_76, s7_sews_77, s7_sews_80, s7_sews_82, s7_sews_83, s7_sews_84, s7_sews_87, s7_sews_88, s7_sews_91, s7_sews_92, s7_sews_93, s7_sews_94, s7_sews_95, s7_sews_96, s7_sews_97, s7_sews_98, s7_sews_99, s7_sews_100, s7_sews_103, s7_sews_104, s7_sews_105, s7_sews_106, s7_sews_107, s7_sews_110, s7_sews_112, s7_sews_113, s7_sews_114, s7_sews_115, s7_sews_116, s7_sews_117, s7_sews_118, s7_sews_121, s7_sews_122, s7_sews_123, am_k1_int, am_k1_ref, am_k1_none, am_cats_nil, am_cats_int, am_cats_ref, am_cats_long, Option.toList_some, Option.toList_none, List.singleton_append, List.nil_append, List.cons_append, true_and, and_true, if_true, if_false, va_rf, ↓reduceIte, Nat.reduceAdd, Nat.reduceMul, Nat.reduceSub, Nat.reduceLT, Nat.reduceLeDiff, Nat.reduceEqDiff, Nat.zero_le, Nat.add_zero, Nat.le_refl, nI_add, mul_nI, lt_nI, le_nI, eq_nI, bnd_nI, ci_nI, decide_eq_true_eq, decide_true, decide_false, Bool.true_or, Bool.or_true, Bool.or_false, Bool.false_or, not_true_eq_false, not_false_eq_true, Bool.false_eq_true, Bool.false_and, Bool.true_and, Bool.and_true, Bool.and_false, Bool.not_true, Bool.not_false, false_and, and_false, and_self, ob_77, rf_77_1, rf_77_3, rf_77_4, rf_77_5, rf_77_6, rf_77_8, rf_77_9, rf_77_10, rf_77_16, rf_77_17, rf_77_18, rf_77_19, rf_77_20, ib_78, rd_78, ib_79, rd_79, ib_80, rd_80, ib_81, rd_81, ib_82, rd_82, ib_83, rd_83, ib_84, ib_85, rd_85, ib_86, rd_86, ib_87, rd_87, ib_88, ib_89, rd_89, ib_90, rd_90, m79, m81, i81, i79, c7_isClient (n := n) (J := J) (sw := sw) (I := I2) (nc := tn 1) (by rw [m79]; exact a1 1 (by omega)) o2, hb, hc, r0, r1, r2, t0, t2, hw2, c7_isOf, hisb, c7_yardsOf hc6, y2, q24, t24, g4, Nat.lt_irrefl, q36, t36, g5, bi_ret, bi_t, bi_f, ite_bi2, hkp, z1, up_n, up_s, am_up_ne, e2, or_nI, Value.category]
  refine am_call_mono _ _ _ _ _ _ ?_ hmod
  rintro v M2 ⟨rfl, rfl⟩
  have hok := ok_sew hO hS.2.1 (k := tn (36 + c)) hc (by omega)
  obtain ⟨I4, hI4⟩ : ∃ I4, I4 = am_up (am_up I3 81 2 (nI (sn 2 ||| 2 ^ c))) 81 1 (nI (sn 1 + tn (36 + c))) := ⟨_, rfl⟩
  rw [← hI4]
  have n20 : I4 20 = am_up (am_up I 20 2 (nI (sn 2 ||| 2 ^ c))) 20 1 (nI (sn 1 + tn (36 + c))) 20 := by
    rw [hI4, hI3, hI2]
    simp (disch := omega) only [am_up_ne, am_row_ne, am_up_eq, i20]
  have n21 : I4 21 = I 21 := by rw [hI4, hI3, hI2, hI1]; simp (disch := omega) only [am_up_ne, am_row_ne, bec_row]
  have n22 : I4 22 = I 22 := by rw [hI4, hI3, hI2, hI1]; simp (disch := omega) only [am_up_ne, am_row_ne, bec_row]
  have hS4 : ar_S tn (ar_sew sn c (tn (36 + c))) I4 := by
    refine ⟨fun j hj => ?_, hok, ?_, ?_, ?_, fun e he => ?_, fun q hq => ?_⟩
    · rw [hI4]
      by_cases b1 : j = 1
      · subst b1; rw [up_s]; rfl
      · rw [up_n (by omega)]
        by_cases b2 : j = 2
        · subst b2; rw [up_s]; rfl
        · rw [up_n (by omega), sew_n b1 b2, i81]
          exact hS.1 j hj
    · rw [n20, up_n (by omega), up_n (by omega), sew_n (by omega) (by omega)]
      exact u0
    · rw [n20, up_s]; rfl
    · rw [n20, up_n (by omega), up_s]; rfl
    · rw [n21, sew_n (by omega) (by omega)]
      exact u3 e he
    · rw [n22, sew_n (by omega) (by omega)]
      exact u4 q hq
  refine ⟨rfl, ⟨_, rfl⟩, sw, I4, J, rfl, fun j => ?_, T, tn, ar_sew sn c (tn (36 + c)), ar_pk pn sn m, im, tx, fm, fi, (nx + 1) % 10, min (m + 1) 10, ln, pm, hT, hO, fr_T_ hT ⟨?_, ?_⟩ hA, hS4, P_keep o1 hP hS ?_ ?_ ?_ ?_ ?_, fr_I_ ⟨?_, ?_, ?_, ?_⟩ hI, fr_X_ ⟨?_, ?_, ?_, ?_⟩ hX, fr_F_ ⟨?_, ?_, ?_, ?_, ?_⟩ hF, fr_C_ hO ⟨?_, ?_, ?_, ?_⟩ hC, hJ⟩ <;> rw [hI4, hI3] <;> intros <;> simp (disch := omega) only [am_up_ne, am_row_ne, am_row_eq, up_n, up_s, row_n, bec_row, bec_n, hI2, hI1]
  refine kp_fr ?_ ?_ <;> simp (disch := omega) only [am_up_ne, bec_row]
end
