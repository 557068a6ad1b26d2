/-! the reference's constructor; the relation behind both -/
theorem s00 (j : Nat) : am_s0 am_t0 j = 0 := by
  unfold am_s0
  split
  · exact if_neg (by omega)
  · rfl
theorem pa_0 : am_pa (fun _ => 0) 0 121 0 am_t0 = (true, am_sp (fun _ => 0) 0 0, am_t0) := by
  have h : am_kk (fun _ => 0) 0 0 = 0 := by
    unfold am_kk am_kd
    rw [if_pos (Nat.zero_le _)]
  exact if_pos h
section
variable {n d : Nat} {xs : Nat → Int32} {Q : am_Post}
theorem rel_0 {I1 I2 : Nat → Nat → Int32} (f : ar_fd (am_E2 xs) I1) (g : ar_mb am_t0 I1 I2) : am_Rel false I2 am_Jz ∧ ∀ j, I2 0 j = xs j := by
  obtain ⟨k1, k2, k3, k4, ⟨k5, k6⟩, k7, k8⟩ := g
  have hr : ∀ a, a ≠ 77 → a ≠ 79 → a ≠ 80 → a ≠ 81 → a ≠ 84 → I2 a = am_E2 xs a := fun a a1 a2 a3 a4 a5 => by rw [k1 a a1 a2 a4 a5, f.1 a a1 a3]
  have hz : ∀ a j, a ≠ 0 → a ≠ 77 → a ≠ 79 → a ≠ 80 → a ≠ 81 → a ≠ 84 → (j ≠ 9 ∨ (a ≠ 4 ∧ a ≠ 12)) → I2 a j = nI 0 := fun a j h0 a1 a2 a3 a4 a5 h => by rw [hr a a1 a2 a3 a4 a5]; exact rdz h0 h
  have h77 : I2 77 2 = nI 0 := by rw [k2 2 (by omega) (by omega), f.2 2 (by omega)]; exact rdz (by omega) (by omega)
  refine ⟨⟨4, am_t0, am_s0 am_t0, fun _ _ => 0, fun _ _ => 0, fun _ => 0, fun _ => 0, fun _ => 0, 0, 0, 0, 0, Or.inr ⟨rfl, rfl⟩, told_0, ⟨k7, ?_, ?_, ?_, ?_, fun e he => absurd he (by show ¬ e < 0; omega), fun c hc => absurd hc (by show ¬ c < 0; omega)⟩, ⟨k8, s0_ok told_0, ?_, ?_, ?_, fun e he => absurd he (by show ¬ e < 0; omega), fun q hq => ?_⟩, ⟨by omega, by omega, ?_, ?_, k3, fun i hi => absurd hi (by omega)⟩, fun q hq => Or.inl ⟨?_, ?_⟩, ⟨by omega, ?_, h77, fun j hj => absurd hj (by omega)⟩, ⟨by omega, ?_, k4, fun i hi => absurd hi (by omega)⟩, ⟨?_, ?_, fun s hs => ?_, fun e he => absurd he (by show ¬ e < 0; omega), fun e he s hs => ?_⟩, rfl⟩, fun j => ?_⟩
  · exact hz 4 0 (by omega) (by omega) (by omega) (by omega) (by omega) (by omega) (by omega)
  · exact hz 4 4 (by omega) (by omega) (by omega) (by omega) (by omega) (by omega) (by omega)
  · rw [hr 4 (by omega) (by omega) (by omega) (by omega) (by omega)]
    rfl
  · exact hz 4 10 (by omega) (by omega) (by omega) (by omega) (by omega) (by omega) (by omega)
  · rw [s00]; exact hz 20 0 (by omega) (by omega) (by omega) (by omega) (by omega) (by omega) (by omega)
  · rw [s00]; exact hz 20 1 (by omega) (by omega) (by omega) (by omega) (by omega) (by omega) (by omega)
  · rw [s00]; exact hz 20 2 (by omega) (by omega) (by omega) (by omega) (by omega) (by omega) (by omega)
  · rw [s00]; exact hz 22 q (by omega) (by omega) (by omega) (by omega) (by omega) (by omega) (by omega)
  · exact hz 23 1 (by omega) (by omega) (by omega) (by omega) (by omega) (by omega) (by omega)
  · exact hz 23 2 (by omega) (by omega) (by omega) (by omega) (by omega) (by omega) (by omega)
  · exact hz 56 q (by omega) (by omega) (by omega) (by omega) (by omega) (by omega) (by omega)
  · rcases (show q = 0 ∨ q = 1 by omega) with rfl | rfl
    · exact k5
    · exact k6
  · exact hz 2 1 (by omega) (by omega) (by omega) (by omega) (by omega) (by omega) (by omega)
  · exact hz 57 2 (by omega) (by omega) (by omega) (by omega) (by omega) (by omega) (by omega)
  · exact hz 60 0 (by omega) (by omega) (by omega) (by omega) (by omega) (by omega) (by omega)
  · exact hz 60 1 (by omega) (by omega) (by omega) (by omega) (by omega) (by omega) (by omega)
  · have hs1 : s < 1 := hs
    obtain rfl : s = 0 := by omega
    rw [soon_0 told_0]
    exact hz 61 0 (by omega) (by omega) (by omega) (by omega) (by omega) (by omega) (by omega)
  · have hs1 : s < 1 := hs
    have he1 : e ≤ 0 := he
    obtain rfl : s = 0 := by omega
    obtain rfl : e = 0 := by omega
    show I2 64 0 = nI 0
    exact hz 64 0 (by omega) (by omega) (by omega) (by omega) (by omega) (by omega) (by omega)
  · rw [hr 0 (by omega) (by omega) (by omega) (by omega) (by omega)]
    rfl
set_option maxRecDepth 100000 in
set_option maxHeartbeats 40000000 in
theorem c7_init (hq : ∀ I', am_Rel false I' am_Jz → (∀ j, I' 0 j = xs j) → Q none (am_sh n, I', am_Jz, am_Rf false)) : am_call (d + 9) m7_init [.ref 77] (am_sK n 78, am_E2 xs, am_Jz, am_RS 75) Q := by
  have hL : ar_Lm (fun _ => 0) 0 (am_E2 xs) := ⟨by omega, rdz (by omega) (by omega), fun _ => Nat.zero_le _, fun j hj => absurd hj (by omega)⟩
  simp (disch := omega) only [e7_init, s7_init_0, s7_init_1, s7_init_4, s7_init_5, s7_init_7, s7_init_9, s7_init_12, s7_init_13, s7_init_15, s7_init_17, s7_init_20, s7_init_21, s7_init_23, s7_init_25, s7_init_28, s7_init_29, s7_init_31, s7_init_33, s7_init_36, s7_init_37, s7_init_40, s7_init_42, s7_init_45, s7_init_46, s7_init_48, s7_init_50, s7_init_53, s7_init_54, s7_init_55, s7_init_57, s7_init_60, s7_init_61, s7_init_63, s7_init_65, s7_init_68, s7_init_69, s7_init_71, s7_init_73, s7_init_76, s7_init_77, s7_init_79, s7_init_81, s7_init_84, s7_init_85, s7_init_86, s7_init_88, s7_init_91, s7_init_92, s7_init_93, s7_init_95, s7_init_98, s7_init_99, s7_init_101, s7_init_103, s7_init_106, s7_init_107, s7_init_110, s7_init_111, s7_init_112, s7_init_115, am_k1_int, am_k1_ref, am_k1_none, am_cats_nil, am_cats_int, am_cats_ref, am_cats_long, Option.toList_some, Option.toList_none, List.singleton_append, List.nil_append, List.cons_append, true_and, and_true, if_true, if_false, va_rf, ↓reduceIte, Nat.reduceAdd, Nat.reduceMul, Nat.reduceSub, Nat.reduceLT, Nat.reduceLeDiff, Nat.reduceEqDiff, Nat.zero_le, Nat.add_zero, Nat.le_refl, nI_add, mul_nI, lt_nI, le_nI, eq_nI, bnd_nI, ci_nI, decide_eq_true_eq, decide_true, decide_false, Bool.true_or, Bool.or_true, Bool.or_false, Bool.false_or, not_true_eq_false, not_false_eq_true, Bool.false_eq_true, Bool.false_and, Bool.true_and, Bool.and_true, Bool.and_false, Bool.not_true, Bool.not_false, false_and, and_false, and_self, lnK, obK, ap_1, ap_2, ap_3, ap_4, ap_5, ap_6, ap_7, ap_8, ap_9, ap_10, ap_11, ap_12, ap_13, ap_14, ap_15, ap_16, ap_17, ap_18, ap_19, ap_20, ap_21, ap_22, ap_23, ap_24, ap_25, ap_26, ap_27, ap_28, ap_29, ap_30, ap_31, ap_32, ap_33, ap_34, ap_35, ap_36, ap_37, ap_38, ap_39, ap_40, ap_41, ap_42, ap_43, ap_44, ap_45, ap_46, ap_47, ap_48, ap_49, ap_50, ap_51, ap_52, ap_53, ap_54, ap_55, ap_56, ap_57, ap_58, ap_59, ap_60, ap_61, ap_62, ap_63, ap_69, ap_70, ap_71, ap_72, ap_73, ap_74, ap_75, ap_76, ap_77, ap_78, ap_79, ap_80, ap_81, ap_82, ap_83, ap_84, ap_85, ap_86, ap_87, ap_88, ap_89, ap_90, cr_1, cr_2, cr_3, cr_4, cr_5, cr_6, cr_7, cr_8, cr_9, cr_10, cr_11, cr_12, cr_13, cr_14, cr_15, cr_16, cr_17, cr_18, cr_19, cr_20, cr_21, cr_22, cr_23, cr_24, cr_25, cr_26, cr_27, cr_28, cr_29, cr_30, cr_31, cr_32, cr_33, cr_34, cr_35, cr_36, cr_37, cr_38, cr_39, cr_40, cr_41, cr_42, cr_43, cr_44, cr_45, cr_46, cr_47, cr_48, cr_49, cr_50, cr_51, cr_52, cr_53, cr_54, cr_55, cr_56, cr_57, cr_58, cr_59, cr_60, cr_61, cr_62, cr_63, cr_69, cr_70, cr_71, cr_72, cr_73, cr_74, cr_75, cr_76, cr_77, cr_78, cr_79, cr_80, cr_81, cr_82, cr_83, cr_84, cr_85, cr_86, cr_87, cr_88, cr_89, cr_90, us_0, us_1, us_2, us_3, us_4, us_5, us_6, us_7, us_8, us_9, us_10, us_11, us_12, us_13, us_14, us_15, us_16, us_17, us_18, us_19, us_20, us_21, us_22, us_23, us_24, us_25, us_26, us_27, us_28, us_29, us_30, us_31, us_32, us_33, us_34, us_35, us_36, us_37, us_38, us_39, us_40, us_41, us_42, us_43, us_44, us_45, us_46, us_47, us_48, us_49, us_50, us_51, us_52, us_53, us_54, us_55, us_56, us_57, us_58, us_59, mr_63, us_65, us_66, us_67, us_68, us_69, us_70, us_71, us_72, us_73, us_74, us_75, us_76, us_77, us_78, us_79, us_80, us_81, us_82, us_83, us_84, us_85, us_86, us_87, ob_77, rf_77_1, rf_77_3, rf_77_4, rf_77_5, rf_77_6, rf_77_8, rf_77_9, rf_77_10, rf_77_16, rf_77_17, rf_77_18, rf_77_19, rf_77_20, ib_78, rd_78, ib_79, rd_79, ib_80, rd_80, ib_81, rd_81, ib_82, rd_82, ib_83, rd_83, ib_84, ib_85, rd_85, ib_86, rd_86, ib_87, rd_87, ib_88, ib_89, rd_89, ib_90, rd_90, cutE2, cutJ, am_addc, ngI, sK_end, RS_end]
  refine c7_reads hL (fun I1 f1 f2 f3 => ?_)
  rw [pa_0] at f3 ⊢
  simp (disch := omega) only [e7_init, s7_init_0, s7_init_1, s7_init_4, s7_init_5, s7_init_7, s7_init_9, s7_init_12, s7_init_13, s7_init_15, s7_init_17, s7_init_20, s7_init_21, s7_init_23, s7_init_25, s7_init_28, s7_init_29, s7_init_31, s7_init_33, s7_init_36, s7_init_37, s7_init_40, s7_init_42, s7_init_45, s7_init_46, s7_init_48, s7_init_50, s7_init_53, s7_init_54, s7_init_55, s7_init_57, s7_init_60, s7_init_61, s7_init_63, s7_init_65, s7_init_68, s7_init_69, s7_init_71, s7_init_73, s7_init_76, s7_init_77, s7_init_79, s7_init_81, s7_init_84, s7_init_85, s7_init_86, s7_init_88, s7_init_91, s7_init_92, s7_init_93, s7_init_95, s7_init_98, s7_init_99, s7_init_101, s7_init_103, s7_init_106, s7_init_107, s7_init_110, s7_init_111, s7_init_112, s7_init_115, am_k1_int, am_k1_ref, am_k1_none, am_cats_nil, am_cats_int, am_cats_ref, am_cats_long, Option.toList_some, Option.toList_none, List.singleton_append, List.nil_append, List.cons_append, true_and, and_true, if_true, if_false, va_rf, ↓reduceIte, Nat.reduceAdd, Nat.reduceMul, Nat.reduceSub, Nat.reduceLT, Nat.reduceLeDiff, Nat.reduceEqDiff, Nat.zero_le, Nat.add_zero, Nat.le_refl, nI_add, mul_nI, lt_nI, le_nI, eq_nI, bnd_nI, ci_nI, decide_eq_true_eq, decide_true, decide_false, Bool.true_or, Bool.or_true, Bool.or_false, Bool.false_or, not_true_eq_false, not_false_eq_true, Bool.false_eq_true, Bool.false_and, Bool.true_and, Bool.and_true, Bool.and_false, Bool.not_true, Bool.not_false, false_and, and_false, and_self, ob_77, rf_77_1, rf_77_3, rf_77_4, rf_77_5, rf_77_6, rf_77_8, rf_77_9, rf_77_10, rf_77_16, rf_77_17, rf_77_18, rf_77_19, rf_77_20, ib_78, rd_78, ib_79, rd_79, ib_80, rd_80, ib_81, rd_81, ib_82, rd_82, ib_83, rd_83, ib_84, ib_85, rd_85, ib_86, rd_86, ib_87, rd_87, ib_88, ib_89, rd_89, ib_90, rd_90, Value.category]
  refine c7_begins (f3 rfl) (fun I2 g => ?_)
  obtain ⟨r1, r2⟩ := rel_0 f1 g
  simp (disch := omega) only [e7_init, s7_init_0, s7_init_1, s7_init_4, s7_init_5, s7_init_7, s7_init_9, s7_init_12, s7_init_13, s7_init_15, s7_init_17, s7_init_20, s7_init_21, s7_init_23, s7_init_25, s7_init_28, s7_init_29, s7_init_31, s7_init_33, s7_init_36, s7_init_37, s7_init_40, s7_init_42, s7_init_45, s7_init_46, s7_init_48, s7_init_50, s7_init_53, s7_init_54, s7_init_55, s7_init_57, s7_init_60, s7_init_61, s7_init_63, s7_init_65, s7_init_68, s7_init_69, s7_init_71, s7_init_73, s7_init_76, s7_init_77, s7_init_79, s7_init_81, s7_init_84, s7_init_85, s7_init_86, s7_init_88, s7_init_91, s7_init_92, s7_init_93, s7_init_95, s7_init_98, s7_init_99, s7_init_101, s7_init_103, s7_init_106, s7_init_107, s7_init_110, s7_init_111, s7_init_112, s7_init_115, am_k1_int, am_k1_ref, am_k1_none, am_cats_nil, am_cats_int, am_cats_ref, am_cats_long, Option.toList_some, Option.toList_none, List.singleton_append, List.nil_append, List.cons_append, true_and, and_true, if_true, if_false, va_rf, ↓reduceIte, Nat.reduceAdd, Nat.reduceMul, Nat.reduceSub, Nat.reduceLT, Nat.reduceLeDiff, Nat.reduceEqDiff, Nat.zero_le, Nat.add_zero, Nat.le_refl, nI_add, mul_nI, lt_nI, le_nI, eq_nI, bnd_nI, ci_nI, decide_eq_true_eq, decide_true, decide_false, Bool.true_or, Bool.or_true, Bool.or_false, Bool.false_or, not_true_eq_false, not_false_eq_true, Bool.false_eq_true, Bool.false_and, Bool.true_and, Bool.and_true, Bool.and_false, Bool.not_true, Bool.not_false, false_and, and_false, and_self]
  exact hq I2 r1 r2
end
