section
variable {n d : Nat} {tn : Nat → Nat} {J : Nat → Nat → Int64} {sw : Bool} {F U : Nat}
theorem c0_dawnTold {c : Nat} {I : Nat → Nat → Int32} {Q : am_Post} (hO : ar_told tn) (hC : ar_C tn I J) (hF : F ≤ tn 0) (hU : U < 2 ^ tn 1) (hc : c < tn 1) (hq : ∀ I' x, (∀ a, a ≠ 69 → a ≠ 70 → I' a = I a) → x < am_W (tn 0 - F + 1) U (tn 1) (tn 1) → am_oT tn F U x → (∀ z, z < x → ¬ am_oT tn F U z) → Q (some (.int (am_dvo F (tn 0 - F) (am_dg (tn 0 - F) U (tn 1) x c)))) (am_sh n, I', J, am_Rf sw)) : am_call (d + tn 1 + 4) m0_dawnTold [.ref 60, .int (nI F), .int (nI U), .int (nI c)] (am_sh n, I, J, am_Rf sw) Q := by
  have o1 := hO.1
  have o2 := hO.2.1
  have p6 := (pow2_6 o2).1
  have hc6 : c < 6 := by omega
  have hU64 : U < 64 := by omega
  have hF5 : F < 5 := by omega
  have z1 : (0 : Nat) < 69 := by decide
  have hmv := hC.2.2.2.2 F hF U hU
  obtain ⟨r1, r2, -⟩ := rf_63 hF5 sw n
  have hWp := W_pos (ch := tn 0 - F + 1) (U := U) (n := tn 1) (by omega) (tn 1)
  obtain ⟨I2, hI2⟩ : ∃ I2, I2 = am_up (am_up (am_up (am_up I 69 0 (nI 0)) 69 1 (nI 0)) 69 2 (nI 0)) 69 3 (nI 0) := ⟨_, rfl⟩
  have i1 : ∀ q, q ≠ 69 → I2 q = I q := fun q q1 => by rw [hI2, am_up_ne q1, am_up_ne q1, am_up_ne q1, am_up_ne q1]
  have i69 : ∀ q, q < 4 → I2 69 q = nI 0 := fun q hq4 => by
    rw [hI2]
    rcases (show q = 0 ∨ q = 1 ∨ q = 2 ∨ q = 3 by omega) with rfl | rfl | rfl | rfl
    · rw [up_n (by omega), up_n (by omega), up_n (by omega), up_s]
    · rw [up_n (by omega), up_n (by omega), up_s]
    · rw [up_n (by omega), up_s]
    · rw [up_s]
  have hmv2 : I2 (64 + F) U = nI (am_most tn F U) := by rw [i1 _ (by omega)]; exact hmv
  have hC2 : ar_C tn I2 J := fr_C_ hO ⟨by rw [i1 _ (by decide)], by rw [i1 _ (by decide)], by rw [i1 _ (by decide)], fun q q1 q2 => by rw [i1 _ (by omega)]⟩ hC
  have hl : ar_tl tn F U (tn 1) 0 0 (fun _ => 0) := ⟨by omega, fun x hx k hk => absurd hk (by omega), fun k hk => absurd hk (by omega), fun j hj => can_0 hO _⟩
  have hcall := c0_tell (n := n) (d := d) (J := J) (sw := sw) hO hF hU (tn 1) 0 0 U (fun _ => 0) I2 (fun v M' => am_wp (d + tn 1 + 3) m0_dawnTold 38 [some (.ref 60), some (.int (nI F)), some (.int (nI U)), some (.int (nI c)), some (.int (nI 4))] (v.toList ++ []) M' Q) hC2 hl hU (fun k hk => by simp) (fun j hj => i69 _ (by omega)) (fun b I3 hte => by
    obtain ⟨t1, t2, t3, t4⟩ := hte
    cases b with
    | true =>
      obtain ⟨x, x1, x2, x3, x4⟩ := t3 rfl
      have hxW : x < am_W (tn 0 - F + 1) U (tn 1) (tn 1) := (Nat.div_eq_zero_iff_lt (by omega)).mp x1
      have hfin := hq I3 x (fun q q1 q2 => by rw [t1 q q1 q2]; exact i1 q q1) hxW x2 (fun z hz => x3 z hz (Nat.div_eq_of_lt (by omega)))
      rw [← x4 c (by omega) hc] at hfin
      simp (disch := omega) only [s0_dawnTold_0, s0_dawnTold_1, s0_dawnTold_3, s0_dawnTold_5, s0_dawnTold_6, s0_dawnTold_9, s0_dawnTold_10, s0_dawnTold_13, s0_dawnTold_15, s0_dawnTold_16, s0_dawnTold_17, s0_dawnTold_20, s0_dawnTold_23, s0_dawnTold_24, s0_dawnTold_25, s0_dawnTold_26, s0_dawnTold_27, s0_dawnTold_28, s0_dawnTold_31, s0_dawnTold_32, s0_dawnTold_33, s0_dawnTold_34, s0_dawnTold_35, s0_dawnTold_38, s0_dawnTold_41, s0_dawnTold_42, s0_dawnTold_45, s0_dawnTold_46, s0_dawnTold_47, s0_dawnTold_50, s0_dawnTold_52, am_k1_int, am_k1_ref, am_k1_none, am_cats_nil, am_cats_int, am_cats_ref, am_cats_long, Option.toList_some, Option.toList_none, List.singleton_append, List.nil_append, List.cons_append, true_and, and_true, if_true, if_false, va_rf, ↓reduceIte, Nat.reduceAdd, Nat.reduceMul, Nat.reduceSub, Nat.reduceLT, Nat.reduceLeDiff, Nat.reduceEqDiff, Nat.zero_le, Nat.add_zero, Nat.le_refl, nI_add, mul_nI, lt_nI, le_nI, eq_nI, bnd_nI, ci_nI, decide_eq_true_eq, decide_true, decide_false, Bool.true_or, Bool.or_true, Bool.or_false, Bool.false_or, not_true_eq_false, not_false_eq_true, Bool.false_eq_true, Bool.false_and, Bool.true_and, Bool.and_true, Bool.and_false, Bool.not_true, Bool.not_false, false_and, and_false, and_self, ob_60, rf_60_2, rf_60_3, rf_60_4, rf_60_5, rf_60_6, ib_70, rd_70, bi_t, ite_bi2, hc6]
      exact hfin
    | false =>
      obtain ⟨x3, x4⟩ := t4 rfl
      obtain ⟨x, x1, x2, x5⟩ := mn_at hO hF hU
      exact absurd ⟨x2, by omega⟩ (x3 x x1))
  rw [show am_ct (fun _ => 0) (tn 0 - F) 0 = 0 from rfl, Nat.sub_zero] at hcall
  show am_call ((d + tn 1 + 3) + 1) m0_dawnTold _ _ _
  simp (disch := omega) only [e0_dawnTold, s0_dawnTold_0, s0_dawnTold_1, s0_dawnTold_3, s0_dawnTold_5, s0_dawnTold_6, s0_dawnTold_9, s0_dawnTold_10, s0_dawnTold_13, s0_dawnTold_15, s0_dawnTold_16, s0_dawnTold_17, s0_dawnTold_20, s0_dawnTold_23, s0_dawnTold_24, s0_dawnTold_25, s0_dawnTold_26, s0_dawnTold_27, s0_dawnTold_28, s0_dawnTold_31, s0_dawnTold_32, s0_dawnTold_33, s0_dawnTold_34, s0_dawnTold_35, s0_dawnTold_38, s0_dawnTold_41, s0_dawnTold_42, s0_dawnTold_45, s0_dawnTold_46, s0_dawnTold_47, s0_dawnTold_50, s0_dawnTold_52, am_k1_int, am_k1_ref, am_k1_none, am_cats_nil, am_cats_int, am_cats_ref, am_cats_long, Option.toList_some, Option.toList_none, List.singleton_append, List.nil_append, List.cons_append, true_and, and_true, if_true, if_false, va_rf, ↓reduceIte, Nat.reduceAdd, Nat.reduceMul, Nat.reduceSub, Nat.reduceLT, Nat.reduceLeDiff, Nat.reduceEqDiff, Nat.zero_le, Nat.add_zero, Nat.le_refl, nI_add, mul_nI, lt_nI, le_nI, eq_nI, bnd_nI, ci_nI, decide_eq_true_eq, decide_true, decide_false, Bool.true_or, Bool.or_true, Bool.or_false, Bool.false_or, not_true_eq_false, not_false_eq_true, Bool.false_eq_true, Bool.false_and, Bool.true_and, Bool.and_true, Bool.and_false, Bool.not_true, Bool.not_false, false_and, and_false, and_self, ob_60, rf_60_2, rf_60_3, rf_60_4, rf_60_5, rf_60_6, ib_63, ix_63, rf_63_0, rf_63_1, rf_63_2, rf_63_3, rf_63_4, ib_69, rd_69, z1, hF5, r1, r2, hU64, up_n, hmv, hmv2, ← hI2]
  exact hcall
end
