def ar_pk (pn : Nat → Nat → Nat) (sn : Nat → Nat) (m : Nat) : Nat → Nat → Nat := fun i => if m = 10 then (if i = 9 then sn else pn (i + 1)) else (if i = m then sn else pn i)
theorem P_keep {tn sn : Nat → Nat} {pn : Nat → Nat → Nat} {nx m : Nat} {I I' : Nat → Nat → Int32} (o1 : tn 0 ≤ 4) (hP : ar_P tn pn nx m I) (hS : ar_S tn sn I) (h1 : I' 23 1 = nI ((nx + 1) % 10)) (h2 : I' 23 2 = nI (min (m + 1) 10)) (h3 : I' 77 7 = nI (min (m + 1) 10)) (h4 : I' 82 = am_kp I m) (h5 : ∀ a, 25 ≤ a → a ≤ 54 → I' a = am_bec I (25 + 3 * nx) 20 a) : ar_P tn (ar_pk pn sn m) ((nx + 1) % 10) (min (m + 1) 10) I' := by
  obtain ⟨p0, p1, p2, p3, p4, p5⟩ := hP
  obtain ⟨r1, r2, r3, r4⟩ := rf_24 (sw := true) p1
  have hnew : ar_eq (tn 0) I' (25 + 3 * nx) sn := eq_fr (h5 _ (by omega) (by omega)) (h5 _ (by omega) (by omega)) (h5 _ (by omega) (by omega)) (eq_bec o1 r2 st20 hS.2.2)
  refine ⟨by omega, Nat.mod_lt _ (by decide), h1, h2, h3, fun i hi => ?_⟩
  unfold ar_pk
  by_cases hm : m = 10
  · subst hm
    rw [if_pos rfl]
    have e10 : min (10 + 1) 10 = 10 := rfl
    rw [e10]
    have hkp : am_kp I 10 = va_cpy (I 81) (va_cpy (I 82) (I 82) 31 0 279) 0 279 31 := if_pos rfl
    by_cases hi9 : i = 9
    · subst hi9
      rw [if_pos rfl, show ar_pl ((nx + 1) % 10) 10 9 = 25 + 3 * nx by unfold ar_pl; omega]
      refine ⟨fun j hj => ?_, hS.2.1, hnew⟩
      rw [h4, hkp, show 31 * 9 + j = 279 + j by omega, cpy_in hj, Nat.zero_add]
      exact hS.1 j hj
    · rw [if_neg hi9]
      obtain ⟨j3, j4, j5⟩ := p5 (i + 1) (by omega)
      have e1 : ar_pl ((nx + 1) % 10) 10 i = ar_pl nx 10 (i + 1) := by unfold ar_pl; omega
      have hlo : 25 ≤ ar_pl nx 10 (i + 1) := by unfold ar_pl; omega
      have hhi : ar_pl nx 10 (i + 1) + 2 ≤ 54 := by unfold ar_pl; omega
      have hne : ∃ k, ar_pl nx 10 (i + 1) = 25 + 3 * k ∧ k ≠ nx := ⟨_, rfl, by omega⟩
      obtain ⟨k, hk, hkn⟩ := hne
      rw [e1]
      refine ⟨fun j hj => ?_, j4, eq_fr ?_ ?_ ?_ j5⟩
      · rw [h4, hkp, cpy_out (by omega), cpy_in0 (by omega), show 31 + (31 * i + j) = 31 * (i + 1) + j by omega]
        exact j3 j hj
      · rw [h5 _ (by omega) (by omega), bec_row (by omega) (by omega) (by omega)]
      · rw [h5 _ (by omega) (by omega), bec_row (by omega) (by omega) (by omega)]
      · rw [h5 _ (by omega) (by omega), bec_row (by omega) (by omega) (by omega)]
  · rw [if_neg hm]
    have e10 : min (m + 1) 10 = m + 1 := by omega
    rw [e10] at hi ⊢
    have hkp : am_kp I m = va_cpy (I 81) (I 82) 0 (31 * m) 31 := if_neg hm
    by_cases him : i = m
    · subst him
      rw [if_pos rfl, show ar_pl ((nx + 1) % 10) (i + 1) i = 25 + 3 * nx by unfold ar_pl; omega]
      refine ⟨fun j hj => ?_, hS.2.1, hnew⟩
      rw [h4, hkp, cpy_in hj, Nat.zero_add]
      exact hS.1 j hj
    · rw [if_neg him]
      obtain ⟨j3, j4, j5⟩ := p5 i (by omega)
      have e1 : ar_pl ((nx + 1) % 10) (m + 1) i = ar_pl nx m i := by unfold ar_pl; omega
      have hlo : 25 ≤ ar_pl nx m i := by unfold ar_pl; omega
      have hhi : ar_pl nx m i + 2 ≤ 54 := by unfold ar_pl; omega
      have hne : ∃ k, ar_pl nx m i = 25 + 3 * k ∧ k ≠ nx := ⟨_, rfl, by omega⟩
      obtain ⟨k, hk, hkn⟩ := hne
      rw [e1]
      refine ⟨fun j hj => ?_, j4, eq_fr ?_ ?_ ?_ j5⟩
      · rw [h4, hkp, cpy_out (by omega)]
        exact j3 j hj
      · rw [h5 _ (by omega) (by omega), bec_row (by omega) (by omega) (by omega)]
      · rw [h5 _ (by omega) (by omega), bec_row (by omega) (by omega) (by omega)]
      · rw [h5 _ (by omega) (by omega), bec_row (by omega) (by omega) (by omega)]
theorem kp_fr {I I' : Nat → Nat → Int32} {m : Nat} (h1 : I' 81 = I 81) (h2 : I' 82 = I 82) : am_kp I' m = am_kp I m := by
  unfold am_kp
  rw [h1, h2]
theorem dec_nI {a b : Nat} (ha : a < 2147483648) (hb : b < 2147483648) : decide (nI a = nI b) = decide (a = b) := by
  rw [decide_eq_decide]
  exact eq_nI ha hb
theorem su_T {tn : Nat → Nat} {I : Nat → Nat → Int32} {T c e : Nat} (hO : ar_told tn) (hA : ar_T T tn I) (hc : c < tn 1) (he : e < tn 0) : am_su I T e c = am_suN tn e c := by
  obtain ⟨o1, o2, o3, o4, o5, o6, o7, o8, o9⟩ := hO
  obtain ⟨a1, a2, a3, a4, a5, a6, a7⟩ := hA
  have v1 := o7 c (by omega)
  have v2 := o5 e (by omega)
  unfold am_su am_suN
  rw [(a7 c hc).2.2.1, (a6 e he).2.1, dec_nI (by omega) (by omega), dec_nI (by omega) (by omega)]
theorem su_M {tn : Nat → Nat} {I : Nat → Nat → Int32} {T c e : Nat} (hO : ar_told tn) (hA : ar_T T tn I) (hc : c < 6) (he : e < 4) : (decide (I 79 (30 + c) = nI 3) || decide (I 79 (30 + c) = I 79 (10 + e))) = am_suN tn e c := by
  obtain ⟨o1, o2, o3, o4, o5, o6, o7, o8, o9⟩ := hO
  obtain ⟨a1, a2, a3, a4, a5, a6, a7⟩ := hA
  have v1 := o7 c (by omega)
  have v2 := o5 e (by omega)
  unfold am_suN
  rw [a1 (30 + c) (by omega), a1 (10 + e) (by omega), dec_nI (by omega) (by omega), dec_nI (by omega) (by omega)]
theorem mcut_val {tn sn : Nat → Nat} {I : Nat → Nat → Int32} {T c k : Nat} (hO : ar_told tn) (hA : ar_T T tn I) (hS : ar_S tn sn I) (hc : c < tn 1) (hk : k ≤ 12) (hw : sn 0 < tn 0) : am_mcut I T (tn 0) c (nI k) = (!(sn 2).testBit c && (am_suN tn (sn 0) c && (decide (k ≤ sn (3 + sn 0)) && (decide (ar_y sn c + k ≤ tn (24 + c)) && decide (sn 1 + k ≤ tn (14 + sn 0)))))) := by
  have o1 := hO.1
  have o2 := hO.2.1
  have hc6 : c < 6 := by omega
  obtain ⟨a1, a2, a3, a4, a5, a6, a7⟩ := id hA
  obtain ⟨s1, s2, s3, s4, s5, s6, s7⟩ := id hS
  have b1 := s2.1 0
  have b2 := s2.1 1
  have b3 := s2.1 2
  have b4 := s2.1 (3 + sn 0)
  have hsu := su_T hO hA hc hw
  obtain ⟨y1, -, y3⟩ := S_yds hS hc6
  have t1 := (a7 c hc).2.1
  have t2 := (a6 (sn 0) hw).2.2
  have t3 := hO.2.2.2.2.2.2.1 c hc6
  have t4 := hO.2.2.2.2.1 (sn 0) (by omega)
  unfold am_mcut
  rw [s3, ci_nI (by omega), bnd_nI (by omega), s5, isb_nI (by omega) (by omega), hsu, s6 (sn 0) hw, y1, s4, t1, t2, nI_add, nI_add]
  simp only [le_nI (show k < 2147483648 by omega) (show sn (3 + sn 0) < 2147483648 by omega), le_nI (show ar_y sn c + k < 2147483648 by omega) (show tn (24 + c) < 2147483648 by omega), le_nI (show sn 1 + k < 2147483648 by omega) (show tn (14 + sn 0) < 2147483648 by omega), hw, decide_true, Bool.true_and]
