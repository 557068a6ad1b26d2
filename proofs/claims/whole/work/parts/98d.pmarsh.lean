/-! marsh -/
theorem T_fr2 {T : Nat} {tn : Nat → Nat} {I I' : Nat → Nat → Int32} (h79 : I' 79 = I 79) (h : ∀ a, T ≤ a → a ≤ T + 7 → I' a = I a) (hA : ar_T T tn I) : ar_T T tn I' := by
  unfold ar_T at *
  rw [h79, h T (by omega) (by omega), h (T + 1) (by omega) (by omega), h (T + 2) (by omega) (by omega), h (T + 3) (by omega) (by omega), h (T + 4) (by omega) (by omega), h (T + 5) (by omega) (by omega), h (T + 6) (by omega) (by omega), h (T + 7) (by omega) (by omega)]
  exact hA
theorem s0_ok {tn : Nat → Nat} (hO : ar_told tn) : ar_ok tn (am_s0 tn) := by
  have h0 : ∀ j, ¬ (3 ≤ j ∧ j ≤ 6) → am_s0 tn j = 0 := fun j h => if_neg h
  refine ⟨fun j => ?_, ?_, ?_, fun c hc => ?_⟩
  · by_cases h : 3 ≤ j ∧ j ≤ 6
    · have := (hO.2.2.2.2.1 (j - 3) (by omega)).1
      rw [show am_s0 tn j = tn (6 + j - 3) from if_pos h, show 6 + j - 3 = 6 + (j - 3) by omega]
      omega
    · rw [h0 j h]; omega
  · rw [h0 0 (by omega)]; omega
  · rw [h0 2 (by omega)]; exact Nat.two_pow_pos _
  · rw [h0 _ (by omega), h0 _ (by omega), h0 _ (by omega), h0 _ (by omega)]; omega
section
variable {n d : Nat}
set_option maxHeartbeats 4000000 in
theorem p_marsh : am_pr n (d + 8) m6_marsh m7_marsh [.ref 1] [.ref 77] := by
  intro sw I J hR
  obtain ⟨T, tn, sn, pn, im, tx0, fm, fi, nx, m, ln, pm, hT, hO, hA, hS, hP, hI, hX, hF, hC, hJ⟩ := id hR
  have hT4 := tbr_or hT
  obtain ⟨x1, x2, x3, x4⟩ := id hX
  obtain ⟨tx, htx⟩ : ∃ tx : Nat → Nat, tx = fun j => if j < ln then tx0 j else 0 := ⟨_, rfl⟩
  have hxb : ∀ p, tx p ≤ 255 := fun p => by
    rw [htx]
    show (if p < ln then tx0 p else 0) ≤ 255
    by_cases h : p < ln
    · rw [if_pos h]; exact (x4 p h).2.2
    · rw [if_neg h]; omega
  have hxe : ∀ j, j < ln → tx j = tx0 j := fun j hj => by
    rw [htx]
    exact if_pos hj
  have hL : ar_L tx ln I := ⟨x1, x2, hxb, fun j hj => by rw [hxe j hj]; exact (x4 j hj).1⟩
  have hLm : ar_Lm tx ln I := ⟨x1, x3, hxb, fun j hj => by rw [hxe j hj]; exact (x4 j hj).2.1⟩
  refine c6_marsh (d := d) hT rfl hL (fun hb I1 f1 f2 => ?_) (fun hb I1 I2 J2 f1 f2 f3 f4 => ?_)
  · have hLm1 : ar_Lm tx ln I1 := ⟨x1, by rw [f1 77 (by omega) (by omega)]; exact x3, hxb, fun j hj => by rw [f1 78 (by omega) (by omega)]; exact hLm.2.2.2 j hj⟩
    refine c7_marsh (d := d) hLm1 (fun _ I2 g => ?_) (fun hb2 => absurd (hb.symm.trans hb2) Bool.false_ne_true)
    have hr : ∀ a, a ≠ 2 → a ≠ 77 → a ≠ 80 → (a < 16 - T ∨ 16 - T + 7 < a) → I2 a = I a := fun a a1 a2 a3 a4 => by rw [g.1 a a2 a3, f1 a a1 a4]
    have h77 : ∀ j, j < 12 ∨ 15 < j → I2 77 j = I 77 j := fun j hj => by rw [g.2 j hj, f1 77 (by omega) (by omega)]
    have h21 : I2 2 1 = I 2 1 := by rw [g.1 2 (by omega) (by omega), f2, x2]
    refine ⟨rfl, ⟨_, rfl⟩, sw, I2, J, rfl, fun j => by rw [hr 0 (by omega) (by omega) (by omega) (by omega)], T, tn, sn, pn, im, tx0, fm, fi, nx, m, ln, pm, hT, hO, T_fr2 (hr 79 (by omega) (by omega) (by omega) (by omega)) (fun a a1 a2 => hr a (by omega) (by omega) (by omega) (by omega)) hA, fr_S_ ⟨?_, ?_, ?_, ?_⟩ hS, fr_P_ ⟨?_, h77 7 (by omega), ?_, ?_⟩ hP, fr_I_ ⟨?_, ?_, ?_, ?_⟩ hI, fr_X_ ⟨h21, h77 2 (by omega), ?_, ?_⟩ hX, fr_F_ ⟨?_, h77 11 (by omega), ?_, ?_, ?_⟩ hF, fr_C_ hO ⟨?_, ?_, ?_, ?_⟩ hC, hJ⟩
    all_goals (intros; rw [hr _ (by omega) (by omega) (by omega) (by omega)])
  · have hto := pa_ok hxb x1 121 0 am_t0 (by omega) (by omega) told_0 (by decide) (by decide) hb
    obtain ⟨tn2, htn2⟩ : ∃ tn2, tn2 = (am_pa tx ln 121 0 am_t0).2.2 := ⟨_, rfl⟩
    rw [← htn2] at hto f3 f4
    obtain ⟨T2, hT2⟩ : ∃ T2, T2 = 16 - T := ⟨_, rfl⟩
    rw [← hT2] at f1 f3 f4
    have hT2' : T2 = 4 ∨ T2 = 12 := by omega
    have hTn : am_tbr (!sw) T2 := by
      rcases hT with ⟨rfl, rfl⟩ | ⟨rfl, rfl⟩
      · exact Or.inr ⟨rfl, hT2⟩
      · exact Or.inl ⟨rfl, hT2⟩
    obtain ⟨b1, ⟨b2, b3, b4⟩, b5, b6, b7, b8, b9, ⟨b10, b11⟩, b12, b13⟩ := f4
    have hLm2 : ar_Lm tx ln I2 := ⟨x1, by rw [b1 77 (by omega) (by omega) (by omega) (by omega), f1 77 (by omega) (by omega)]; exact x3, hxb, fun j hj => by rw [b1 78 (by omega) (by omega) (by omega) (by omega), f1 78 (by omega) (by omega)]; exact hLm.2.2.2 j hj⟩
    refine c7_marsh (d := d) hLm2 (fun hb2 => absurd (hb2.symm.trans hb) Bool.false_ne_true) (fun _ I3 I4 g1 g2 => ?_)
    rw [← htn2] at g2
    obtain ⟨k1, k2, k3, k4, ⟨k5, k6⟩, k7, k8⟩ := g2
    obtain ⟨F, hFe⟩ : ∃ F, F = am_up I4 77 2 (nI 0) := ⟨_, rfl⟩
    rw [← hFe]
    have hr : ∀ a, a ≠ 77 → a ≠ 79 → a ≠ 80 → a ≠ 81 → a ≠ 84 → F a = I2 a := fun a a1 a2 a3 a4 a5 => by rw [hFe, am_up_ne a1, k1 a a1 a2 a4 a5, g1.1 a a1 a3]
    have hr1 : ∀ a, T2 ≤ a → a ≤ T2 + 7 → F a = I1 a := fun a a1 a2 => by rw [hr a (by omega) (by omega) (by omega) (by omega) (by omega), b1 a (by omega) (by omega) (by omega) (by omega)]
    have h0 : ∀ j, ¬ (3 ≤ j ∧ j ≤ 6) → am_s0 tn2 j = 0 := fun j h => if_neg h
    have n79 : ∀ j, j < 42 → F 79 j = nI (tn2 j) := fun j hj => by rw [hFe, am_up_ne (by omega)]; exact k7 j hj
    have hAn : ar_T T2 tn2 F := by
      unfold ar_Tq at f3
      unfold ar_T
      rw [hr1 T2 (by omega) (by omega), hr1 (T2 + 1) (by omega) (by omega), hr1 (T2 + 2) (by omega) (by omega), hr1 (T2 + 3) (by omega) (by omega), hr1 (T2 + 4) (by omega) (by omega), hr1 (T2 + 5) (by omega) (by omega), hr1 (T2 + 6) (by omega) (by omega), hr1 (T2 + 7) (by omega) (by omega)]
      exact ⟨n79, f3.2⟩
    have hSn : ar_S tn2 (am_s0 tn2) F := by
      refine ⟨fun j hj => by rw [hFe, am_up_ne (by omega)]; exact k8 j hj, s0_ok hto, ?_, ?_, ?_, fun e he => ?_, fun q hq => ?_⟩
      · rw [hr 20 (by omega) (by omega) (by omega) (by omega) (by omega), b2, h0 0 (by omega)]
      · rw [hr 20 (by omega) (by omega) (by omega) (by omega) (by omega), b3, h0 1 (by omega)]
      · rw [hr 20 (by omega) (by omega) (by omega) (by omega) (by omega), b4, h0 2 (by omega)]
      · have o1 := hto.1
        rw [hr 21 (by omega) (by omega) (by omega) (by omega) (by omega), b5 e (by omega), (f3.2.2.2.2.2.1 e he).1]
        exact congrArg nI (show tn2 (6 + e) = am_s0 tn2 (3 + e) by
          rw [show am_s0 tn2 (3 + e) = tn2 (6 + (3 + e) - 3) from if_pos (by omega), show 6 + (3 + e) - 3 = 6 + e by omega])
      · rw [hr 22 (by omega) (by omega) (by omega) (by omega) (by omega), b6 q hq, h0 _ (by omega)]
    refine ⟨rfl, ⟨_, rfl⟩, !sw, F, J2, rfl, fun j => ?_, T2, tn2, am_s0 tn2, pn, im, tx, fm, fi, nx, 0, 0, 0, hTn, hto, hAn, hSn, ⟨by omega, hP.2.1, ?_, ?_, ?_, fun i hi => absurd hi (by omega)⟩, fun q hq => Or.inl ⟨?_, ?_⟩, ⟨by omega, ?_, ?_, fun j hj => absurd hj (by omega)⟩, ⟨by omega, ?_, ?_, fun i hi => absurd hi (by omega)⟩, fr_C_ hto ⟨?_, ?_, ?_, ?_⟩ b13, ?_⟩
    · rw [hr 0 (by omega) (by omega) (by omega) (by omega) (by omega), b1 0 (by omega) (by omega) (by omega) (by omega), f1 0 (by omega) (by omega)]
    · rw [hr 23 (by omega) (by omega) (by omega) (by omega) (by omega), b7, f1 23 (by omega) (by omega)]; exact hP.2.2.1
    · rw [hr 23 (by omega) (by omega) (by omega) (by omega) (by omega)]; exact b8
    · rw [hFe, up_n (by omega)]; exact k3
    · rw [hr 56 (by omega) (by omega) (by omega) (by omega) (by omega)]
      rcases (show q = 0 ∨ q = 1 by omega) with rfl | rfl
      · exact b10
      · exact b11
    · rw [hFe, am_up_ne (by omega)]
      rcases (show q = 0 ∨ q = 1 by omega) with rfl | rfl
      · exact k5
      · exact k6
    · rw [hr 2 (by omega) (by omega) (by omega) (by omega) (by omega), b1 2 (by omega) (by omega) (by omega) (by omega)]; exact f2
    · rw [hFe, up_s]
    · rw [hr 57 (by omega) (by omega) (by omega) (by omega) (by omega)]; exact b9
    · rw [hFe, up_n (by omega)]; exact k4
    · rw [hr 60 (by omega) (by omega) (by omega) (by omega) (by omega)]
    · rw [hr 60 (by omega) (by omega) (by omega) (by omega) (by omega)]
    · rw [hr 61 (by omega) (by omega) (by omega) (by omega) (by omega)]
    · intro a a1 a2
      rw [hr a (by omega) (by omega) (by omega) (by omega) (by omega)]
    · rw [b12 1 (by omega), b12 77 (by omega)]; exact hJ
end
