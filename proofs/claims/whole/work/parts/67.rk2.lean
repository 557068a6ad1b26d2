theorem rk_sn {tn tab : Nat → Nat} {x : Nat} (hO : ar_told tn) (h0 : x ≠ 0) (hx : x < 64) (hB : ∀ y, y < x → tab y ≤ 2000) : ∀ m, m ≤ tn 1 → (am_sn1 tn tab x m = 0 ∧ am_rk1 tn 0 0 tab x m = 6000 ∧ ∀ c, c < m → x.testBit c = false) ∨ (am_sn1 tn tab x m ≠ 0 ∧ am_rk1 tn 0 0 tab x m = am_sn1 tn tab x m)
  | 0, _ => Or.inl ⟨rfl, if_neg h0, fun c hc => absurd hc (by omega)⟩
  | m + 1, hm => by
    have ih := rk_sn hO h0 hx hB m (by omega)
    have o2 := hO.2.1
    have hsew := (hO.2.2.2.2.2.2.2.1 m (by omega)).2
    have hsew2 := (hO.2.2.2.2.2.2.1 m (by omega)).2.2.2
    have hn := need_le hO x
    simp only [am_sn1, am_rk1]
    by_cases hb : x.testBit m = true
    · have ht := hB _ (wo_less hx (by omega) hb)
      have hc : x.testBit m = true ∧ (0 : Nat).testBit m = false ∧ am_wo x m &&& 0 = 0 := ⟨hb, Nat.zero_testBit m, Nat.and_zero _⟩
      rw [if_pos hb, if_pos hc]
      refine Or.inr ?_
      rcases ih with ⟨i1, i2, -⟩ | ⟨i1, i2⟩
      · rw [if_pos i1, i2, if_pos (by omega)]
        omega
      · rw [if_neg i1, i2]
        split <;> omega
    · rw [if_neg hb, if_neg (fun q => hb q.1)]
      rcases ih with ⟨i1, i2, i3⟩ | ih
      · refine Or.inl ⟨i1, i2, fun c hc => ?_⟩
        by_cases h : c = m
        · subst h; simpa using hb
        · exact i3 c (by omega)
      · exact Or.inr ih
theorem rk_soon {tn : Nat → Nat} (hO : ar_told tn) : ∀ N x, x < N → x < 2 ^ tn 1 → am_rk tn 0 0 x = am_soon tn x
  | 0, x, h, _ => absurd h (by omega)
  | N + 1, x, h, hx => by
    have o2 := hO.2.1
    have p6 := (pow2_6 o2).1
    have ih := fun y (hy : y < x) => rk_soon hO N y (by omega) (by omega)
    rw [rk_eq hO (by omega), soon_eq hO (by omega), rk1_congr (by omega) ih (tn 1) o2]
    by_cases h0 : x = 0
    · subst h0
      have hz : ∀ m, am_rk1 tn 0 0 (am_soon tn) 0 m = 0 ∧ am_sn1 tn (am_soon tn) 0 m = 0 := by
        intro m
        induction m with
        | zero => exact ⟨rfl, rfl⟩
        | succ m ihm =>
          simp only [am_rk1, am_sn1]
          rw [if_neg (by simp), if_neg (by simp)]
          exact ihm
      rw [(hz (tn 1)).1, (hz (tn 1)).2]
    · rcases rk_sn hO h0 (show x < 64 by omega) (fun y hy => soon_le (x := y) hO (by omega)) (tn 1) (Nat.le_refl _) with ⟨-, -, i3⟩ | ⟨-, i2⟩
      · exfalso
        apply h0
        apply Nat.eq_of_testBit_eq
        intro c
        rw [Nat.zero_testBit]
        by_cases hc : c < tn 1
        · exact i3 c hc
        · exact Nat.testBit_lt_two_pow (Nat.lt_of_lt_of_le hx (Nat.pow_le_pow_right (by decide) (by omega)))
      · exact i2
