/-! rounds: cut one behind another, sewn in the same order -/
theorem wo_tb {s c k : Nat} (hs : s < 64) (hc : c < 6) (hk : k < 6) : (am_wo s c).testBit k = (s.testBit k && !(decide (k = c))) := by
  have key : ∀ s, s < 64 → ∀ c, c < 6 → ∀ k, k < 6 → (s &&& (63 - 2 ^ c)).testBit k = (s.testBit k && !(decide (k = c))) := by decide +kernel
  exact key s hs c hc k hk
theorem wo_comm (s a b : Nat) : am_wo (am_wo s a) b = am_wo (am_wo s b) a := by
  unfold am_wo
  rw [Nat.and_assoc, Nat.and_comm (63 - 2 ^ a), ← Nat.and_assoc]
theorem wo_le (s c : Nat) : am_wo s c ≤ s := Nat.and_le_left
theorem sm_congr {f : Nat → Nat} {s s' : Nat} : ∀ m, (∀ k, k < m → s.testBit k = s'.testBit k) → am_sm f s m = am_sm f s' m
  | 0, _ => rfl
  | m + 1, h => by
    show am_sm f s m + _ = am_sm f s' m + _
    rw [sm_congr m (fun k hk => h k (by omega)), h m (by omega)]
theorem sm_wo {f : Nat → Nat} {s c : Nat} (hs : s < 64) (hc : c < 6) (hb : s.testBit c = true) : ∀ m, m ≤ 6 → c < m → am_sm f s m = am_sm f (am_wo s c) m + f c
  | 0, _, h => absurd h (by omega)
  | m + 1, hm, h => by
    have hw := wo_tb hs hc (show m < 6 by omega)
    show am_sm f s m + (if s.testBit m = true then f m else 0) = am_sm f (am_wo s c) m + (if (am_wo s c).testBit m = true then f m else 0) + f c
    by_cases e : c = m
    · subst e
      have e2 : am_sm f (am_wo s c) c = am_sm f s c := sm_congr c (fun k hk => by
        rw [wo_tb hs hc (by omega)]
        have : ¬ k = c := by omega
        simp [this])
      simp only [decide_true, Bool.not_true, Bool.and_false] at hw
      rw [hb, hw, e2, if_pos rfl, if_neg (by decide), Nat.add_zero]
    · have e2 : ¬ m = c := fun q => e q.symm
      simp only [e2, decide_false, Bool.not_false, Bool.and_true] at hw
      rw [hw, sm_wo hs hc hb m (by omega) (by omega)]
      omega
theorem sm_0 {f : Nat → Nat} : ∀ m, am_sm f 0 m = 0
  | 0 => rfl
  | m + 1 => by
    show am_sm f 0 m + (if (0 : Nat).testBit m = true then f m else 0) = 0
    rw [sm_0 m, Nat.zero_testBit]
    rfl
theorem sm_or {f : Nat → Nat} {a b : Nat} (h : a &&& b = 0) : ∀ m, am_sm f (a ||| b) m = am_sm f a m + am_sm f b m
  | 0 => rfl
  | m + 1 => by
    have h2 : (a &&& b).testBit m = false := by rw [h, Nat.zero_testBit]
    rw [Nat.testBit_and] at h2
    have ih := sm_or (f := f) h m
    show am_sm f (a ||| b) m + (if (a ||| b).testBit m = true then f m else 0) = am_sm f a m + (if a.testBit m = true then f m else 0) + (am_sm f b m + (if b.testBit m = true then f m else 0))
    rw [ih, Nat.testBit_or]
    cases ha : a.testBit m <;> cases hb : b.testBit m <;> simp_all <;> omega
/-- what the last one's end is -/
def am_v (tn : Nat → Nat) (R c : Nat) : Nat := max (am_sm (fun c => tn (24 + c)) R (tn 1)) (am_soon tn (am_wo R c)) + tn (36 + c)
theorem tb_ge {R m c : Nat} (h : R < 2 ^ m) (hc : m ≤ c) : R.testBit c = false := Nat.testBit_lt_two_pow (Nat.lt_of_lt_of_le h (Nat.pow_le_pow_right (by decide) hc))
theorem some_bit {R m : Nat} (h : R < 2 ^ m) (h0 : R ≠ 0) : ∃ c, c < m ∧ R.testBit c = true := by
  apply Classical.byContradiction
  intro hn
  apply h0
  apply Nat.eq_of_testBit_eq
  intro c
  rw [Nat.zero_testBit]
  by_cases hc : c < m
  · cases hb : R.testBit c with
    | false => rfl
    | true => exact absurd ⟨c, hc, hb⟩ hn
  · exact tb_ge h (by omega)
section
variable {tn : Nat → Nat}
theorem sn1_min {R : Nat} (hO : ar_told tn) : ∀ m, m ≤ tn 1 → (∀ c, c < m → R.testBit c = true → am_sn1 tn (am_soon tn) R m ≠ 0 ∧ am_sn1 tn (am_soon tn) R m ≤ am_v tn R c) ∧ (am_sn1 tn (am_soon tn) R m = 0 ∨ ∃ c, c < m ∧ R.testBit c = true ∧ am_sn1 tn (am_soon tn) R m = am_v tn R c)
  | 0, _ => ⟨fun c hc => absurd hc (by omega), Or.inl rfl⟩
  | m + 1, hm => by
    obtain ⟨i1, i2⟩ := sn1_min hO m (by omega)
    have hsew := (hO.2.2.2.2.2.2.2.1 m (by omega)).2
    have hv : am_v tn R m = max (am_sm (fun c => tn (24 + c)) R (tn 1)) (am_soon tn (am_wo R m)) + tn (36 + m) := rfl
    have hst : am_sn1 tn (am_soon tn) R (m + 1) = (if R.testBit m = true then (if am_sn1 tn (am_soon tn) R m = 0 then am_v tn R m else min (am_sn1 tn (am_soon tn) R m) (am_v tn R m)) else am_sn1 tn (am_soon tn) R m) := rfl
    have hv1 : 1 ≤ am_v tn R m := by omega
    by_cases hb : R.testBit m = true
    · rw [if_pos hb] at hst
      by_cases h0 : am_sn1 tn (am_soon tn) R m = 0
      · rw [if_pos h0] at hst
        refine ⟨fun c hc hbc => ?_, Or.inr ⟨m, by omega, hb, hst⟩⟩
        by_cases e : c = m
        · subst e; rw [hst]; omega
        · exact absurd h0 (i1 c (by omega) hbc).1
      · rw [if_neg h0] at hst
        refine ⟨fun c hc hbc => ?_, Or.inr ?_⟩
        · by_cases e : c = m
          · subst e; rw [hst]; omega
          · have := i1 c (by omega) hbc
            rw [hst]; omega
        · rcases i2 with i2 | ⟨c, c1, c2, c3⟩
          · exact absurd i2 h0
          · by_cases k : am_v tn R m ≤ am_sn1 tn (am_soon tn) R m
            · exact ⟨m, by omega, hb, by rw [hst]; omega⟩
            · exact ⟨c, by omega, c2, by rw [hst, ← c3]; omega⟩
    · rw [if_neg hb] at hst
      rw [hst]
      refine ⟨fun c hc hbc => ?_, ?_⟩
      · by_cases e : c = m
        · subst e; exact absurd hbc hb
        · exact i1 c (by omega) hbc
      · rcases i2 with i2 | ⟨c, c1, c2, c3⟩
        · exact Or.inl i2
        · exact Or.inr ⟨c, by omega, c2, c3⟩
theorem soon_up {R c : Nat} (hO : ar_told tn) (hR : R < 64) (hc : c < tn 1) (hb : R.testBit c = true) : am_soon tn R ≤ am_v tn R c := by
  rw [soon_eq hO hR]
  exact ((sn1_min hO (tn 1) (Nat.le_refl _)).1 c hc hb).2
theorem soon_at {R : Nat} (hO : ar_told tn) (hR : R < 2 ^ tn 1) (h0 : R ≠ 0) : ∃ c, c < tn 1 ∧ R.testBit c = true ∧ am_soon tn R = am_v tn R c := by
  have p6 := (pow2_6 hO.2.1).1
  obtain ⟨c, hc, hb⟩ := some_bit hR h0
  rw [soon_eq hO (by omega)]
  obtain ⟨i1, i2⟩ := sn1_min (R := R) hO (tn 1) (Nat.le_refl _)
  rcases i2 with i2 | i2
  · exact absurd i2 (i1 c hc hb).1
  · exact i2
theorem soon_0 (hO : ar_told tn) : am_soon tn 0 = 0 := by
  rw [soon_eq hO (by decide)]
  rcases (sn1_min (R := 0) hO (tn 1) (Nat.le_refl _)).2 with h | ⟨c, -, h, -⟩
  · exact h
  · rw [Nat.zero_testBit] at h
    exact absurd h (by decide)
theorem sew_soon (hO : ar_told tn) : ∀ N R, R < N → R < 2 ^ tn 1 → am_sm (fun c => tn (36 + c)) R (tn 1) ≤ am_soon tn R
  | 0, R, h, _ => absurd h (by omega)
  | N + 1, R, h, hR => by
    have o2 := hO.2.1
    have p6 := (pow2_6 o2).1
    by_cases h0 : R = 0
    · subst h0; rw [sm_0]; omega
    · obtain ⟨c, hc, hb, he⟩ := soon_at hO hR h0
      have hw := wo_less (show R < 64 by omega) (show c < 6 by omega) hb
      have ih := sew_soon hO N (am_wo R c) (by omega) (by omega)
      have hs := sm_wo (f := fun c => tn (36 + c)) (show R < 64 by omega) (show c < 6 by omega) hb (tn 1) o2 hc
      rw [he, hs]
      show _ + tn (36 + c) ≤ max _ _ + tn (36 + c)
      omega
/-- one less is sooner -/
theorem soon_wo (hO : ar_told tn) : ∀ N R, R < N → R < 2 ^ tn 1 → ∀ c, c < tn 1 → R.testBit c = true → am_soon tn (am_wo R c) ≤ am_soon tn R
  | 0, R, h, _ => absurd h (by omega)
  | N + 1, R, h, hR => by
    intro c hc hb
    have o2 := hO.2.1
    have p6 := (pow2_6 o2).1
    have hR6 : R < 64 := by omega
    have hc6 : c < 6 := by omega
    have h0 : R ≠ 0 := by
      rintro rfl
      rw [Nat.zero_testBit] at hb
      exact absurd hb (by decide)
    obtain ⟨l, hl, hbl, he⟩ := soon_at hO hR h0
    have hl6 : l < 6 := by omega
    have hv : am_v tn R l = max (am_sm (fun c => tn (24 + c)) R (tn 1)) (am_soon tn (am_wo R l)) + tn (36 + l) := rfl
    by_cases e : l = c
    · subst e; omega
    · have hw := wo_less hR6 hl6 hbl
      have hwc := wo_less hR6 hc6 hb
      have e' : ¬ c = l := fun q => e q.symm
      have hb2 : (am_wo R l).testBit c = true := by rw [wo_tb hR6 hl6 hc6, hb]; simp [e']
      have hb3 : (am_wo R c).testBit l = true := by rw [wo_tb hR6 hc6 hl6, hbl]; simp [e]
      have ih := soon_wo hO N (am_wo R l) (by omega) (by omega) c hc hb2
      have hu := soon_up hO (show am_wo R c < 64 by omega) hl hb3
      have hv2 : am_v tn (am_wo R c) l = max (am_sm (fun c => tn (24 + c)) (am_wo R c) (tn 1)) (am_soon tn (am_wo (am_wo R c) l)) + tn (36 + l) := rfl
      rw [wo_comm] at hv2
      have hs := sm_wo (f := fun c => tn (24 + c)) hR6 hc6 hb (tn 1) o2 hc
      omega
/-- by the one who is cut first: no sooner .. -/
theorem first_up (hO : ar_told tn) : ∀ N R, R < N → R < 2 ^ tn 1 → ∀ c, c < tn 1 → R.testBit c = true → am_soon tn R ≤ tn (24 + c) + max (am_sm (fun c => tn (36 + c)) R (tn 1)) (am_soon tn (am_wo R c))
  | 0, R, h, _ => absurd h (by omega)
  | N + 1, R, h, hR => by
    intro c hc hb
    have o2 := hO.2.1
    have p6 := (pow2_6 o2).1
    have hR6 : R < 64 := by omega
    have hc6 : c < 6 := by omega
    have hwc := wo_less hR6 hc6 hb
    have hs := sm_wo (f := fun c => tn (24 + c)) hR6 hc6 hb (tn 1) o2 hc
    have hs2 := sm_wo (f := fun c => tn (36 + c)) hR6 hc6 hb (tn 1) o2 hc
    by_cases h0 : am_wo R c = 0
    · have hu := soon_up hO hR6 hc hb
      have hv : am_v tn R c = max (am_sm (fun c => tn (24 + c)) R (tn 1)) (am_soon tn (am_wo R c)) + tn (36 + c) := rfl
      rw [h0, soon_0 hO] at hv
      rw [h0, sm_0] at hs hs2
      rw [h0, soon_0 hO]
      omega
    · obtain ⟨l, hl, hbl, he⟩ := soon_at hO (show am_wo R c < 2 ^ tn 1 by omega) h0
      have hl6 : l < 6 := by omega
      rw [wo_tb hR6 hc6 hl6] at hbl
      simp only [Bool.and_eq_true, Bool.not_eq_true', decide_eq_false_iff_not] at hbl
      obtain ⟨hbl, e⟩ := hbl
      have e' : ¬ c = l := fun q => e q.symm
      have hw := wo_less hR6 hl6 hbl
      have hb2 : (am_wo R l).testBit c = true := by rw [wo_tb hR6 hl6 hc6, hb]; simp [e']
      have ih := first_up hO N (am_wo R l) (by omega) (by omega) c hc hb2
      have hu := soon_up hO hR6 hl hbl
      have hv : am_v tn R l = max (am_sm (fun c => tn (24 + c)) R (tn 1)) (am_soon tn (am_wo R l)) + tn (36 + l) := rfl
      have hv2 : am_v tn (am_wo R c) l = max (am_sm (fun c => tn (24 + c)) (am_wo R c) (tn 1)) (am_soon tn (am_wo (am_wo R c) l)) + tn (36 + l) := rfl
      rw [wo_comm] at hv2
      have hs3 := sm_wo (f := fun c => tn (36 + c)) hR6 hl6 hbl (tn 1) o2 hl
      omega
/-- .. and somebody's is as soon -/
theorem first_at (hO : ar_told tn) : ∀ N R, R < N → R < 2 ^ tn 1 → R ≠ 0 → ∃ c, c < tn 1 ∧ R.testBit c = true ∧ tn (24 + c) + max (am_sm (fun c => tn (36 + c)) R (tn 1)) (am_soon tn (am_wo R c)) ≤ am_soon tn R
  | 0, R, h, _ => absurd h (by omega)
  | N + 1, R, h, hR => by
    intro h0
    have o2 := hO.2.1
    have p6 := (pow2_6 o2).1
    have hR6 : R < 64 := by omega
    obtain ⟨l, hl, hbl, he⟩ := soon_at hO hR h0
    have hl6 : l < 6 := by omega
    have hv : am_v tn R l = max (am_sm (fun c => tn (24 + c)) R (tn 1)) (am_soon tn (am_wo R l)) + tn (36 + l) := rfl
    have hw := wo_less hR6 hl6 hbl
    have hs := sm_wo (f := fun c => tn (24 + c)) hR6 hl6 hbl (tn 1) o2 hl
    have hs2 := sm_wo (f := fun c => tn (36 + c)) hR6 hl6 hbl (tn 1) o2 hl
    by_cases h1 : am_wo R l = 0
    · refine ⟨l, hl, hbl, ?_⟩
      rw [h1, sm_0] at hs hs2
      rw [h1, soon_0 hO]
      omega
    · obtain ⟨c, hc, hb, hle⟩ := first_at hO N (am_wo R l) (by omega) (by omega) h1
      have hc6 : c < 6 := by omega
      rw [wo_tb hR6 hl6 hc6] at hb
      simp only [Bool.and_eq_true, Bool.not_eq_true', decide_eq_false_iff_not] at hb
      obtain ⟨hb, e⟩ := hb
      have e' : ¬ l = c := fun q => e q.symm
      have hb3 : (am_wo R c).testBit l = true := by rw [wo_tb hR6 hc6 hl6, hbl]; simp [e']
      have hwc := wo_less hR6 hc6 hb
      have hu := soon_up hO (show am_wo R c < 64 by omega) hl hb3
      have hv2 : am_v tn (am_wo R c) l = max (am_sm (fun c => tn (24 + c)) (am_wo R c) (tn 1)) (am_soon tn (am_wo (am_wo R c) l)) + tn (36 + l) := rfl
      rw [wo_comm] at hv2
      have hs3 := sm_wo (f := fun c => tn (24 + c)) hR6 hc6 hb (tn 1) o2 hc
      refine ⟨c, hc, hb, ?_⟩
      omega
end
