/-! the reference's rounds that begin with some clients; the order -/
theorem or_wo {D R c : Nat} (hD : D < 64) (hR : R < 64) (hc : c < 6) (h : D &&& R = 0) (hb : R.testBit c = true) : am_wo (D ||| R) c = D ||| am_wo R c ∧ am_wo (D ||| R) c &&& D = D ∧ D.testBit c = false ∧ D &&& am_wo R c = 0 ∧ (D ||| 2 ^ c) ||| am_wo R c = D ||| R ∧ (D ||| 2 ^ c) &&& am_wo R c = 0 ∧ D ||| 2 ^ c < 64 ∧ D &&& 2 ^ c = 0 := by
  have k1 : ∀ D, D < 64 → ∀ R, R < 64 → D &&& R = 0 → ∀ c, c < 6 → R.testBit c = true → (D ||| R) &&& (63 - 2 ^ c) = D ||| (R &&& (63 - 2 ^ c)) := by decide +kernel
  have k2 : ∀ D, D < 64 → ∀ R, R < 64 → D &&& R = 0 → ∀ c, c < 6 → R.testBit c = true → (D ||| R) &&& (63 - 2 ^ c) &&& D = D := by decide +kernel
  have k3 : ∀ D, D < 64 → ∀ R, R < 64 → D &&& R = 0 → ∀ c, c < 6 → R.testBit c = true → D.testBit c = false := by decide +kernel
  have k4 : ∀ D, D < 64 → ∀ R, R < 64 → D &&& R = 0 → ∀ c, c < 6 → R.testBit c = true → D &&& (R &&& (63 - 2 ^ c)) = 0 := by decide +kernel
  have k5 : ∀ D, D < 64 → ∀ R, R < 64 → D &&& R = 0 → ∀ c, c < 6 → R.testBit c = true → (D ||| 2 ^ c) ||| (R &&& (63 - 2 ^ c)) = D ||| R := by decide +kernel
  have k6 : ∀ D, D < 64 → ∀ R, R < 64 → D &&& R = 0 → ∀ c, c < 6 → R.testBit c = true → (D ||| 2 ^ c) &&& (R &&& (63 - 2 ^ c)) = 0 := by decide +kernel
  have k7 : ∀ D, D < 64 → ∀ R, R < 64 → D &&& R = 0 → ∀ c, c < 6 → R.testBit c = true → D ||| 2 ^ c < 64 := by decide +kernel
  have k8 : ∀ D, D < 64 → ∀ R, R < 64 → D &&& R = 0 → ∀ c, c < 6 → R.testBit c = true → D &&& 2 ^ c = 0 := by decide +kernel
  exact ⟨k1 D hD R hR h c hc hb, k2 D hD R hR h c hc hb, k3 D hD R hR h c hc hb, k4 D hD R hR h c hc hb, k5 D hD R hR h c hc hb, k6 D hD R hR h c hc hb, k7 D hD R hR h c hc hb, k8 D hD R hR h c hc hb⟩
theorem or_df {D R : Nat} (hD : D < 64) (hR : R < 64) (h : D &&& R = 0) : (D ||| R) &&& (63 - D) = R := by
  have key : ∀ D, D < 64 → ∀ R, R < 64 → D &&& R = 0 → (D ||| R) &&& (63 - D) = R := by decide +kernel
  exact key D hD R hR h
theorem or64 {D R : Nat} (hD : D < 64) (hR : R < 64) : D ||| R < 64 := Nat.or_lt_two_pow (n := 6) hD hR
theorem pc_wo {R c : Nat} (hR : R < 64) (hc : c < 6) (hb : R.testBit c = true) : am_pc (am_wo R c) + 1 = am_pc R := by
  have key : ∀ R, R < 64 → ∀ c, c < 6 → R.testBit c = true → am_pc (R &&& (63 - 2 ^ c)) + 1 = am_pc R := by decide +kernel
  exact key R hR c hc hb
theorem pc_0 {R : Nat} (hR : R < 64) (h : am_pc R = 0) : R = 0 := by
  have key : ∀ R, R < 64 → am_pc R = 0 → R = 0 := by decide +kernel
  exact key R hR h
theorem sm_pow {f : Nat → Nat} {c : Nat} : ∀ m, am_sm f (2 ^ c) m = if c < m then f c else 0
  | 0 => rfl
  | m + 1 => by
    show am_sm f (2 ^ c) m + (if (2 ^ c).testBit m = true then f m else 0) = _
    rw [sm_pow m, Nat.testBit_two_pow]
    by_cases e : c = m
    · subst e
      simp
    · by_cases k : c < m
      · have k' : c < m + 1 := by omega
        simp [k, k', e]
      · have k' : ¬ c < m + 1 := by omega
        simp [k, k', e]
section
variable {tn : Nat → Nat}
theorem rk_or {D t : Nat} (hO : ar_told tn) (hD : D < 64) (ht : am_sm (fun c => tn (24 + c)) D (tn 1) ≤ t) (ht2 : t ≤ 3000) : ∀ N R, R < N → R < 2 ^ tn 1 → D &&& R = 0 → am_rk tn D t (D ||| R) = max (t + am_sm (fun c => tn (36 + c)) R (tn 1)) (am_sm (fun c => tn (24 + c)) D (tn 1) + am_soon tn R)
  | 0, R, h, _ => absurd h (by omega)
  | N + 1, R, h, hR => by
    intro hDR
    have o2 := hO.2.1
    have p6 := (pow2_6 o2).1
    have hR6 : R < 64 := by omega
    have hX := or64 hD hR6
    by_cases h0 : R = 0
    · subst h0
      rw [Nat.or_zero, sm_0, soon_0 hO, rk_eq hO hD]
      have hz : ∀ m, am_rk1 tn D t (am_rk tn D t) D m = t := by
        intro m
        induction m with
        | zero => exact if_pos rfl
        | succ m ihm =>
          simp only [am_rk1]
          rw [if_neg, ihm]
          rintro ⟨q1, q2, -⟩
          rw [q1] at q2
          exact absurd q2 (by decide)
      rw [hz]
      omega
    · have hne : ¬ D ||| R = D := by
        intro q
        have := or_df hD hR6 hDR
        rw [q] at this
        have h2 : D &&& (63 - D) = 0 := by
          have key : ∀ D, D < 64 → D &&& (63 - D) = 0 := by decide +kernel
          exact key D hD
        omega
      have hnd := sm_or (f := fun c => tn (24 + c)) hDR (tn 1)
      have hn1 := need_le hO R
      have hn2 := need_le hO D
      have hse := sew_le hO R
      have main : ∀ m, m ≤ tn 1 → (am_sn1 tn (am_soon tn) R m = 0 ∧ am_rk1 tn D t (am_rk tn D t) (D ||| R) m = 6000) ∨ (am_sn1 tn (am_soon tn) R m ≠ 0 ∧ am_rk1 tn D t (am_rk tn D t) (D ||| R) m = max (t + am_sm (fun c => tn (36 + c)) R (tn 1)) (am_sm (fun c => tn (24 + c)) D (tn 1) + am_sn1 tn (am_soon tn) R m)) := by
        intro m
        induction m with
        | zero => exact fun _ => Or.inl ⟨rfl, if_neg hne⟩
        | succ m ihm =>
          intro hm
          have ihm := ihm (by omega)
          by_cases hb : R.testBit m = true
          · obtain ⟨w1, w2, w3, w4, -⟩ := or_wo hD hR6 (show m < 6 by omega) hDR hb
            have hw := wo_less hR6 (show m < 6 by omega) hb
            have ih := rk_or hO hD ht ht2 N (am_wo R m) (by omega) (by omega) w4
            have hsl := soon_le hO (show am_wo R m < 64 by omega)
            have hs2 := sm_wo (f := fun c => tn (36 + c)) hR6 (show m < 6 by omega) hb (tn 1) o2 (by omega)
            have hsew := (hO.2.2.2.2.2.2.2.1 m (by omega)).2
            have hsew2 := (hO.2.2.2.2.2.2.1 m (by omega)).2.2.2
            have hbX : (D ||| R).testBit m = true := by rw [Nat.testBit_or, hb, Bool.or_true]
            have e1 : am_rk1 tn D t (am_rk tn D t) (D ||| R) (m + 1) = (if max (am_rk tn D t (am_wo (D ||| R) m)) (am_sm (fun c => tn (24 + c)) (D ||| R) (tn 1)) + tn (36 + m) < am_rk1 tn D t (am_rk tn D t) (D ||| R) m then max (am_rk tn D t (am_wo (D ||| R) m)) (am_sm (fun c => tn (24 + c)) (D ||| R) (tn 1)) + tn (36 + m) else am_rk1 tn D t (am_rk tn D t) (D ||| R) m) := if_pos ⟨hbX, w3, w2⟩
            have e2 : am_sn1 tn (am_soon tn) R (m + 1) = (if am_sn1 tn (am_soon tn) R m = 0 then am_v tn R m else min (am_sn1 tn (am_soon tn) R m) (am_v tn R m)) := if_pos hb
            have hv : am_v tn R m = max (am_sm (fun c => tn (24 + c)) R (tn 1)) (am_soon tn (am_wo R m)) + tn (36 + m) := rfl
            rw [w1, ih, hnd] at e1
            obtain ⟨V, hV⟩ : ∃ V, V = max (max (t + am_sm (fun c => tn (36 + c)) (am_wo R m) (tn 1)) (am_sm (fun c => tn (24 + c)) D (tn 1) + am_soon tn (am_wo R m))) (am_sm (fun c => tn (24 + c)) D (tn 1) + am_sm (fun c => tn (24 + c)) R (tn 1)) + tn (36 + m) := ⟨_, rfl⟩
            rw [← hV] at e1
            have hV2 : V = max (t + am_sm (fun c => tn (36 + c)) R (tn 1)) (am_sm (fun c => tn (24 + c)) D (tn 1) + am_v tn R m) := by omega
            rw [e1, e2]
            refine Or.inr ?_
            rcases ihm with ⟨i1, i2⟩ | ⟨i1, i2⟩
            · rw [if_pos i1, i2, if_pos (by omega)]
              exact ⟨by omega, hV2⟩
            · rw [if_neg i1, i2]
              refine ⟨by omega, ?_⟩
              split <;> omega
          · rw [show am_sn1 tn (am_soon tn) R (m + 1) = am_sn1 tn (am_soon tn) R m from if_neg hb]
            have hnb : R.testBit m = false := by simpa using hb
            rw [show am_rk1 tn D t (am_rk tn D t) (D ||| R) (m + 1) = am_rk1 tn D t (am_rk tn D t) (D ||| R) m from if_neg (fun q => by
              have := q.1
              rw [Nat.testBit_or, hnb, Bool.or_false, q.2.1] at this
              exact absurd this (by decide))]
            exact ihm
      rw [rk_eq hO hX]
      rcases main (tn 1) (Nat.le_refl _) with ⟨i1, -⟩ | ⟨-, i2⟩
      · obtain ⟨c, hc, hb⟩ := some_bit hR h0
        exact absurd i1 ((sn1_min hO (tn 1) (Nat.le_refl _)).1 c hc hb).1
      · rw [i2, ← soon_eq hO hR6]
/-- is a client the next one of an order that is done by W, when R is open and nd minutes are cut -/
def am_pk (tn : Nat → Nat) (W R nd c : Nat) : Bool := R.testBit c && decide (nd + tn (24 + c) + max (am_sm (fun c => tn (36 + c)) R (tn 1)) (am_soon tn (am_wo R c)) ≤ W)
def am_lo (tn : Nat → Nat) (W R nd : Nat) : Nat → Nat → Option Nat
  | 0, _ => none
  | r + 1, c => if am_pk tn W R nd c = true then some c else am_lo tn W R nd r (c + 1)
def am_or (tn : Nat → Nat) (W : Nat) : Nat → Nat → Nat → Option Nat
  | 0, R, nd => am_lo tn W R nd (tn 1) 0
  | k + 1, R, nd => match am_lo tn W R nd (tn 1) 0 with
    | none => none
    | some c => am_or tn W k (am_wo R c) (nd + tn (24 + c))
def am_on : Option Nat → Int32
  | none => -9
  | some c => nI c
theorem lo_some {W R nd x : Nat} : ∀ r c, am_lo tn W R nd r c = some x → am_pk tn W R nd x = true ∧ c ≤ x ∧ x < c + r
  | 0, _, h => absurd h (by simp [am_lo])
  | r + 1, c, h => by
    simp only [am_lo] at h
    by_cases k : am_pk tn W R nd c = true
    · rw [if_pos k] at h
      obtain rfl := Option.some.inj h
      exact ⟨k, Nat.le_refl _, by omega⟩
    · rw [if_neg k] at h
      have := lo_some r (c + 1) h
      exact ⟨this.1, by omega, by omega⟩
theorem lo_none {W R nd : Nat} : ∀ r c, am_lo tn W R nd r c = none → ∀ x, c ≤ x → x < c + r → am_pk tn W R nd x = false
  | 0, _, _ => fun x h1 h2 => absurd h2 (by omega)
  | r + 1, c, h => by
    intro x h1 h2
    simp only [am_lo] at h
    by_cases k : am_pk tn W R nd c = true
    · rw [if_pos k] at h
      exact absurd h (by simp)
    · rw [if_neg k] at h
      by_cases e : x = c
      · subst e; simpa using k
      · exact lo_none r (c + 1) h x (by omega) (by omega)
theorem pk_bit {W R nd x : Nat} (h : am_pk tn W R nd x = true) : R.testBit x = true ∧ nd + tn (24 + x) + max (am_sm (fun c => tn (36 + c)) R (tn 1)) (am_soon tn (am_wo R x)) ≤ W := by
  unfold am_pk at h
  simpa using h
/-- not so many: none -/
theorem or_none {W : Nat} (hO : ar_told tn) : ∀ k R nd, R < 64 → am_pc R ≤ k → am_or tn W k R nd = none
  | 0, R, nd, hR, h => by
    have o2 := hO.2.1
    obtain rfl := pc_0 hR (by omega)
    show am_lo tn W 0 nd (tn 1) 0 = none
    cases hl : am_lo tn W 0 nd (tn 1) 0 with
    | none => rfl
    | some x =>
      have := (pk_bit (lo_some _ _ hl).1).1
      rw [Nat.zero_testBit] at this
      exact absurd this (by decide)
  | k + 1, R, nd, hR, h => by
    have o2 := hO.2.1
    simp only [am_or]
    cases hl : am_lo tn W R nd (tn 1) 0 with
    | none => rfl
    | some x =>
      obtain ⟨h1, h2, h3⟩ := lo_some _ _ hl
      have hp := pc_wo hR (show x < 6 by omega) (pk_bit h1).1
      exact or_none hO k (am_wo R x) _ (wo_lt hR) (by omega)
/-- how it stands between two: D is done at t, R is open; when all are done -/
def ar_st (tn : Nat → Nat) (W D R t : Nat) : Prop := D < 64 ∧ R < 2 ^ tn 1 ∧ D &&& R = 0 ∧ am_sm (fun c => tn (24 + c)) D (tn 1) ≤ t ∧ max (t + am_sm (fun c => tn (36 + c)) R (tn 1)) (am_sm (fun c => tn (24 + c)) D (tn 1) + am_soon tn R) = W ∧ W ≤ 2000
theorem st_0 {S : Nat} (hO : ar_told tn) (hS : S < 2 ^ tn 1) : ar_st tn (am_soon tn S) 0 S 0 := by
  have p6 := (pow2_6 hO.2.1).1
  have h1 := sew_soon hO (S + 1) S (by omega) hS
  have h2 := soon_le hO (show S < 64 by omega)
  refine ⟨by omega, hS, Nat.zero_and _, ?_, ?_, h2⟩
  · rw [sm_0]; omega
  · rw [sm_0]; omega
/-- the reference's test of one client, and what stands behind it -/
theorem st_test {W D R t c : Nat} (hO : ar_told tn) (h : ar_st tn W D R t) (hc : c < tn 1) (hb : R.testBit c = true) : am_sm (fun c => tn (24 + c)) (D ||| 2 ^ c) (tn 1) = am_sm (fun c => tn (24 + c)) D (tn 1) + tn (24 + c) ∧ (am_rk tn (D ||| 2 ^ c) (max t (am_sm (fun c => tn (24 + c)) (D ||| 2 ^ c) (tn 1)) + tn (36 + c)) (D ||| R) = W ↔ am_pk tn W R (am_sm (fun c => tn (24 + c)) D (tn 1)) c = true) ∧ (am_pk tn W R (am_sm (fun c => tn (24 + c)) D (tn 1)) c = true → ar_st tn W (D ||| 2 ^ c) (am_wo R c) (max t (am_sm (fun c => tn (24 + c)) (D ||| 2 ^ c) (tn 1)) + tn (36 + c))) ∧ max t (am_sm (fun c => tn (24 + c)) (D ||| 2 ^ c) (tn 1)) + tn (36 + c) ≤ 3000 := by
  obtain ⟨h1, h2, h3, h4, h5, h6⟩ := h
  have o2 := hO.2.1
  have p6 := (pow2_6 o2).1
  have hR6 : R < 64 := by omega
  have hc6 : c < 6 := by omega
  obtain ⟨w1, w2, w3, w4, w5, w6, w7, w8⟩ := or_wo h1 hR6 hc6 h3 hb
  have hw := wo_less hR6 hc6 hb
  have hnd : am_sm (fun c => tn (24 + c)) (D ||| 2 ^ c) (tn 1) = am_sm (fun c => tn (24 + c)) D (tn 1) + tn (24 + c) := by
    rw [sm_or w8, sm_pow, if_pos hc]
  have hs2 := sm_wo (f := fun c => tn (36 + c)) hR6 hc6 hb (tn 1) o2 hc
  have hf := first_up hO (R + 1) R (by omega) h2 c hc hb
  have v24 := (hO.2.2.2.2.2.2.1 c hc6).2.1
  have v36 := (hO.2.2.2.2.2.2.1 c hc6).2.2.2
  have hn := need_le hO D
  have ht3 : max t (am_sm (fun c => tn (24 + c)) (D ||| 2 ^ c) (tn 1)) + tn (36 + c) ≤ 3000 := by omega
  have hrk := rk_or (t := max t (am_sm (fun c => tn (24 + c)) (D ||| 2 ^ c) (tn 1)) + tn (36 + c)) hO w7 (by omega) ht3 (am_wo R c + 1) (am_wo R c) (by omega) (by omega) w6
  rw [w5] at hrk
  have hpk : am_pk tn W R (am_sm (fun c => tn (24 + c)) D (tn 1)) c = decide (am_sm (fun c => tn (24 + c)) D (tn 1) + tn (24 + c) + max (am_sm (fun c => tn (36 + c)) R (tn 1)) (am_soon tn (am_wo R c)) ≤ W) := by
    unfold am_pk
    rw [hb, Bool.true_and]
  have hiff : am_rk tn (D ||| 2 ^ c) (max t (am_sm (fun c => tn (24 + c)) (D ||| 2 ^ c) (tn 1)) + tn (36 + c)) (D ||| R) = W ↔ am_pk tn W R (am_sm (fun c => tn (24 + c)) D (tn 1)) c = true := by
    rw [hrk, hpk, decide_eq_true_eq, hnd]
    omega
  refine ⟨hnd, hiff, fun hp => ⟨w7, by omega, w6, by omega, ?_, h6⟩, ht3⟩
  rw [← hrk]
  exact hiff.mpr hp
/-- while one is open, one is found -/
theorem st_lo {W D R t : Nat} (hO : ar_told tn) (h : ar_st tn W D R t) (h0 : R ≠ 0) : ∃ c, am_lo tn W R (am_sm (fun c => tn (24 + c)) D (tn 1)) (tn 1) 0 = some c := by
  obtain ⟨h1, h2, h3, h4, h5, h6⟩ := h
  cases hl : am_lo tn W R (am_sm (fun c => tn (24 + c)) D (tn 1)) (tn 1) 0 with
  | some c => exact ⟨c, rfl⟩
  | none =>
    obtain ⟨c, hc, hb, hle⟩ := first_at hO (R + 1) R (by omega) h2 h0
    have := lo_none _ _ hl c (by omega) (by omega)
    unfold am_pk at this
    rw [hb, Bool.true_and, decide_eq_false_iff_not] at this
    omega
end
