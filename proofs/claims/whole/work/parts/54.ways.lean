/-! ways: adding a dawn in front or behind comes to the same -/
def aw_S (f : Nat → Nat → Nat) (q y : Nat) : Nat → Nat
  | 0 => 0
  | j + 1 => aw_S f q y j + (if j + 1 ≤ y then f q (y - (j + 1)) else 0)
/-- one dawn more: whether it suits, its yards -/
def aw_A (s : Bool) (Y : Nat) (f : Nat → Nat → Nat) : Nat → Nat → Nat
  | 0, y => f 0 y
  | q + 1, y => f (q + 1) y + if s = true then aw_S f q y Y else 0
def aw_0 (q y : Nat) : Nat := if q = 0 ∧ y = 0 then 1 else 0
def aw_R (s : Nat → Bool) (Y : Nat → Nat) (f : Nat → Nat → Nat) (e : Nat) : Nat → Nat → Nat → Nat
  | 0 => f
  | m + 1 => aw_A (s e) (Y e) (aw_R s Y f (e + 1) m)
theorem aw_S_add (f g : Nat → Nat → Nat) (q y : Nat) : ∀ j, aw_S (fun a b => f a b + g a b) q y j = aw_S f q y j + aw_S g q y j
  | 0 => rfl
  | j + 1 => by
    simp only [aw_S]
    rw [aw_S_add f g q y j]
    split <;> omega
/-- the double sum -/
def aw_D (f : Nat → Nat → Nat) (q y Y : Nat) : Nat → Nat
  | 0 => 0
  | j + 1 => aw_D f q y Y j + (if j + 1 ≤ y then aw_S f q (y - (j + 1)) Y else 0)
theorem aw_D_0 (f : Nat → Nat → Nat) (q y : Nat) : ∀ N, aw_D f q y 0 N = 0
  | 0 => rfl
  | j + 1 => by
    simp only [aw_D, aw_S]
    rw [aw_D_0 f q y j]
    split <;> rfl
theorem aw_D_s (f : Nat → Nat → Nat) (q y M : Nat) : ∀ N, aw_D f q y (M + 1) N = aw_D f q y M N + (if M + 1 ≤ y then aw_S f q (y - (M + 1)) N else 0)
  | 0 => by
    simp only [aw_D, aw_S]
    split <;> rfl
  | j + 1 => by
    simp only [aw_D, aw_S]
    rw [aw_D_s f q y M j]
    by_cases h1 : j + 1 ≤ y
    · by_cases h2 : M + 1 ≤ y
      · rw [if_pos h1, if_pos h2, if_pos h1, if_pos h2]
        by_cases h3 : M + 1 ≤ y - (j + 1)
        · rw [if_pos h3, if_pos (show j + 1 ≤ y - (M + 1) by omega), show y - (j + 1) - (M + 1) = y - (M + 1) - (j + 1) by omega]
          omega
        · rw [if_neg h3, if_neg (show ¬ j + 1 ≤ y - (M + 1) by omega)]
          omega
      · rw [if_pos h1, if_neg h2, if_pos h1, if_neg h2]
        rw [if_neg (show ¬ M + 1 ≤ y - (j + 1) by omega)]
        omega
    · rw [if_neg h1, if_neg h1]
      by_cases h2 : M + 1 ≤ y
      · rw [if_pos h2, if_pos h2, if_neg (show ¬ j + 1 ≤ y - (M + 1) by omega)]
        omega
      · rw [if_neg h2, if_neg h2]
theorem aw_D_comm (f : Nat → Nat → Nat) (q y N : Nat) : ∀ M, aw_D f q y M N = aw_D f q y N M
  | 0 => aw_D_0 f q y N
  | M + 1 => by
    rw [aw_D_s, aw_D_comm f q y N M, aw_D]
theorem aw_S_A0 (s : Bool) (Y : Nat) (f : Nat → Nat → Nat) (y : Nat) : ∀ N, aw_S (aw_A s Y f) 0 y N = aw_S f 0 y N
  | 0 => rfl
  | N + 1 => by
    simp only [aw_S, aw_A]
    rw [aw_S_A0 s Y f y N]
theorem aw_S_A (s : Bool) (Y : Nat) (f : Nat → Nat → Nat) (q y : Nat) : ∀ N, aw_S (aw_A s Y f) (q + 1) y N = aw_S f (q + 1) y N + if s = true then aw_D f q y Y N else 0
  | 0 => by
    simp only [aw_S, aw_D]
    split <;> rfl
  | N + 1 => by
    simp only [aw_S, aw_A, aw_D]
    rw [aw_S_A s Y f q y N]
    by_cases h1 : s = true
    · simp only [h1, if_true]
      split <;> omega
    · simp only [h1, if_false, Nat.add_zero]
      simp
theorem aw_comm (s1 s2 : Bool) (Y1 Y2 : Nat) (f : Nat → Nat → Nat) : aw_A s1 Y1 (aw_A s2 Y2 f) = aw_A s2 Y2 (aw_A s1 Y1 f) := by
  funext q y
  match q with
  | 0 => rfl
  | 1 =>
    simp only [aw_A]
    rw [aw_S_A0, aw_S_A0]
    omega
  | q + 2 =>
    simp only [aw_A]
    rw [aw_S_A, aw_S_A]
    have := aw_D_comm f q y Y1 Y2
    cases s1 <;> cases s2 <;> simp <;> omega
theorem aw_R_A (s : Nat → Bool) (Y : Nat → Nat) (s2 : Bool) (Y2 : Nat) (f : Nat → Nat → Nat) : ∀ (m e : Nat), aw_R s Y (aw_A s2 Y2 f) e m = aw_A s2 Y2 (aw_R s Y f e m)
  | 0, _ => rfl
  | m + 1, e => by
    simp only [aw_R]
    rw [aw_R_A s Y s2 Y2 f m (e + 1), aw_comm]
theorem aw_R_end (s : Nat → Bool) (Y : Nat → Nat) (f : Nat → Nat → Nat) : ∀ (m e : Nat), aw_R s Y f e (m + 1) = aw_R s Y (aw_A (s (e + m)) (Y (e + m)) f) e m
  | 0, _ => rfl
  | m + 1, e => by
    have h := aw_R_end s Y f m (e + 1)
    rw [show e + 1 + m = e + (m + 1) by omega] at h
    show aw_A (s e) (Y e) (aw_R s Y f (e + 1) (m + 1)) = _
    rw [h]
    rfl
/-- behind as in front -/
theorem aw_R_fw (s : Nat → Bool) (Y : Nat → Nat) (f : Nat → Nat → Nat) (m : Nat) : aw_R s Y f 0 (m + 1) = aw_A (s m) (Y m) (aw_R s Y f 0 m) := by
  rw [aw_R_end, aw_R_A, Nat.zero_add]
theorem aw_R_0 (s : Nat → Bool) (Y : Nat → Nat) (f : Nat → Nat → Nat) : ∀ (m e y : Nat), aw_R s Y f e m 0 y = f 0 y
  | 0, _, _ => rfl
  | m + 1, e, y => by
    show aw_R s Y f (e + 1) m 0 y = _
    exact aw_R_0 s Y f m (e + 1) y
