/-! suns -/
def ar_ch (x : Nat) : Nat → Nat → Nat
  | _, 0 => 0
  | 0, _ + 1 => 1
  | e + 1, k + 1 => x * ar_ch x e k + (10 - x) * ar_ch x e (k + 1)
def ar_pr (x set : Nat) : Nat → Nat
  | 0 => 1
  | e + 1 => ar_pr x set e * (if set.testBit e = true then x else 10 - x)
def ar_ab (x nd k : Nat) : Nat → Nat
  | 0 => 0
  | s + 1 => ar_ab x nd k s + (if am_pc s ≤ k then ar_pr x s nd else 0)
theorem ch_ab {x nd k : Nat} (hx : x < 11) (hn : nd < 5) (hk : k < 5) : ar_ab x nd k (2 ^ nd) = ar_ch x nd (k + 1) ∧ ar_ch x nd (k + 1) ≤ 10 ^ nd := by
  have key : ∀ x, x < 11 → ∀ nd, nd < 5 → ∀ k, k < 5 → ar_ab x nd k (2 ^ nd) = ar_ch x nd (k + 1) ∧ ar_ch x nd (k + 1) ≤ 10 ^ nd := by decide +kernel
  exact key x hx nd hn k hk
theorem ch_le {x nd k : Nat} (hx : x < 11) (hn : nd < 5) (hk : k < 6) : ar_ch x nd k ≤ 10000 := by
  have key : ∀ x, x < 11 → ∀ nd, nd < 5 → ∀ k, k < 6 → ar_ch x nd k ≤ 10000 := by decide +kernel
  exact key x hx nd hn k hk
theorem ten_le {nd : Nat} (hn : nd < 5) : 10 ^ nd ≤ 10000 ∧ 1 ≤ 10 ^ nd := by
  have key : ∀ nd, nd < 5 → 10 ^ nd ≤ 10000 ∧ 1 ≤ 10 ^ nd := by decide +kernel
  exact key nd hn
theorem gcd_st (a b : Nat) : Nat.gcd a b = Nat.gcd b (a % b) := by
  rw [Nat.gcd_comm a b, Nat.gcd_rec, Nat.gcd_comm]
