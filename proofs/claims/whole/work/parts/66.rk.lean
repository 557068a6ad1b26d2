/-! the reference's reckons: all sets from one on, that is sewn at a time -/
def am_rk1 (tn : Nat → Nat) (F t : Nat) (tab : Nat → Nat) (s : Nat) : Nat → Nat
  | 0 => if s = F then t else 6000
  | c + 1 => if s.testBit c = true ∧ F.testBit c = false ∧ am_wo s c &&& F = F then (if max (tab (am_wo s c)) (am_sm (fun c => tn (24 + c)) s (tn 1)) + tn (36 + c) < am_rk1 tn F t tab s c then max (tab (am_wo s c)) (am_sm (fun c => tn (24 + c)) s (tn 1)) + tn (36 + c) else am_rk1 tn F t tab s c) else am_rk1 tn F t tab s c
def am_rkT (tn : Nat → Nat) (F t : Nat) : Nat → Nat → Nat
  | 0 => fun _ => 0
  | s + 1 => fun x => if x = s then am_rk1 tn F t (am_rkT tn F t s) s (tn 1) else am_rkT tn F t s x
def am_rk (tn : Nat → Nat) (F t x : Nat) : Nat := am_rkT tn F t (x + 1) x
theorem rk1_le {tn tab : Nat → Nat} {F t s : Nat} : ∀ m, am_rk1 tn F t tab s m ≤ 6000 + t
  | 0 => by
    show (if s = F then t else 6000) ≤ _
    split <;> omega
  | m + 1 => by
    have ih := rk1_le (tn := tn) (tab := tab) (F := F) (t := t) (s := s) m
    simp only [am_rk1]
    split
    · split <;> omega
    · exact ih
theorem rkT_le {tn : Nat → Nat} {F t : Nat} : ∀ s x, am_rkT tn F t s x ≤ 6000 + t
  | 0, x => by
    show 0 ≤ _
    omega
  | s + 1, x => by
    show (if x = s then am_rk1 tn F t (am_rkT tn F t s) s (tn 1) else am_rkT tn F t s x) ≤ _
    split
    · exact rk1_le _
    · exact rkT_le s x
theorem rkT_same {tn : Nat → Nat} {F t y : Nat} : ∀ k, am_rkT tn F t (y + 1 + k) y = am_rkT tn F t (y + 1) y
  | 0 => rfl
  | k + 1 => by
    show (if y = y + 1 + k then am_rk1 tn F t (am_rkT tn F t (y + 1 + k)) (y + 1 + k) (tn 1) else am_rkT tn F t (y + 1 + k) y) = _
    rw [if_neg (by omega), rkT_same k]
theorem rkT_rk {tn : Nat → Nat} {F t s y : Nat} (h : y < s) : am_rkT tn F t s y = am_rk tn F t y := by
  have := rkT_same (tn := tn) (F := F) (t := t) (y := y) (s - (y + 1))
  rw [show y + 1 + (s - (y + 1)) = s by omega] at this
  exact this
theorem rk1_congr {tn tab tab' : Nat → Nat} {F t x : Nat} (hx : x < 64) (h : ∀ y, y < x → tab y = tab' y) : ∀ m, m ≤ 6 → am_rk1 tn F t tab x m = am_rk1 tn F t tab' x m
  | 0, _ => rfl
  | m + 1, hm => by
    simp only [am_rk1]
    rw [rk1_congr hx h m (by omega)]
    by_cases hb : x.testBit m = true
    · rw [h _ (wo_less hx (by omega) hb)]
    · rw [if_neg (fun q => hb q.1), if_neg (fun q => hb q.1)]
theorem rk_eq {tn : Nat → Nat} {F t x : Nat} (hO : ar_told tn) (hx : x < 64) : am_rk tn F t x = am_rk1 tn F t (am_rk tn F t) x (tn 1) := by
  have o2 := hO.2.1
  show (if x = x then am_rk1 tn F t (am_rkT tn F t x) x (tn 1) else am_rkT tn F t x x) = _
  rw [if_pos rfl]
  exact rk1_congr hx (fun y hy => rkT_rk hy) (tn 1) o2
