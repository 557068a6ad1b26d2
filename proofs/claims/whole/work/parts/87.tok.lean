/-! the text's tokens -/
def am_dgt (v : Nat) : Bool := decide (48 ≤ v ∧ v ≤ 57)
def am_wrd (v : Nat) : Bool := decide (v = 100) || (decide (v = 99) || (decide (v = 116) || decide (v = 107)))
def am_sk (tx : Nat → Nat) : Nat → Nat → Nat
  | 0, p => p
  | r + 1, p => if tx p = 32 then am_sk tx r (p + 1) else p
def am_de (tx : Nat → Nat) : Nat → Nat → Nat
  | 0, p => p
  | r + 1, p => if am_dgt (tx p) = true then am_de tx r (p + 1) else p
def am_cnm (tx : Nat → Nat) : Nat → Nat → Nat → Nat
  | 0, _, v => v
  | r + 1, p, v => if am_dgt (tx p) = true then am_cnm tx r (p + 1) (min (v * 10 + tx p - 48) 100) else v
def am_rv (tx : Nat → Nat) (z : Bool) : Nat → Nat → Nat → Nat
  | 0, _, v => v
  | r + 1, p, v => if am_dgt (tx p) = true then am_rv tx z r (p + 1) (if z = true ∨ 99 < v then 1000 else 10 * v + tx p - 48) else v
/-- where the next token begins; its kind (0 none, 1 a letter, 2 a number, 3 ;, 4 another); where it ends; what it is -/
def am_sp (tx : Nat → Nat) (ln p : Nat) : Nat := am_sk tx (ln - p) p
def am_kd (tx : Nat → Nat) (ln s : Nat) : Nat := if ln ≤ s then 0 else if am_wrd (tx s) = true then 1 else if am_dgt (tx s) = true then 2 else if tx s = 59 then 3 else 4
def am_nx (tx : Nat → Nat) (ln s : Nat) : Nat := if ln ≤ s then s else if am_dgt (tx s) = true then am_de tx (ln - (s + 1)) (s + 1) else s + 1
def am_vl (tx : Nat → Nat) (ln s : Nat) : Nat := if am_dgt (tx s) = true then am_rv tx (decide (tx s = 48)) (ln - (s + 1)) (s + 1) (tx s - 48) else tx s
def am_tk (tx : Nat → Nat) (ln s : Nat) : Int32 := if ln ≤ s then -1 else if am_dgt (tx s) = true then (if am_vl tx ln s ≤ 99 then -3 else -2) else if (am_wrd (tx s) || decide (tx s = 59)) = true then nI (tx s) else -2
theorem sk_le {tx : Nat → Nat} : ∀ r p, p ≤ am_sk tx r p ∧ am_sk tx r p ≤ p + r
  | 0, p => ⟨Nat.le_refl _, Nat.le_refl _⟩
  | r + 1, p => by
    have ih := sk_le (tx := tx) r (p + 1)
    simp only [am_sk]
    split <;> omega
theorem de_le {tx : Nat → Nat} : ∀ r p, p ≤ am_de tx r p ∧ am_de tx r p ≤ p + r
  | 0, p => ⟨Nat.le_refl _, Nat.le_refl _⟩
  | r + 1, p => by
    have ih := de_le (tx := tx) r (p + 1)
    simp only [am_de]
    split <;> omega
theorem sp_le {tx : Nat → Nat} {ln p : Nat} (h : p ≤ ln) : p ≤ am_sp tx ln p ∧ am_sp tx ln p ≤ ln := by
  have := sk_le (tx := tx) (ln - p) p
  unfold am_sp
  omega
theorem nx_le {tx : Nat → Nat} {ln s : Nat} (h : s ≤ ln) : am_nx tx ln s ≤ ln ∧ s ≤ am_nx tx ln s ∧ (s < ln → s + 1 ≤ am_nx tx ln s) := by
  have := de_le (tx := tx) (ln - (s + 1)) (s + 1)
  unfold am_nx
  by_cases h1 : ln ≤ s
  · rw [if_pos h1]; omega
  · rw [if_neg h1]
    split <;> omega
theorem rv_t {tx : Nat → Nat} : ∀ r p, am_rv tx true r p 1000 = 1000
  | 0, _ => rfl
  | r + 1, p => by
    simp only [am_rv, true_or, if_true]
    rw [rv_t r (p + 1)]
    split <;> rfl
theorem cn_rv {tx : Nat → Nat} (hx : ∀ p, tx p ≤ 255) : ∀ r p v w, ((v = w ∧ w ≤ 99) ∨ (v = 100 ∧ 99 < w)) → ((am_cnm tx r p v = am_rv tx false r p w ∧ am_rv tx false r p w ≤ 99) ∨ (am_cnm tx r p v = 100 ∧ 99 < am_rv tx false r p w))
  | 0, _, _, _, h => h
  | r + 1, p, v, w, h => by
    simp only [am_cnm, am_rv, Bool.false_eq_true, false_or]
    by_cases hd : am_dgt (tx p) = true
    · rw [if_pos hd, if_pos hd]
      have hd2 := hd
      unfold am_dgt at hd2
      simp only [decide_eq_true_eq] at hd2
      refine cn_rv hx r (p + 1) _ _ ?_
      rcases h with ⟨h1, h2⟩ | ⟨h1, h2⟩
      · rw [if_neg (by omega)]
        omega
      · rw [if_pos h2]
        omega
    · rw [if_neg hd, if_neg hd]
      exact h
/-- what the class makes of a number -/
theorem num_ok {tx : Nat → Nat} {ln s : Nat} (hx : ∀ p, tx p ≤ 255) (hs : s < ln) (hd : am_dgt (tx s) = true) : am_de tx (ln - s) s = am_nx tx ln s ∧ s < am_de tx (ln - s) s ∧ am_cnm tx (ln - s) s 0 ≤ 100 ∧ (am_vl tx ln s ≤ 99 → am_cnm tx (ln - s) s 0 = am_vl tx ln s ∧ (tx s = 48 → am_nx tx ln s = s + 1)) ∧ (99 < am_vl tx ln s → (tx s = 48 ∧ s + 1 < am_nx tx ln s) ∨ am_cnm tx (ln - s) s 0 = 100) := by
  have hd2 := hd
  unfold am_dgt at hd2
  simp only [decide_eq_true_eq] at hd2
  have e : ln - s = (ln - (s + 1)) + 1 := by omega
  have hde : am_de tx (ln - s) s = am_de tx (ln - (s + 1)) (s + 1) := by
    rw [e]; exact if_pos hd
  have hcn : am_cnm tx (ln - s) s 0 = am_cnm tx (ln - (s + 1)) (s + 1) (tx s - 48) := by
    rw [e]
    show (if am_dgt (tx s) = true then am_cnm tx (ln - (s + 1)) (s + 1) (min (0 * 10 + tx s - 48) 100) else 0) = _
    rw [if_pos hd, show min (0 * 10 + tx s - 48) 100 = tx s - 48 by omega]
  have hvl : am_vl tx ln s = am_rv tx (decide (tx s = 48)) (ln - (s + 1)) (s + 1) (tx s - 48) := if_pos hd
  have hnx : am_nx tx ln s = am_de tx (ln - (s + 1)) (s + 1) := by
    unfold am_nx
    rw [if_neg (by omega), if_pos hd]
  have hl := de_le (tx := tx) (ln - (s + 1)) (s + 1)
  have hinv := cn_rv hx (ln - (s + 1)) (s + 1) (tx s - 48) (tx s - 48) (Or.inl ⟨rfl, by omega⟩)
  have hc100 : am_cnm tx (ln - s) s 0 ≤ 100 := by
    rw [hcn]
    rcases hinv with ⟨h1, h2⟩ | ⟨h1, h2⟩ <;> omega
  refine ⟨by rw [hde, hnx], by rw [hde]; omega, hc100, ?_⟩
  by_cases h0 : tx s = 48
  · rw [h0] at hvl
    rw [show decide (48 = 48) = true from rfl] at hvl
    by_cases hm : 1 ≤ ln - (s + 1) ∧ am_dgt (tx (s + 1)) = true
    · have e2 : ln - (s + 1) = (ln - (s + 2)) + 1 := by omega
      have hv2 : am_vl tx ln s = 1000 := by
        rw [hvl, e2]
        show (if am_dgt (tx (s + 1)) = true then am_rv tx true (ln - (s + 2)) (s + 1 + 1) (if true = true ∨ 99 < 48 - 48 then 1000 else 10 * (48 - 48) + tx (s + 1) - 48) else _) = 1000
        rw [if_pos hm.2, if_pos (Or.inl rfl), rv_t]
      have hn2 : s + 1 < am_nx tx ln s := by
        rw [hnx, e2]
        have := de_le (tx := tx) (ln - (s + 2)) (s + 1 + 1)
        show s + 1 < (if am_dgt (tx (s + 1)) = true then am_de tx (ln - (s + 2)) (s + 1 + 1) else s + 1)
        rw [if_pos hm.2]
        omega
      exact ⟨fun h => by omega, fun _ => Or.inl ⟨h0, hn2⟩⟩
    · have hn2 : am_nx tx ln s = s + 1 := by
        rw [hnx]
        cases hr : ln - (s + 1) with
        | zero => rfl
        | succ r =>
          have : ¬ am_dgt (tx (s + 1)) = true := fun q => hm ⟨by omega, q⟩
          exact if_neg this
      have hv2 : am_vl tx ln s = 0 ∧ am_cnm tx (ln - s) s 0 = 0 := by
        rw [hvl, hcn, h0]
        cases hr : ln - (s + 1) with
        | zero => exact ⟨rfl, rfl⟩
        | succ r =>
          have : ¬ am_dgt (tx (s + 1)) = true := fun q => hm ⟨by omega, q⟩
          exact ⟨if_neg this, if_neg this⟩
      exact ⟨fun _ => ⟨by rw [hv2.1, hv2.2], fun _ => hn2⟩, fun h => by omega⟩
  · rw [show decide (tx s = 48) = false by simp [h0]] at hvl
    rw [hcn, hvl]
    rcases hinv with ⟨h1, h2⟩ | ⟨h1, h2⟩
    · exact ⟨fun _ => ⟨h1, fun h => absurd h h0⟩, fun h => by omega⟩
    · exact ⟨fun h => by omega, fun _ => Or.inr h1⟩
