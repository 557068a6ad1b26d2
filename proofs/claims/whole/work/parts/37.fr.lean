/-! what of the relation stays when other cells change -/
def fr_T (I I' : Nat → Nat → Int32) : Prop := I' 79 = I 79 ∧ ∀ a, 4 ≤ a → a ≤ 19 → I' a = I a
def fr_S (I I' : Nat → Nat → Int32) : Prop := I' 81 = I 81 ∧ I' 20 = I 20 ∧ I' 21 = I 21 ∧ I' 22 = I 22
def fr_P (I I' : Nat → Nat → Int32) : Prop := I' 23 = I 23 ∧ I' 77 7 = I 77 7 ∧ I' 82 = I 82 ∧ ∀ a, 25 ≤ a → a ≤ 54 → I' a = I a
def fr_I (I I' : Nat → Nat → Int32) : Prop := I' 56 = I 56 ∧ I' 84 = I 84 ∧ I' 83 = I 83 ∧ ∀ a, 71 ≤ a → a ≤ 76 → I' a = I a
def fr_X (I I' : Nat → Nat → Int32) : Prop := I' 2 1 = I 2 1 ∧ I' 77 2 = I 77 2 ∧ I' 3 = I 3 ∧ I' 78 = I 78
def fr_F (I I' : Nat → Nat → Int32) : Prop := I' 57 2 = I 57 2 ∧ I' 77 11 = I 77 11 ∧ I' 58 = I 58 ∧ I' 59 = I 59 ∧ I' 85 = I 85
def fr_C (I I' : Nat → Nat → Int32) : Prop := I' 60 0 = I 60 0 ∧ I' 60 1 = I 60 1 ∧ I' 61 = I 61 ∧ ∀ a, 64 ≤ a → a ≤ 68 → I' a = I a
section
variable {sw : Bool} {T nx m ln pm : Nat} {tn sn : Nat → Nat} {pn im : Nat → Nat → Nat} {tx fm fi : Nat → Nat} {I I' : Nat → Nat → Int32} {J : Nat → Nat → Int64}
theorem fr_T_ (hT : am_tbr sw T) (h : fr_T I I') (g : ar_T T tn I) : ar_T T tn I' := by
  obtain ⟨h1, h2⟩ := h
  unfold ar_T at *
  rcases hT with ⟨-, rfl⟩ | ⟨-, rfl⟩ <;> simp (disch := omega) only [h1, h2] <;> exact g
theorem fr_S_ (h : fr_S I I') (g : ar_S tn sn I) : ar_S tn sn I' := by
  obtain ⟨h1, h2, h3, h4⟩ := h
  unfold ar_S ar_eq at *
  simp only [h1, h2, h3, h4, Nat.reduceAdd] at *
  exact g
theorem fr_P_ (h : fr_P I I') (g : ar_P tn pn nx m I) : ar_P tn pn nx m I' := by
  obtain ⟨h1, h2, h3, h4⟩ := h
  unfold ar_P ar_eq ar_pl at *
  simp (disch := omega) only [h1, h2, h3, h4]
  exact g
theorem fr_I_ (h : fr_I I I') (g : ar_I tn im I) : ar_I tn im I' := by
  obtain ⟨h1, h2, h3, h4⟩ := h
  intro q hq
  have g := g q hq
  unfold ar_eq at *
  simp (disch := omega) only [h1, h2, h3, h4]
  exact g
theorem fr_X_ (h : fr_X I I') (g : ar_X tx ln I) : ar_X tx ln I' := by
  obtain ⟨h1, h2, h3, h4⟩ := h
  unfold ar_X at *
  simp only [h1, h2, h3, h4]
  exact g
theorem fr_F_ (h : fr_F I I') (g : ar_F fm fi pm I) : ar_F fm fi pm I' := by
  obtain ⟨h1, h2, h3, h4, h5⟩ := h
  unfold ar_F at *
  simp only [h1, h2, h3, h4, h5]
  exact g
theorem fr_C_ (hO : ar_told tn) (h : fr_C I I') (g : ar_C tn I J) : ar_C tn I' J := by
  obtain ⟨h1, h2, h3, h4⟩ := h
  obtain ⟨g1, g2, g3, g4, g5⟩ := g
  have o := hO.1
  refine ⟨by rw [h1, g1], by rw [h2, g2], ?_, g4, ?_⟩
  · rw [h3]; exact g3
  · intro e he
    rw [h4 (64 + e) (by omega) (by omega)]
    exact g5 e he
theorem bec_row {k o a : Nat} (h : a ≠ k) (h1 : a ≠ k + 1) (h2 : a ≠ k + 2) : am_bec I k o a = I a := by
  funext j
  exact bec_n h h1 h2
end
/-- all but one part of the relation out of what was -/
theorem bnd_f {x : Int32} {n : Nat} (h : am_bnd x n = false) (hn : n < 2147483648) : x < nI 0 ∨ nI n ≤ x := by
  have := bnd_lo (x := x) hn
  rw [h] at this
  simpa using this
