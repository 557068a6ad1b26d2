/-! THE PLAIN MACHINE IS SOUND: what it runs to, the machine runs to -/
/-- a method's words: its code ahead of the tables -/
def am_ws (y : am_MI) : List Cond := .code y.2.1 y.2.2.1 y.2.2.2.1 y.2.2.2.2 :: am_T
theorem am_ws_good {y : am_MI} (hy : y ∈ am_all) : GoodIn am_T (am_ws y) := by
  have h1 := List.all_eq_true.mp am_mi_all y hy
  have h2 := am_cw_all y hy
  unfold am_miok at h1
  simp only [Bool.and_eq_true] at h1
  intro w hw
  rcases List.mem_cons.mp hw with rfl | hw
  · exact ⟨List.mem_filter.mpr ⟨h2, h1.1.1.1.1.1.1⟩, good_of_word h1.1.1.1.1.1.1⟩
  · exact ⟨hw, good_of_word (am_T_good hw)⟩
def am_Pc (D : va_G) (cA : Nat → ClassId) (b B : Nat) (M : am_Mem) (a : List Value) : Array Value → State → Prop := fun v U => v = (a.map (am_tv b B)).toArray ∧ am_H D cA b B M U U.heap ∧ va_K D vwCl (am_tys cA) U ∧ am_nw U
def am_Qc (D : va_G) (cA : Nat → ClassId) (b B : Nat) (r : Option Value) (M' : am_Mem) : Array Value → State → Outcome → State → Prop := fun _ st oc t => oc = .returned (r.map (am_tv b B)) ∧ am_H D cA b B M' t t.heap ∧ ∀ q, q ≤ B → t.heap[q]? = st.heap[q]?
theorem am_nw.moved {u U : State} (hW : u.WarmedH U.vm) (h : am_nw u) : am_nw U := by
  obtain ⟨h1, h2, h3⟩ := h
  refine ⟨h1.moved hW.alike, ?_, fun e he h9 => va_Nw.warmM hW (h3 e he h9)⟩
  sorry
