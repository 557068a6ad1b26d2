/-! the law's walk, out of the plain machine's run of it -/
/-- what the tables say of int[][]: taken as given here, proved in the part before the last -/
def am_GRD : Prop := ∀ s : State, (Cond.arrayOver (.array .int)).before #[] s = true → ∃ c : ClassId, ArrOfT s c (.array .int) ∧ s.vm.findClass "[[I" = some c
def am_M0 (L : Nat) (xs : Nat → Int32) : am_Mem := ([(13, L)], fun _ j => xs j, fun _ _ => 0, fun _ _ => none)
def am_law0 (d : Nat) : Prop := ∀ (L : Nat) (xs : Nat → Int32), L ≤ 2048 → am_wp d mL_law 0 [some (.ref 0), none, none, none] [] (am_M0 L xs) (fun v M' => v = some (.int 1) ∧ M'.1.length ≤ 600000 ∧ am_sl M'.1 ≤ 7302250)
theorem am_Kn {ws : List Cond} {args : Array Value} {s : State} (hts : ∀ w ∈ am_T, w.before args s = true) {ci : Nat} (h : ci < 8) : ∃ (c : ClassId) (iS : Nat → Nat), u_Kn s (am_cn ci) (am_TX ci) (am_nf ci) c iS := by
  have h1 := List.all_eq_true.mp am_wf_all ci (List.mem_range.mpr h)
  simp only [Bool.and_eq_true] at h1
  exact u_known hts (am_wf_in h) (hts _ (am_T_in h1.2))
theorem am_Arr {args : Array Value} {s : State} {ty : FieldType} (hty : ∀ C, ty ≠ .object C) (h : (Cond.arrayClass ty).before args s = true) : ∃ c : ClassId, ArrOfT s c ty ∧ va_RA s c ty := by
  obtain ⟨c, k, comp, h1, h2, h3⟩ := Cond.arrayClass_spec h
  refine ⟨c, fun n z => ⟨fun q hq => (by cases hq), k, h2, comp, h3⟩, ?_⟩
  cases ty with
  | object C => exact absurd rfl (hty C)
  | _ => exact h1
set_option maxHeartbeats 4000000 in
theorem am_whole (hmna : am_MNA) (hgrd : am_GRD) {d : Nat} (hd : d + 1 ≤ 1000) (hpure : am_law0 d) {p : Program} {e : Env} {s : State} {m : MethodId} {below : List Frame} {meth : Method} {c : Code} (l : Launch) (hflags : l.flags = flags0) {b L : Nat} {xs : Nat → Int32} (hL : L ≤ 2048) (C0 : lw_At p s m meth c b L xs) : W p l e room_1 s m #[Value.ref b] below meth c s.heap [] 0 0 (lw_Z below #[Value.ref b] s) (entryFrame m ([Value.ref b] : List Value).toArray 4) := by
  obtain ⟨hx, hb, hr, hml, hown, hts0, hX, hbl, hlocks, hgv⟩ := id C0
  have hts : ∀ w ∈ am_T, w.before #[Value.ref b] s = true := fun w hw => hts0 w (List.mem_filter.mp hw).1
  have hKn : ∀ ci, ∃ q : ClassId × (Nat → Nat), ci < 8 → u_Kn s (am_cn ci) (am_TX ci) (am_nf ci) q.1 q.2 := by
    intro ci
    by_cases h : ci < 8
    · obtain ⟨c, iS, h9⟩ := am_Kn (ws := []) hts h
      exact ⟨(c, iS), fun _ => h9⟩
    · exact ⟨(0, fun _ => 0), fun h9 => absurd h9 h⟩
  obtain ⟨cI, aI1, aI2⟩ := am_Arr (ty := .int) (fun C h => by cases h) (hts _ (am_T_in am_ar_all.1))
  obtain ⟨cJ, aJ1, aJ2⟩ := am_Arr (ty := .long) (fun C h => by cases h) (hts _ (am_T_in am_ar_all.2.1))
  obtain ⟨cZ, aZ1, aZ2⟩ := am_Arr (ty := .boolean) (fun C h => by cases h) (hts _ (am_T_in am_ar_all.2.2.1))
  have hAO : va_AO RX3 s := va_AO.of (hts0 _ am_ar_all.2.2.2.1)
  have hAG : (Cond.arrayOver (.array .int)).before #[] s = true := hts0 _ am_ar_all.2.2.2.2
  obtain ⟨compS, cS, kS, s1, s2, s3, s4, s5⟩ := Cond.arrayOver_spec hAO
  obtain ⟨cG, g1, g2⟩ := hgrd s hAG
  let D : va_G := (fun ci => (Classical.choose (hKn ci)).1, fun ci => (Classical.choose (hKn ci)).2)
  let cA : Nat → ClassId := fun t => if t = 8 then cI else if t = 9 then cJ else if t = 10 then cZ else if t = 11 then cS else cG
  have hK : va_K D vwCl (am_tys cA) s := by
    refine ⟨fun ci q hq => ?_, fun k q hq => ?_⟩
    · have h8 : ci < 8 := (List.getElem?_eq_some_iff.mp hq).1
      rw [am_cl_ci h8] at hq
      cases hq
      exact Classical.choose_spec (hKn ci) h8
    · have h5 : k < 5 := (List.getElem?_eq_some_iff.mp hq).1
      rcases (show k = 0 ∨ k = 1 ∨ k = 2 ∨ k = 3 ∨ k = 4 by omega) with rfl | rfl | rfl | rfl | rfl
      · cases hq; exact ⟨aI1, aI2⟩
      · cases hq; exact ⟨aJ1, aJ2⟩
      · cases hq; exact ⟨aZ1, aZ2⟩
      · cases hq; exact ⟨fun n z => ⟨fun q hq => (by cases hq), kS, s3, compS, s4⟩, kS, compS, s3, s4, s1, s5⟩
      · cases hq; exact ⟨g1, g2⟩
  have hnw : am_nw s := by
    refine ⟨hAO, hAG, fun e9 he h3 => ?_⟩
    have h9 := List.all_eq_true.mp am_ne_all e9 (List.mem_filter.mpr ⟨he, by simp [h3]⟩)
    exact va_Nw.of rfl (hts0 _ (of_decide_eq_true h9))
  obtain ⟨B, hB⟩ : ∃ B, s.heap.size = B + 1 := ⟨s.heap.size - 1, by omega⟩
  have hbB : b ≤ B := by omega
  have hC : am_C p s m #[Value.ref b] meth c mL_law D cA b B := ⟨hx, hb, hml, hown, hts, fun h => absurd h (by decide), hK, hnw, hbB⟩
  obtain ⟨k, hk⟩ := hpure L xs hL
  obtain ⟨v, M', ⟨rfl, hb1, hb2⟩, hle, hrun⟩ := am_run_pin (am_call_pin d) mL_law k _ _ _ _ _ hk
  rw [lg_entry_eq]
  have hent := am_entry b B mL_law [.ref 0] (by decide) (fun v hv => by rw [List.mem_singleton.mp hv]; rfl)
  refine am_snd_run (d := d) (n0 := 1) (s0 := L) (M' := M') hmna (am_snd l hmna D cA b B hbB d) hC (by show d + 1 ≤ 2048; omega) (by show 64 * d + 60 ≤ 84000; omega) (some (.int 1)) ⟨?_, ?_⟩ ?_ k 0 [some (.ref 0), none, none, none] [] (am_M0 L xs) s.heap [] 0 0 _ hrun ⟨⟨?_, rfl⟩, ⟨hB, ⟨L, rfl, hX⟩, fun j h1 h2 => ?_⟩, fun x hx => (by cases hx), fun q _ => rfl, rfl, ?_⟩
  · show _ ≤ 600000 + 1
    omega
  · show _ ≤ 7302250 + L
    omega
  · intro H locs cells slots ls pc L9 st hI hR
    obtain ⟨hl, hH', hlocs, hold, hcl, hsl⟩ := hI
    rcases hR with ⟨x, hd9, rfl, hok, hv⟩ | ⟨x, hd9, rfl, hok, hv⟩ | ⟨hd9, rfl, hok, hv⟩
    · cases hv
      refine va_forget (fun q hq => by have := hlocs q hq; omega) (W.widen (k := 600000) (n := 7302250) (by omega) (by omega) ?_)
      exact lw_ret hx hb hr hlocks hd9
    · cases hv
    · cases hv
  · exact hent.1
  · have : j < 1 := h2
    omega
  · show 0 + L = am_sl [(13, L)]
    simp [am_sl, am_sl1]
