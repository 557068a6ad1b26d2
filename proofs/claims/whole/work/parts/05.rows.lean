/-! an instruction of the plain machine is one of the machine's -/
/-- what stays through a method's run -/
def am_C (p : Program) (s : State) (m : MethodId) (args : Array Value) (meth : Method) (c : Code) (mi : am_MI) (D : va_G) (cA : Nat → ClassId) (b B : Nat) : Prop :=
  p.tables.exec = Jvm.exec ∧ c.code = mi.2.2.1 ∧ c.maxLocals = mi.2.2.2.1 ∧ s.vm.findClass (am_cn mi.1) = some m.cls ∧ (∀ w ∈ am_T, w.before args s = true) ∧ (mi.2.1.name = "<init>" → meth.name = mi.2.1.name) ∧ va_K D vwCl (am_tys cA) s ∧ am_nw s ∧ b ≤ B
/-- what changes: the locals, the heap, what is written, what is made -/
def am_I (s : State) (D : va_G) (cA : Nat → ClassId) (b B n0 s0 : Nat) (mi : am_MI) (L : am_Lo) (M : am_Mem) (ls : Array Slot) (H : Heap) (locs : List Loc) (cells slots : Nat) : Prop :=
  (lv_has ls mi.2.2.2.1 (am_ll b B L) ∧ L.length = mi.2.2.2.1) ∧ am_H D cA b B M s H ∧ (∀ l ∈ locs, B < l.base) ∧ (∀ q, q ≤ B → H[q]? = s.heap[q]?) ∧ cells + n0 = M.1.length ∧ slots + s0 = am_sl M.1
theorem am_il_1 {i : Instr} {n k : Nat} (h : n = am_il i n) (hk : am_il i n = k) : n = k := h.trans hk
section AMR
variable {p : Program} {l : Launch} {e : Env} {R : Room} {s : State} {m : MethodId} {args : Array Value} {below : List Frame} {meth : Method} {c : Code} {H : Heap} {locs : List Loc} {cells slots : Nat} {QQ : State → Prop}
variable {mi : am_MI} {D : va_G} {cA : Nat → ClassId} {b B n0 s0 pc pc' : Nat} {L L' : am_Lo} {st st' : List Value} {M M' : am_Mem} {ls : Array Slot}
theorem as_b2 {f : Int32 → Int32 → Int32} (h : am_b2 f pc L st M = some (.inl (pc', L', st', M'))) (hI : am_I s D cA b B n0 s0 mi L M ls H locs cells slots)
    (row : ∀ (y x : Int32) (rest : List Value), W p l e R s m args below meth c H locs cells slots QQ (F0 m (pc + 1) ls (.int (f x y) :: rest)) → W p l e R s m args below meth c H locs cells slots QQ (F0 m pc ls (.int y :: .int x :: rest)))
    (kk : ∀ (H' : Heap) (locs' : List Loc) (cells' slots' : Nat) (ls' : Array Slot), am_I s D cA b B n0 s0 mi L' M' ls' H' locs' cells' slots' → W p l e R s m args below meth c H' locs' cells' slots' QQ (F0 m pc' ls' (st'.map (am_tv b B)))) : W p l e R s m args below meth c H locs cells slots QQ (F0 m pc ls (st.map (am_tv b B))) := by
  unfold am_b2 at h
  split at h
  · cases h
    exact row _ _ _ (kk H locs cells slots ls hI)
  · cases h
theorem as_l2 {f : Int64 → Int64 → Int64} (h : am_l2 f pc L st M = some (.inl (pc', L', st', M'))) (hI : am_I s D cA b B n0 s0 mi L M ls H locs cells slots)
    (row : ∀ (y x : Int64) (rest : List Value), W p l e R s m args below meth c H locs cells slots QQ (F0 m (pc + 1) ls (.long (f x y) :: rest)) → W p l e R s m args below meth c H locs cells slots QQ (F0 m pc ls (.long y :: .long x :: rest)))
    (kk : ∀ (H' : Heap) (locs' : List Loc) (cells' slots' : Nat) (ls' : Array Slot), am_I s D cA b B n0 s0 mi L' M' ls' H' locs' cells' slots' → W p l e R s m args below meth c H' locs' cells' slots' QQ (F0 m pc' ls' (st'.map (am_tv b B)))) : W p l e R s m args below meth c H locs cells slots QQ (F0 m pc ls (st.map (am_tv b B))) := by
  unfold am_l2 at h
  split at h
  · cases h
    exact row _ _ _ (kk H locs cells slots ls hI)
  · cases h
theorem as_ld {i n : Nat} {ok : Value → Bool} (h : am_ld i n pc L st M ok = some (.inl (pc', L', st', M'))) (hI : am_I s D cA b B n0 s0 mi L M ls H locs cells slots)
    (row : ∀ (v : Value) (rest : List Value), ok v = true → ls[i]? = some (.val (am_tv b B v)) → W p l e R s m args below meth c H locs cells slots QQ (F0 m (pc + n) ls (am_tv b B v :: rest)) → W p l e R s m args below meth c H locs cells slots QQ (F0 m pc ls rest))
    (kk : ∀ (H' : Heap) (locs' : List Loc) (cells' slots' : Nat) (ls' : Array Slot), am_I s D cA b B n0 s0 mi L' M' ls' H' locs' cells' slots' → W p l e R s m args below meth c H' locs' cells' slots' QQ (F0 m pc' ls' (st'.map (am_tv b B)))) : W p l e R s m args below meth c H locs cells slots QQ (F0 m pc ls (st.map (am_tv b B))) := by
  unfold am_ld at h
  split at h
  · rename_i v hv
    split at h
    · rename_i hok
      cases h
      exact row v _ hok (am_ll_at hI.1.1 hv) (kk H locs cells slots ls hI)
    · cases h
  · cases h
theorem as_sto {i n : Nat} {ok : Value → Bool} (hok1 : ∀ v, ok v = true → v.category = 1) (h : am_sto i n pc L st M ok = some (.inl (pc', L', st', M'))) (hI : am_I s D cA b B n0 s0 mi L M ls H locs cells slots)
    (row : ∀ (v : Value) (rest : List Value), ok v = true → (∀ ls' : Array Slot, lv_has ls' mi.2.2.2.1 ((i, am_tv b B v) :: (am_ll b B L).filter (fun q => !(q.1 == i) && !(q.1 + 1 == i && q.2.category == 2))) → W p l e R s m args below meth c H locs cells slots QQ (F0 m (pc + n) ls' rest)) → i < mi.2.2.2.1 → W p l e R s m args below meth c H locs cells slots QQ (F0 m pc ls (am_tv b B v :: rest)))
    (kk : ∀ (H' : Heap) (locs' : List Loc) (cells' slots' : Nat) (ls' : Array Slot), am_I s D cA b B n0 s0 mi L' M' ls' H' locs' cells' slots' → W p l e R s m args below meth c H' locs' cells' slots' QQ (F0 m pc' ls' (st'.map (am_tv b B)))) : W p l e R s m args below meth c H locs cells slots QQ (F0 m pc ls (st.map (am_tv b B))) := by
  unfold am_sto at h
  split at h
  · rename_i v r
    split at h
    · rename_i hok
      cases h
      obtain ⟨⟨hl, hL⟩, hrest⟩ := hI
      refine row v _ hok.1 (fun ls' h9 => kk H locs cells slots ls' ⟨⟨am_ll_st1 h9, by rw [am_st1_len]; exact hL⟩, hrest⟩) (by rw [← hL]; exact hok.2)
    · cases h
  · cases h
theorem as_stoJ {i n : Nat} (h : am_stoJ i n pc L st M = some (.inl (pc', L', st', M'))) (hI : am_I s D cA b B n0 s0 mi L M ls H locs cells slots)
    (row : ∀ (v : Int64) (rest : List Value), (∀ ls' : Array Slot, lv_has ls' mi.2.2.2.1 ((i, .long v) :: (am_ll b B L).filter (fun q => !(q.1 == i) && (!(q.1 == i + 1) && !(q.1 + 1 == i && q.2.category == 2)))) → W p l e R s m args below meth c H locs cells slots QQ (F0 m (pc + n) ls' rest)) → i + 1 < mi.2.2.2.1 → W p l e R s m args below meth c H locs cells slots QQ (F0 m pc ls (.long v :: rest)))
    (kk : ∀ (H' : Heap) (locs' : List Loc) (cells' slots' : Nat) (ls' : Array Slot), am_I s D cA b B n0 s0 mi L' M' ls' H' locs' cells' slots' → W p l e R s m args below meth c H' locs' cells' slots' QQ (F0 m pc' ls' (st'.map (am_tv b B)))) : W p l e R s m args below meth c H locs cells slots QQ (F0 m pc ls (st.map (am_tv b B))) := by
  unfold am_stoJ at h
  split at h
  · rename_i v r
    split at h
    · rename_i hok
      cases h
      obtain ⟨⟨hl, hL⟩, hrest⟩ := hI
      refine row v _ (fun ls' h9 => kk H locs cells slots ls' ⟨⟨am_ll_st2 (v := .long v) h9, by rw [am_st2_len]; exact hL⟩, hrest⟩) (by rw [← hL]; exact hok)
    · cases h
  · cases h
theorem as_jump {off : Int} (h : am_jump pc off L st M = some (.inl (pc', L', st', M'))) : (pc : Int) + off = (pc' : Int) ∧ L' = L ∧ st' = st ∧ M' = M := by
  unfold am_jump at h
  split at h
  · cases h
    refine ⟨?_, rfl, rfl, rfl⟩
    omega
  · cases h
theorem as_cmp {cd : ClassFile.Cond} {x y : Int32} {n : Nat} {off : Int} (h : am_cmp cd x y pc n off L st M = some (.inl (pc', L', st', M'))) :
    (L' = L ∧ st' = st ∧ M' = M) ∧ ∃ tgt : Nat, (pc : Int) + off = (tgt : Int) ∧ ((am_hold cd x y ∧ tgt = pc') ∨ ((¬ am_hold cd x y) ∧ pc' = pc + n)) := by
  have key : ∀ (P : Prop) [Decidable P], am_br P pc n off L st M = some (.inl (pc', L', st', M')) → (L' = L ∧ st' = st ∧ M' = M) ∧ ∃ tgt : Nat, (pc : Int) + off = (tgt : Int) ∧ ((P ∧ tgt = pc') ∨ ((¬ P) ∧ pc' = pc + n)) := by
    intro P _ h
    unfold am_br at h
    split at h
    · rename_i h0
      split at h
      · rename_i hp
        cases h
        exact ⟨⟨rfl, rfl, rfl⟩, ((pc : Int) + off).toNat, by omega, Or.inl ⟨hp, rfl⟩⟩
      · rename_i hp
        cases h
        exact ⟨⟨rfl, rfl, rfl⟩, ((pc : Int) + off).toNat, by omega, Or.inr ⟨hp, rfl⟩⟩
    · cases h
  cases cd
  · exact key (x = y) h
  · exact key (¬ x = y) h
  · exact key (x < y) h
  · exact key (y ≤ x) h
  · exact key (y < x) h
  · exact key (x ≤ y) h
theorem as_icmp {cd : ClassFile.Cond} {x y : Int32} {off : Int} {rest : List Value} {tgt : Nat} (hx : p.tables.exec = Jvm.exec) (hb : c.code = mi.2.2.1) (hd : decode mi.2.2.1 pc = .ok (.if_icmp cd off, 3)) (ht : (pc : Int) + off = (tgt : Int))
    (h : (am_hold cd x y ∧ tgt = pc') ∨ ((¬ am_hold cd x y) ∧ pc' = pc + 3))
    (kk : W p l e R s m args below meth c H locs cells slots QQ (F0 m pc' ls rest)) : W p l e R s m args below meth c H locs cells slots QQ (F0 m pc ls (.int y :: .int x :: rest)) := by
  rcases h with ⟨hc, rfl⟩ | ⟨hc, rfl⟩
  · cases cd
    · exact lv_icmp_eq hx hb hd ht (fun _ => kk) (fun q => absurd hc q)
    · exact lv_icmp_ne hx hb hd ht (fun _ => kk) (fun q => absurd q hc)
    · exact lv_icmp_lt hx hb hd ht (fun _ => kk) (fun q => absurd hc q)
    · exact lv_icmp_ge hx hb hd ht (fun _ => kk) (fun q => absurd hc q)
    · exact lv_icmp_gt hx hb hd ht (fun _ => kk) (fun q => absurd hc q)
    · exact lv_icmp_le hx hb hd ht (fun _ => kk) (fun q => absurd hc q)
  · cases cd
    · exact lv_icmp_eq hx hb hd ht (fun q => absurd q hc) (fun _ => kk)
    · exact lv_icmp_ne hx hb hd ht (fun q => absurd q hc) (fun _ => kk)
    · exact lv_icmp_lt hx hb hd ht (fun q => absurd q hc) (fun _ => kk)
    · exact lv_icmp_ge hx hb hd ht (fun q => absurd q hc) (fun _ => kk)
    · exact lv_icmp_gt hx hb hd ht (fun q => absurd q hc) (fun _ => kk)
    · exact lv_icmp_le hx hb hd ht (fun q => absurd q hc) (fun _ => kk)
theorem as_if {cd : ClassFile.Cond} {x : Int32} {off : Int} {rest : List Value} {tgt : Nat} (hx : p.tables.exec = Jvm.exec) (hb : c.code = mi.2.2.1) (hd : decode mi.2.2.1 pc = .ok (.ifCond cd off, 3)) (ht : (pc : Int) + off = (tgt : Int))
    (h : (am_hold cd x 0 ∧ tgt = pc') ∨ ((¬ am_hold cd x 0) ∧ pc' = pc + 3))
    (kk : W p l e R s m args below meth c H locs cells slots QQ (F0 m pc' ls rest)) : W p l e R s m args below meth c H locs cells slots QQ (F0 m pc ls (.int x :: rest)) := by
  rcases h with ⟨hc, rfl⟩ | ⟨hc, rfl⟩
  · cases cd
    · exact lv_if_eq hx hb hd ht (fun _ => kk) (fun q => absurd hc q)
    · exact lv_if_ne hx hb hd ht (fun _ => kk) (fun q => absurd q hc)
    · exact lv_if_lt hx hb hd ht (fun _ => kk) (fun q => absurd hc q)
    · exact lv_if_ge hx hb hd ht (fun _ => kk) (fun q => absurd hc q)
    · exact lv_if_gt hx hb hd ht (fun _ => kk) (fun q => absurd hc q)
    · exact lv_if_le hx hb hd ht (fun _ => kk) (fun q => absurd hc q)
  · cases cd
    · exact lv_if_eq hx hb hd ht (fun q => absurd q hc) (fun _ => kk)
    · exact lv_if_ne hx hb hd ht (fun q => absurd q hc) (fun _ => kk)
    · exact lv_if_lt hx hb hd ht (fun q => absurd q hc) (fun _ => kk)
    · exact lv_if_ge hx hb hd ht (fun q => absurd q hc) (fun _ => kk)
    · exact lv_if_gt hx hb hd ht (fun q => absurd q hc) (fun _ => kk)
    · exact lv_if_le hx hb hd ht (fun q => absurd q hc) (fun _ => kk)
theorem am_isob_at {sh : am_Sh} {a ci : Nat} (h : am_isob sh a ci = true) : ∃ n, sh[a]? = some (ci, n) := by
  unfold am_isob at h
  rw [beq_iff_eq, Option.map_eq_some_iff] at h
  obtain ⟨⟨t, n⟩, h1, h2⟩ := h
  exact ⟨n, by rw [h1]; cases h2; rfl⟩
theorem am_inb_at {sh : am_Sh} {a k : Nat} {i : Int32} (h : am_inb sh a k i = true) : ∃ n, sh[a]? = some (k, n) ∧ vp_in i n := by
  unfold am_inb am_len at h
  simp only [Bool.and_eq_true, Bool.not_eq_true', decide_eq_false_iff_not, decide_eq_true_eq] at h
  split at h
  · rename_i k' n hk
    split at h
    · rename_i e
      subst e
      exact ⟨n, hk, fun q => q.elim h.1 (fun q => by omega)⟩
    · exact absurd h.2 (by omega)
  · exact absurd h.2 (by omega)
theorem am_fv_len (cA : Nat → ClassId) (b B : Nat) (M : am_Mem) (k t : Nat) : ((List.range (am_nf t)).map (fun j => am_tv b B (am_fval t j M k))).length = am_nf t := by simp
theorem am_fv_get (b B : Nat) (M : am_Mem) (k t j : Nat) (hj : j < am_nf t) : ((List.range (am_nf t)).map (fun j => am_tv b B (am_fval t j M k)))[j]? = some (am_tv b B (am_fval t j M k)) := by
  rw [List.getElem?_map, List.getElem?_range hj]
  rfl
theorem am_cl_ci {ci : Nat} (h : ci < 8) : vwCl[ci]? = some (am_cn ci, am_TX ci, am_nf ci) := by
  rcases (show ci = 0 ∨ ci = 1 ∨ ci = 2 ∨ ci = 3 ∨ ci = 4 ∨ ci = 5 ∨ ci = 6 ∨ ci = 7 by omega) with rfl | rfl | rfl | rfl | rfl | rfl | rfl | rfl <;> rfl
theorem am_wf_in {ci : Nat} (h : ci < 8) : ∀ w ∈ u_ws (am_cn ci) (am_TX ci) (am_nf ci), w ∈ am_T := by
  have h1 := List.all_eq_true.mp am_wf_all ci (List.mem_range.mpr h)
  simp only [Bool.and_eq_true] at h1
  intro w hw
  exact am_T_in (List.all_eq_true.mp h1.1 w hw)
theorem am_fl_in {c i ci k : Nat} (h : am_fl c i = some (ci, k)) : Cond.fieldLink (am_cn c) i (am_cn ci) (am_TX ci k).2.1 (am_TX ci k).2.2.1 ∈ am_T := am_T_in (List.all_eq_true.mp am_fl_all _ (am_fd_mem h))
theorem am_own_of {ci k : Nat} (h8 : ci < 8) (hk : k < am_nf ci) : (am_TX ci k).1 = am_cn ci := by
  have key : (List.range 8).all (fun ci => (List.range (am_nf ci)).all (fun k => decide ((am_TX ci k).1 = am_cn ci))) = true := by decide +kernel
  have h1 := List.all_eq_true.mp key ci (List.mem_range.mpr h8)
  exact of_decide_eq_true (List.all_eq_true.mp h1 k (List.mem_range.mpr hk))
theorem as_get {idx : Nat} (hC : am_C p s m args meth c mi D cA b B) (hd : decode mi.2.2.1 pc = .ok (.getfield idx, 3)) (h : am_get mi idx pc L st M = some (.inl (pc', L', st', M'))) (hI : am_I s D cA b B n0 s0 mi L M ls H locs cells slots)
    (kk : ∀ (H' : Heap) (locs' : List Loc) (cells' slots' : Nat) (ls' : Array Slot), am_I s D cA b B n0 s0 mi L' M' ls' H' locs' cells' slots' → W p l e R s m args below meth c H' locs' cells' slots' QQ (F0 m pc' ls' (st'.map (am_tv b B)))) : W p l e R s m args below meth c H locs cells slots QQ (F0 m pc ls (st.map (am_tv b B))) := by
  unfold am_get at h
  split at h
  · rename_i a r
    split at h
    · rename_i ci k hf
      split at h
      · rename_i hc
        obtain ⟨ho, h8, hk⟩ := hc
        cases h
        obtain ⟨hx, hb, hml, hown, hts, hnm, hK, hnw, hbB⟩ := hC
        obtain ⟨n, hn⟩ := am_isob_at ho
        obtain ⟨h1, had, hat⟩ := hI.2.1.at hn (by omega)
        unfold am_e1 at hat
        rw [if_pos h8] at hat
        have hP : va_P D vwCl [(B + a, .inr (ci, (List.range (am_nf ci)).map (fun j => am_tv b B (am_fval ci j M a))))] H := fun k9 x9 hx9 => by
          have h0 : k9 < 1 := (List.getElem?_eq_some_iff.mp hx9).1
          rw [show k9 = 0 by omega] at hx9
          cases hx9
          exact hat
        show W p l e R s m args below meth c H locs cells slots QQ (F0 m pc ls (.ref (am_ad b B a) :: r.map (am_tv b B)))
        rw [had]
        exact va_get hx hb hts (am_wf_in h8) hown hK hP 0 rfl (am_cl_ci h8) k hk (hts _ (am_fl_in hf)) (fun x h => by rw [← am_own_of h8 hk]; exact h) (am_fv_get b B M a ci k hk) hd (kk H locs cells slots ls hI)
      · cases h
    · cases h
  · cases h
end AMR
