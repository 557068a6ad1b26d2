/-! THE PLAIN MACHINE IS SOUND: what it runs to, the machine runs to -/
/-- a method's words: its code ahead of the tables -/
def am_ws (y : am_MI) : List Cond := .code y.2.1 y.2.2.1 y.2.2.2.1 y.2.2.2.2 :: am_T
theorem am_ws_good {y : am_MI} (hy : y ∈ am_all) : GoodIn am_T (am_ws y) := by
  have h1 := List.all_eq_true.mp am_mi_all y hy
  have h2 := am_cw_all y hy
  unfold am_miok at h1
  simp only [Bool.and_eq_true] at h1
  intro w hw
  rcases List.mem_cons.mp hw with rfl | hw
  · exact ⟨List.mem_filter.mpr ⟨h2, h1.1.1.1.1.1.1⟩, good_of_word h1.1.1.1.1.1.1⟩
  · exact ⟨hw, good_of_word (am_T_good hw)⟩
def am_Pc (D : va_G) (cA : Nat → ClassId) (b B : Nat) (M : am_Mem) (a : List Value) : Array Value → State → Prop := fun v U => v = (a.map (am_tv b B)).toArray ∧ am_H D cA b B M U U.heap ∧ va_K D vwCl (am_tys cA) U ∧ am_nw U
def am_Qc (D : va_G) (cA : Nat → ClassId) (b B : Nat) (r : Option Value) (M' : am_Mem) : Array Value → State → Outcome → State → Prop := fun _ st oc t => oc = .returned (r.map (am_tv b B)) ∧ am_H D cA b B M' t t.heap ∧ ∀ q, q ≤ B → t.heap[q]? = st.heap[q]?
theorem am_nw.moved {u U : State} (hW : u.WarmedH U.vm) (h : am_nw u) : am_nw U := by
  obtain ⟨h1, h2, h3⟩ := h
  refine ⟨h1.moved hW.alike, ?_, fun e he h9 => va_Nw.warmM hW (h3 e he h9)⟩
  have h9 := (Cond.arrayOver_setVmC (args := #[]) hW.alike (.array .int)).trans h2
  exact h9
theorem am_nw.same {u U : State} (h : u.vm = U.vm) (hn : am_nw u) : am_nw U := by
  have ha : u.vm.Alike U.vm := by rw [h]; exact Vm.Alike.refl _
  obtain ⟨h1, h2, h3⟩ := hn
  refine ⟨h1.moved ha, ?_, fun e he h9 => va_Nw.same rfl h (h3 e he h9)⟩
  have h9 := (Cond.arrayOver_setVmC (args := #[]) ha (.array .int)).trans h2
  exact h9
def am_rm (d : Nat) (M M' : am_Mem) : Room := { frames := d, cells := M'.1.length - M.1.length, slots := am_sl M'.1 - am_sl M.1, locals := 64 * d }
/-- a method's contract, as the plain machine has it -/
def am_Met (l : Launch) (D : va_G) (cA : Nat → ClassId) (b B d : Nat) (y : am_MI) (a : List Value) (M : am_Mem) (v : Option Value) (M' : am_Mem) : Prop := Met l y.2.1 (am_ws y) (am_rm d M M') (am_Pc D cA b B M a) (am_Qc D cA b B v M') (M'.1.length - M.1.length) (am_sl M'.1 - am_sl M.1) (fun q => B < q)
theorem am_Pc_blind (D : va_G) (cA : Nat → ClassId) (b B : Nat) (M : am_Mem) (a : List Value) : FrameBlind (am_Pc D cA b B M a) := by
  intro v U g mk h
  obtain ⟨h1, h2, h3, h4⟩ := h
  exact ⟨h1, am_H.moved (u := U) (U := U.calling g mk v) (Vm.Alike.refl U.vm) h2, va_K.moved (u := U) (U := U.calling g mk v) (Vm.Alike.refl U.vm) h3, am_nw.same (u := U) (U := U.calling g mk v) rfl h4⟩
theorem am_split {st : List Value} {n : Nat} {v : Value} (h : st[n]? = some v) : st = st.take n ++ v :: st.drop (n + 1) ∧ (st.take n).length = n := by
  obtain ⟨hlt, rfl⟩ := List.getElem?_eq_some_iff.mp h
  refine ⟨?_, by rw [List.length_take]; omega⟩
  have h1 := List.take_append_drop n st
  have h2 := List.drop_eq_getElem_cons hlt
  rw [← h2]
  exact h1.symm
section AMX
variable {p : Program} {l : Launch} {e : Env} {R : Room} {s : State} {m : MethodId} {args : Array Value} {below : List Frame} {meth : Method} {c : Code} {QQ : State → Prop}
variable {mi : am_MI} {D : va_G} {cA : Nat → ClassId} {b B n0 s0 d : Nat}
/-- what an end looks like -/
def am_Ret (mi : am_MI) (pc : Nat) (st : List Value) (v : Option Value) : Prop :=
  (∃ x, decode mi.2.2.1 pc = .ok (.ireturn, 1) ∧ st = [.int x] ∧ am_retok mi.2.2.2.2 x = true ∧ v = some (.int x)) ∨ (∃ x, decode mi.2.2.1 pc = .ok (.lreturn, 1) ∧ st = [.long x] ∧ mi.2.2.2.2 = some .long ∧ v = some (.long x)) ∨ (decode mi.2.2.1 pc = .ok (.return_, 1) ∧ st = [] ∧ mi.2.2.2.2 = none ∧ v = none)
/-- a call, once it runs -/
theorem am_goes {H : Heap} {locs : List Loc} {cells slots pc : Nat} {ls : Array Slot} {L : am_Lo} {M M1 : am_Mem} {st0 rest : List Value} {w : Option Value} {a : Array Value} (hC : am_C p s m args meth c mi D cA b B) (hI : am_I s D cA b B n0 s0 mi L M ls H locs cells slots) (hle : am_le M M1)
    (hrun : va_Run p l e R s m args below meth c H locs cells slots (M1.1.length - M.1.length) (am_sl M1.1 - am_sl M.1) (F0 m pc ls st0) (rest.map (am_tv b B)) (am_Qc D cA b B w M1 a) (fun q => B < q))
    (kk : ∀ (H' : Heap) (locs' : List Loc) (cells' slots' : Nat), am_I s D cA b B n0 s0 mi L M1 ls H' locs' cells' slots' → W p l e R s m args below meth c H' locs' cells' slots' QQ (F0 m (pc + 3) ls ((w.toList ++ rest).map (am_tv b B)))) : W p l e R s m args below meth c H locs cells slots QQ (F0 m pc ls st0) := by
  intro T hT X
  obtain ⟨v, st₀, t, T', L9, h0, X', hL, e1, e2, ⟨hq1, hq2, hq3⟩, stp⟩ := hrun T hT X
  obtain ⟨hl, hH, hlocs, hold, hcl, hsl⟩ := hI
  have hv : v = w.map (am_tv b B) := by cases hq1; rfl
  subst hv
  have hal : s.vm.Alike t.vm := by rw [← e2]; exact X'.warmed.alike
  obtain ⟨t2, a1, b1⟩ := kk T'.heap (locs ++ L9) _ _ ⟨hl, by rw [e1]; exact hq2.moved hal.symm, fun x hx => by
      rcases List.mem_append.mp hx with h | h
      · exact hlocs x h
      · exact hL x h, fun q hq => by rw [e1, hq3 q hq, h0]; exact hold q hq, by have := hle.1; omega, by have := hle.2; omega⟩ T' rfl X'
  refine ⟨t2, stp t2 ?_, b1⟩
  have e9 : (w.toList ++ rest).map (am_tv b B) = (w.map (am_tv b B)).toList ++ rest.map (am_tv b B) := by cases w <;> rfl
  rw [e9] at a1
  exact a1
set_option maxHeartbeats 4000000 in
theorem am_snd_run (hmna : am_MNA) (ihd : ∀ (y : am_MI), y ∈ am_all → ∀ (a : List Value) (M : am_Mem) (v : Option Value) (M' : am_Mem), am_le M M' → am_call d y a M (fun v' M'' => v' = v ∧ M'' = M') → am_Met l D cA b B d y a M v M')
    (hC : am_C p s m args meth c mi D cA b B) (hfr : d + 1 ≤ R.frames) (hlo : 64 * d + 60 ≤ R.locals) (v : Option Value) (M' : am_Mem) (hN : M'.1.length ≤ R.cells + n0 ∧ am_sl M'.1 ≤ R.slots + s0)
    (HR : ∀ (H : Heap) (locs : List Loc) (cells slots : Nat) (ls : Array Slot) (pc : Nat) (L : am_Lo) (st : List Value), am_I s D cA b B n0 s0 mi L M' ls H locs cells slots → am_Ret mi pc st v → W p l e R s m args below meth c H locs cells slots QQ (F0 m pc ls (st.map (am_tv b B)))) :
    ∀ (k pc : Nat) (L : am_Lo) (st : List Value) (M : am_Mem) (H : Heap) (locs : List Loc) (cells slots : Nat) (ls : Array Slot), am_run (am_call d) mi k pc L st M (fun v' M'' => v' = v ∧ M'' = M') → am_I s D cA b B n0 s0 mi L M ls H locs cells slots → W p l e R s m args below meth c H locs cells slots QQ (F0 m pc ls (st.map (am_tv b B)))
  | 0, _, _, _, _, _, _, _, _, _, h, _ => h.elim
  | k + 1, pc, L, st, M, H, locs, cells, slots, ls, h, hI => by
    have ih := am_snd_run hmna ihd hC hfr hlo v M' hN HR k
    unfold am_run at h
    cases hs : am_stp mi pc L st M with
    | none => rw [hs] at h; exact h.elim
    | some q =>
      rw [hs] at h
      rcases q with q | q | q
      · obtain ⟨v9, M9, ⟨-, rfl⟩, hle9, -⟩ := am_run_pin (am_call_pin d) mi k _ _ _ _ _ h
        obtain ⟨pc', L', st', M2⟩ := q
        exact am_step hmna hC hI hs ⟨Nat.le_trans hle9.1 hN.1, Nat.le_trans hle9.2 hN.2⟩ (by omega) (by omega) (fun H' locs' cells' slots' ls' hI' => ih _ _ _ _ _ _ _ _ _ h hI')
      · have hE := am_stp_inr hs
        obtain ⟨e1, e2⟩ := h
        have hm := hE.mem.1 q rfl
        rw [hm] at e2
        subst e2
        refine HR H locs cells slots ls pc L st hI ?_
        rcases hE with ⟨k9, -, h⟩ | ⟨k9, -, h⟩ | ⟨k9, -, h⟩ | ⟨x, h1, h2, h3, h4⟩ | ⟨x, h1, h2, h3, h4⟩ | ⟨h1, h2, h3, h4⟩
        · obtain ⟨kind, y, n, -, -, ⟨-, a, -, -, -, -, h⟩ | ⟨-, -, -, h⟩ | ⟨-, -, -, -, a, -, -, h⟩⟩ := am_inst_inr h <;> cases h
        · obtain ⟨kind, y, n, -, -, ⟨-, a, -, -, -, -, h⟩ | ⟨-, -, -, h⟩ | ⟨-, -, -, -, a, -, -, h⟩⟩ := am_inst_inr h <;> cases h
        · obtain ⟨kind, y, n, -, -, ⟨-, a, -, -, -, -, h⟩ | ⟨-, -, -, h⟩ | ⟨-, -, -, -, a, -, -, h⟩⟩ := am_inst_inr h <;> cases h
        · cases h4
          exact Or.inl ⟨x, h1, h2, h3, e1.symm⟩
        · cases h4
          exact Or.inr (Or.inl ⟨x, h1, h2, h3, e1.symm⟩)
        · cases h4
          exact Or.inr (Or.inr ⟨h1, h2, h3, e1.symm⟩)
      · obtain ⟨w, M1, hr1, hle1, hc1⟩ := am_call_pin d _ _ _ _ h
        obtain ⟨v9, M9, ⟨-, rfl⟩, hle9, -⟩ := am_run_pin (am_call_pin d) mi k _ _ _ _ _ hr1
        have hE := am_stp_inr hs
        have hm := hE.mem.2 q rfl
        rw [hm] at hle1 hc1
        obtain ⟨hx, hb, hml, hown, hts, hnm, hK, hnw, hbB⟩ := id hC
        have hcells : cells + (M1.1.length - M.1.length) ≤ R.cells ∧ slots + (am_sl M1.1 - am_sl M.1) ≤ R.slots := by
          have a1 := hI.2.2.2.2.1
          have a2 := hI.2.2.2.2.2
          have a3 := hle1.1
          have a4 := hle1.2
          have a5 := hle9.1
          have a6 := hle9.2
          have a7 := hN.1
          have a8 := hN.2
          omega
        have hroom : ∀ y : am_MI, y ∈ am_all → (am_rm d M M1).frames + 1 ≤ R.frames ∧ 8 + (y.2.2.2.1 + 11) + (am_rm d M M1).locals ≤ R.locals := by
          intro y hy
          have h1 := List.all_eq_true.mp am_mi_all y hy
          unfold am_miok at h1
          simp only [Bool.and_eq_true, decide_eq_true_eq] at h1
          refine ⟨hfr, ?_⟩
          show 8 + (y.2.2.2.1 + 11) + 64 * d ≤ R.locals
          omega
        have hmi : ∀ y : am_MI, y ∈ am_all → am_ok (.initialized y.2.1.cls) = true ∧ y.2.1.cls = am_cn y.1 ∧ y.2.1.cls ≠ "java/lang/invoke/MethodHandle" ∧ y.2.1.cls ≠ "java/lang/invoke/VarHandle" := by
          intro y hy
          have h1 := List.all_eq_true.mp am_mi_all y hy
          unfold am_miok at h1
          simp only [Bool.and_eq_true, decide_eq_true_eq] at h1
          exact ⟨h1.1.1.1.1.1.2, h1.1.1.1.1.2, h1.1.1.2, h1.1.2⟩
        have hpc : ∀ (a : List Value) (U : State), U.heap = H → s.WarmedH U.vm → am_Pc D cA b B M a (a.map (am_tv b B)).toArray U := fun a U hU hW => ⟨rfl, by rw [hU]; exact hI.2.1.moved hW.alike, va_K.moved hW.alike hK, am_nw.moved hW hnw⟩
        have hsz : (F0 m pc ls (st.map (am_tv b B))).locals.size = mi.2.2.2.1 := hI.1.1.1
        have S : CallFix p m c mi.2.2.1 mi.2.2.2.1 s args am_T (am_cn mi.1) := ⟨hx, hb, hml, hown, hts⟩
        rcases hE with ⟨k9, hd, h9⟩ | ⟨k9, hd, h9⟩ | ⟨k9, hd, h9⟩ | ⟨x, -, -, -, h4⟩ | ⟨x, -, -, -, h4⟩ | ⟨-, -, -, h4⟩
        · obtain ⟨kind, y, n, hinv, hkk, ⟨rfl, a, ha, hob, hy8, hcat, hq⟩ | ⟨rfl, -, -, -⟩ | ⟨k0, -, -, -, a, -, -, -⟩⟩ := am_inst_inr h9
          · cases hq
            have hmem := am_fd_mem hinv
            have hy := am_im_in _ hmem
            obtain ⟨hw, hok⟩ := am_in_need hmem
            obtain ⟨g1, g2, g3, g4⟩ := hmi y hy
            have hM := ihd y hy _ _ _ _ hle1 hc1
            obtain ⟨hst, hlen⟩ := am_split ha
            obtain ⟨nob, hnob⟩ := am_isob_at hob
            obtain ⟨p1, had, hat⟩ := hI.2.1.at hnob (by omega)
            unfold am_e1 at hat
            rw [if_pos hy8] at hat
            have hG : GoodIn am_T (wsV (am_cn mi.1) k9 y.2.1.cls y.2.1 (am_ws y)) := by
              intro z hz
              unfold wsV at hz
              rcases List.mem_append.mp hz with hz | hz
              · have hz2 : z ∈ am_T := by
                  simp only [List.mem_cons, List.not_mem_nil, or_false] at hz
                  rcases hz with rfl | rfl | rfl | rfl
                  · exact hw _ (by simp [am_need])
                  · exact hw _ (by simp [am_need])
                  · exact hw _ (by simp [am_need])
                  · exact am_T_in g1
                exact ⟨hz2, good_of_word (am_T_good hz2)⟩
              · exact am_ws_good hy z hz
            have hpar : (parseMethodDescriptor y.2.1.desc).map (fun d => d.parameters.length) = some n := by
              unfold am_call_ok at hok
              exact of_decide_eq_true hok
            refine am_goes hC hI hle1 (rest := st.drop (n + 1)) (va_runV (As := ((st.take n).reverse).map (am_tv b B)) (b := am_ad b B a) S hM (cwV n hts hG rfl rfl rfl ⟨rfl, g3, g4, hpar⟩ (hroom y hy)) ⟨am_Pc_blind D cA b B M _, ?_, fun U hU hW => hpc (.ref a :: (st.take n).reverse) U hU hW⟩ rfl ?_ hsz ?_ (lv_room (by rw [am_cats_tv]; exact hcat)) hd hcells) (fun H' locs' cells' slots' hI' => ih _ _ _ _ _ _ _ _ _ hr1 hI')
            · rw [had]
              have := va_recv hK (am_P1 hat) (ci := y.1) (q0 := 0) (am_cl_ci hy8) rfl
              rw [g2]
              exact this
            · rw [List.length_map, List.length_reverse]
              exact hlen
            · show st.map (am_tv b B) = _
              rw [← List.map_reverse, List.reverse_reverse]
              conv => lhs; rw [hst]
              rw [List.map_append]
              rfl
          · simp at hkk
          · simp at hkk
            exact absurd hkk k0
        · obtain ⟨kind, y, n, hinv, hkk, ⟨rfl, a, ha, hob, hy8, hcat, hq⟩ | ⟨rfl, hlen, hcat, hq⟩ | ⟨-, k1, -, k5, a, -, -, -⟩⟩ := am_inst_inr h9
          · simp at hkk
          · cases hq
            have hmem := am_fd_mem hinv
            have hy := am_im_in _ hmem
            obtain ⟨hw, hok⟩ := am_in_need hmem
            obtain ⟨g1, g2, g3, g4⟩ := hmi y hy
            have hM := ihd y hy _ _ _ _ hle1 hc1
            have hG : GoodIn am_T (va_wsS (am_cn mi.1) k9 y.2.1 (am_ws y)) := by
              intro z hz
              unfold va_wsS at hz
              rcases List.mem_append.mp hz with hz | hz
              · have hz2 : z ∈ am_T := by
                  simp only [List.mem_cons, List.not_mem_nil, or_false] at hz
                  rcases hz with rfl | rfl | rfl
                  · exact hw _ (by simp [am_need])
                  · exact hw _ (by simp [am_need])
                  · exact am_T_in g1
                exact ⟨hz2, good_of_word (am_T_good hz2)⟩
              · exact am_ws_good hy z hz
            have hpar : (parseMethodDescriptor y.2.1.desc).map (fun d => d.parameters.length) = some n := by
              unfold am_call_ok at hok
              exact of_decide_eq_true hok
            refine am_goes hC hI hle1 (rest := st.drop n) (va_runS (As := ((st.take n).reverse).map (am_tv b B)) S hM (va_cwS n hts hG rfl rfl rfl ⟨g3, g4, hpar⟩ (hroom y hy)) ⟨am_Pc_blind D cA b B M _, fun U hU hW => hpc ((st.take n).reverse) U hU hW⟩ rfl ?_ hsz ?_ (lv_room (by rw [am_cats_tv]; exact hcat)) hd hcells) (fun H' locs' cells' slots' hI' => ih _ _ _ _ _ _ _ _ _ hr1 hI')
            · rw [List.length_map, List.length_reverse, List.length_take]
              omega
            · show st.map (am_tv b B) = _
              rw [← List.map_reverse, List.reverse_reverse, ← List.map_append, List.take_append_drop]
          · simp at hkk
            rcases hkk with hkk | hkk
            · exact absurd hkk k1
            · exact absurd hkk k5
        · obtain ⟨kind, y, n, hinv, hkk, ⟨rfl, a, ha, hob, hy8, hcat, hq⟩ | ⟨rfl, -, -, -⟩ | ⟨-, -, k4, -, a, ha, hcat, hq⟩⟩ := am_inst_inr h9
          · simp at hkk
          · simp at hkk
          · cases hq
            have hmem := am_fd_mem hinv
            have hy := am_im_in _ hmem
            obtain ⟨hw, hok⟩ := am_in_need hmem
            obtain ⟨g1, g2, g3, g4⟩ := hmi y hy
            have hM := ihd y hy _ _ _ _ hle1 hc1
            obtain ⟨hst, hlen⟩ := am_split ha
            have hl1 : (((st.take n).reverse).map (am_tv b B)).length = n := by
              rw [List.length_map, List.length_reverse]
              exact hlen
            have hl2 : (F0 m pc ls (st.map (am_tv b B))).stack = (((st.take n).reverse).map (am_tv b B)).reverse ++ .ref (am_ad b B a) :: (st.drop (n + 1)).map (am_tv b B) := by
              show st.map (am_tv b B) = _
              rw [← List.map_reverse, List.reverse_reverse]
              conv => lhs; rw [hst]
              rw [List.map_append]
              rfl
            have hk23 : kind = 2 ∨ kind = 3 := by
              simp at hkk
              omega
            rcases hk23 with rfl | rfl
            · have hok2 : (y.2.1.name = "<init>" ∧ y.2.2.2.2 = none) ∧ (parseMethodDescriptor y.2.1.desc).map (fun d => d.parameters.length) = some n := by
                simpa [am_call_ok] using hok
              have hws : am_ws y = Cond.code y.2.1 y.2.2.1 y.2.2.2.1 none :: am_T := by unfold am_ws; rw [hok2.1.2]
              exact am_goes hC hI hle1 (rest := st.drop (n + 1)) (va_runI (As := ((st.take n).reverse).map (am_tv b B)) (b := am_ad b B a) S hM (cwI n hts (am_ws_good hy) hws rfl rfl (hts _ (am_T_in g1)) (hts _ (hw _ (by simp [am_need]))) (hts _ (hw _ (by simp [am_need]))) hok2.1.1 ⟨g3, g4, hok2.2⟩ (hroom y hy)) ⟨am_Pc_blind D cA b B M _, fun U hU hW => hpc (.ref a :: (st.take n).reverse) U hU hW⟩ rfl hl1 hsz hl2 (lv_room (by rw [am_cats_tv]; exact hcat)) hd hcells) (fun H' locs' cells' slots' hI' => ih _ _ _ _ _ _ _ _ _ hr1 hI')
            · have hok2 : (y.2.1.name = "<init>" ∧ y.2.2.2.2 = none) ∧ (parseMethodDescriptor y.2.1.desc).map (fun d => d.parameters.length) = some n := by
                simpa [am_call_ok] using hok
              have hws : am_ws y = Cond.code y.2.1 y.2.2.1 y.2.2.2.1 none :: am_T := by unfold am_ws; rw [hok2.1.2]
              exact am_goes hC hI hle1 (rest := st.drop (n + 1)) (va_runIN (As := ((st.take n).reverse).map (am_tv b B)) (b := am_ad b B a) S hM ⟨va_cnB n hts (am_ws_good hy) hws rfl rfl (hnw.2.2 _ hmem rfl) (hts _ (am_T_in g1)) ⟨g3, g4, hok2.2⟩ (hroom y hy), hok2.1.1, hts _ (hw _ (by simp [am_need]))⟩ ⟨am_Pc_blind D cA b B M _, fun U hU hW => hpc (.ref a :: (st.take n).reverse) U hU hW⟩ rfl hl1 hsz hl2 (lv_room (by rw [am_cats_tv]; exact hcat)) hd hcells) (fun H' locs' cells' slots' hI' => ih _ _ _ _ _ _ _ _ _ hr1 hI')
        · cases h4
        · cases h4
        · cases h4
end AMX
