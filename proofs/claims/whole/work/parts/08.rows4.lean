/-! what is made; copies -/
theorem am_cut_lt {α : Type} {f : Nat → Nat → α} {n : Nat} {z : α} {k : Nat} (h : k < n) : am_cut f n z k = f k := by
  funext j
  exact if_pos h
theorem am_cut_ge {α : Type} {f : Nat → Nat → α} {n : Nat} {z : α} {k : Nat} (h : n ≤ k) : am_cut f n z k = fun _ => z := by
  funext j
  exact if_neg (by omega)
/-- cells are made: what stays of the run's state -/
theorem am_I_new {s : State} {D : va_G} {cA : Nat → ClassId} {b B n0 s0 : Nat} {mi : am_MI} {L : am_Lo} {M : am_Mem} {ls : Array Slot} {H H1 : Heap} {locs : List Loc} {cells slots : Nat} (hI : am_I s D cA b B n0 s0 mi L M ls H locs cells slots) (hbB : b ≤ B) (l : am_Sh) (R' : Nat → Nat → Option Nat) (hR : ∀ k, k < M.1.length → R' k = M.2.2.2 k) (hsz : H1.size = H.size + l.length) (oq : ∀ q, q < H.size → H1[q]? = H[q]?)
    (he : ∀ i t n, l[i]? = some (t, n) → va_at D vwCl (B + (M.1.length + i), am_e1 cA b B (am_addc M l R') (M.1.length + i) t n) H1) : am_I s D cA b B n0 s0 mi L (am_addc M l R') ls H1 locs (cells + l.length) (slots + am_sl l) := by
  obtain ⟨hl, ⟨a1, ⟨n, a2, a3⟩, a4⟩, hlocs, hold, hcl, hsl⟩ := hI
  have hpos : 0 < M.1.length := (List.getElem?_eq_some_iff.mp a2).1
  refine ⟨hl, ⟨?_, ⟨n, ?_, ?_⟩, fun k hk hlt => ?_⟩, hlocs, fun q hq => ?_, ?_, ?_⟩
  · rw [hsz, a1]
    show _ = B + (M.1 ++ l).length
    rw [List.length_append]
    omega
  · show (M.1 ++ l)[0]? = _
    rw [List.getElem?_append_left hpos]
    exact a2
  · have e0 : (am_addc M l R').2.1 0 = M.2.1 0 := am_cut_lt hpos
    rw [e0]
    exact a3.kept (oq b (by omega))
  · by_cases hk2 : k < M.1.length
    · have e2 : am_e cA b B (am_addc M l R') k = am_e cA b B M k := by
        have q1 : (am_addc M l R').2.1 k = M.2.1 k := am_cut_lt hk2
        have q2 : (am_addc M l R').2.2.1 k = M.2.2.1 k := am_cut_lt hk2
        have q3 : (am_addc M l R').2.2.2 k = M.2.2.2 k := hR k hk2
        have q0 : (am_addc M l R').1[k]? = M.1[k]? := List.getElem?_append_left hk2
        unfold am_e
        rw [q0]
        cases M.1[k]? with
        | none => rfl
        | some q =>
          show am_e1 _ _ _ _ _ _ _ = am_e1 _ _ _ _ _ _ _
          unfold am_e1 am_fval
          rw [q1, q2, q3]
      rw [e2]
      exact (a4 k hk hk2).kept (oq _ (by show B + k < H.size; omega))
    · have hlt2 : k < M.1.length + l.length := by
        have : k < (M.1 ++ l).length := hlt
        rw [List.length_append] at this
        exact this
      obtain ⟨i, rfl⟩ : ∃ i, k = M.1.length + i := ⟨k - M.1.length, by omega⟩
      have hi : i < l.length := by omega
      have hg : (am_addc M l R').1[M.1.length + i]? = some l[i] := by
        show (M.1 ++ l)[M.1.length + i]? = _
        rw [List.getElem?_append_right (by omega), Nat.add_sub_cancel_left]
        exact List.getElem?_eq_getElem hi
      unfold am_e
      rw [hg]
      exact he i _ _ (List.getElem?_eq_getElem hi)
  · rw [oq q (by omega)]
    exact hold q hq
  · show _ = (M.1 ++ l).length
    rw [List.length_append]
    omega
  · show _ = am_sl (M.1 ++ l)
    rw [am_sl_app]
    omega
section AMN
variable {p : Program} {l : Launch} {e : Env} {R : Room} {s : State} {m : MethodId} {args : Array Value} {below : List Frame} {meth : Method} {c : Code} {H : Heap} {locs : List Loc} {cells slots : Nat} {QQ : State → Prop}
variable {mi : am_MI} {D : va_G} {cA : Nat → ClassId} {b B n0 s0 pc pc' : Nat} {L L' : am_Lo} {st st' : List Value} {M M' : am_Mem} {ls : Array Slot}
theorem am_dv {ci j : Nat} (h8 : ci < 8) (hj : j < am_nf ci) : defaultValue (am_ty ci j) = (match am_fty ci j with | 1 => .long 0 | 2 => .null | _ => .int 0) := by
  have key : (List.range 8).all (fun ci => (List.range (am_nf ci)).all (fun j => decide (defaultValue (am_ty ci j) = (match am_fty ci j with | 1 => .long 0 | 2 => .null | _ => .int 0)))) = true := by decide +kernel
  have h1 := List.all_eq_true.mp key ci (List.mem_range.mpr h8)
  exact of_decide_eq_true (List.all_eq_true.mp h1 j (List.mem_range.mpr hj))
theorem as_new {idx : Nat} (hC : am_C p s m args meth c mi D cA b B) (hd : decode mi.2.2.1 pc = .ok (.new idx, 3)) (h : am_new mi idx pc L st M = some (.inl (pc', L', st', M'))) (hI : am_I s D cA b B n0 s0 mi L M ls H locs cells slots)
    (hle : M'.1.length ≤ R.cells + n0 ∧ am_sl M'.1 ≤ R.slots + s0)
    (kk : ∀ (H' : Heap) (locs' : List Loc) (cells' slots' : Nat) (ls' : Array Slot), am_I s D cA b B n0 s0 mi L' M' ls' H' locs' cells' slots' → W p l e R s m args below meth c H' locs' cells' slots' QQ (F0 m pc' ls' (st'.map (am_tv b B)))) : W p l e R s m args below meth c H locs cells slots QQ (F0 m pc ls (st.map (am_tv b B))) := by
  unfold am_new at h
  split at h
  · rename_i ci hf
    split at h
    · rename_i h8
      cases h
      obtain ⟨hx, hb, hml, hown, hts, hnm, hK, hnw, hbB⟩ := hC
      have hz := List.all_eq_true.mp am_cl_all _ (am_fd_mem hf)
      simp only [if_pos h8, Bool.and_eq_true] at hz
      obtain ⟨⟨z1, z2⟩, z3⟩ := hz
      have hKn := hK.1 ci _ (am_cl_ci h8)
      have hHs := hI.2.1.1
      have hpos : 1 ≤ M.1.length := by
        obtain ⟨n, a2, -⟩ := hI.2.1.2.1
        exact (List.getElem?_eq_some_iff.mp a2).1
      have hc1 : cells + 1 ≤ R.cells := by
        have h1 : M.1.length + 1 ≤ R.cells + n0 := by simpa [am_addc] using hle.1
        have h2 := hI.2.2.2.2.1
        omega
      have hc2 : slots + am_nf ci ≤ R.slots := by
        have h1 : am_sl M.1 + am_nf ci ≤ R.slots + s0 := by
          have := hle.2
          simp only [am_addc, am_sl_app] at this
          simpa [am_sl, am_sl1, h8] using this
        have h2 := hI.2.2.2.2.2
        omega
      refine W.newcK hx hb hown (hts _ (am_T_in z1)) (hts _ (am_T_in z2)) (hts _ (am_T_in z3)) rfl hd hc1 hc2 hKn.2.1 rfl fun H1 kC hkC e1 z1' o1 => ?_
      have hk := kk H1 locs (cells + 1) (slots + am_nf ci) ls ?_
      · show W p l e R s m args below meth c H1 locs (cells + 1) (slots + am_nf ci) QQ (F0 m (pc + 3) ls (.ref H.size :: st.map (am_tv b B)))
        rw [hHs, ← am_ad_pos hpos]
        exact hk
      · have hg := am_I_new hI hbB [(ci, 0)] (am_cut M.2.2.2 M.1.length none) (fun k hk => am_cut_lt hk) (H1 := H1) z1' o1 (fun i t n hi => ?_)
        · simpa [am_sl, am_sl1, h8] using hg
        · have hi0 : i = 0 := by
            have := (List.getElem?_eq_some_iff.mp hi).1
            simp at this
            exact this
          subst hi0
          cases hi
          unfold am_e1
          rw [if_pos h8]
          refine ⟨_, am_cl_ci h8, (u_born (am_ty ci) hts (am_wf_in h8) hKn hkC (by rw [Nat.add_zero, ← hHs]; exact e1) (fun j hj => am_ty_ok h8 hj)).to (fun j hj => ?_)⟩
          show _ = vp_V _ j
          unfold vp_V
          rw [List.getD_eq_getElem?_getD, am_fv_get b B _ _ ci j hj]
          show _ = am_tv b B _
          have q1 : (am_addc M [(ci, 0)] (am_cut M.2.2.2 M.1.length none)).2.1 (M.1.length + 0) j = 0 := by
            show am_cut M.2.1 M.1.length 0 (M.1.length + 0) j = 0
            rw [am_cut_ge (by omega)]
          have q2 : (am_addc M [(ci, 0)] (am_cut M.2.2.2 M.1.length none)).2.2.1 (M.1.length + 0) j = 0 := by
            show am_cut M.2.2.1 M.1.length 0 (M.1.length + 0) j = 0
            rw [am_cut_ge (by omega)]
          have q3 : (am_addc M [(ci, 0)] (am_cut M.2.2.2 M.1.length none)).2.2.2 (M.1.length + 0) j = none := by
            show am_cut M.2.2.2 M.1.length none (M.1.length + 0) j = none
            rw [am_cut_ge (by omega)]
          rw [am_dv h8 hj]
          unfold am_fval
          rw [q1, q2, q3]
          generalize am_fty ci j = z
          rcases z with _ | _ | _ | z <;> rfl
    · cases h
  · cases h
theorem as_newa {t : ArrayType} (hC : am_C p s m args meth c mi D cA b B) (hd : decode mi.2.2.1 pc = .ok (.newarray t, 2)) (h : am_newa t pc L st M = some (.inl (pc', L', st', M'))) (hI : am_I s D cA b B n0 s0 mi L M ls H locs cells slots)
    (hle : M'.1.length ≤ R.cells + n0 ∧ am_sl M'.1 ≤ R.slots + s0)
    (kk : ∀ (H' : Heap) (locs' : List Loc) (cells' slots' : Nat) (ls' : Array Slot), am_I s D cA b B n0 s0 mi L' M' ls' H' locs' cells' slots' → W p l e R s m args below meth c H' locs' cells' slots' QQ (F0 m pc' ls' (st'.map (am_tv b B)))) : W p l e R s m args below meth c H locs cells slots QQ (F0 m pc ls (st.map (am_tv b B))) := by
  unfold am_newa at h
  split at h
  · rename_i k n r hk9
    split at h
    · rename_i hn
      obtain ⟨hn0, hn1⟩ := hn
      cases h
      obtain ⟨hx, hb, hml, hown, hts, hnm, hK, hnw, hbB⟩ := hC
      have hHs := hI.2.1.1
      have hpos : 1 ≤ M.1.length := by
        obtain ⟨n, a2, -⟩ := hI.2.1.2.1
        exact (List.getElem?_eq_some_iff.mp a2).1
      have hkk : (k = 8 ∧ t = .int) ∨ (k = 9 ∧ t = .long) ∨ (k = 10 ∧ t = .boolean) := by
        cases t <;> simp [am_akind] at hk9 <;> simp [hk9]
      have hsl1 : am_sl1 (k, n.toNatClampNeg) = n.toNatClampNeg := by
        unfold am_sl1
        rw [if_neg (by show ¬ k < 8; omega)]
      have hc1 : cells + 1 ≤ R.cells := by
        have h1 : M.1.length + 1 ≤ R.cells + n0 := by simpa [am_addc] using hle.1
        have h2 := hI.2.2.2.2.1
        omega
      have hc2 : slots + n.toNatClampNeg ≤ R.slots := by
        have h1 : am_sl M.1 + n.toNatClampNeg ≤ R.slots + s0 := by
          have := hle.2
          simp only [am_addc, am_sl_app] at this
          simpa [am_sl, hsl1] using this
        have h2 := hI.2.2.2.2.2
        omega
      have hat : ∀ (H1 : Heap) (c9 : ClassId) (x : vp_A), H1[H.size]? = some (vp_cell c9 x) → am_e1 cA b B (am_addc M [(k, n.toNatClampNeg)] (am_cut M.2.2.2 M.1.length none)) (M.1.length + 0) k n.toNatClampNeg = .inl (c9, x) → H1.size = H.size + 1 → (∀ q, q < H.size → H1[q]? = H[q]?) → W p l e R s m args below meth c H1 locs (cells + 1) (slots + n.toNatClampNeg) QQ (F0 m (pc + 2) ls (.ref H.size :: r.map (am_tv b B))) := by
        intro H1 c9 x e1 e2 z1 o1
        have hk := kk H1 locs (cells + 1) (slots + n.toNatClampNeg) ls ?_
        · rw [hHs, ← am_ad_pos hpos]
          exact hk
        · have hg := am_I_new hI hbB [(k, n.toNatClampNeg)] (am_cut M.2.2.2 M.1.length none) (fun k hk => am_cut_lt hk) (H1 := H1) z1 o1 (fun i t n hi => ?_)
          · simpa [am_sl, hsl1] using hg
          · have hi0 : i = 0 := by
              have := (List.getElem?_eq_some_iff.mp hi).1
              simp at this
              exact this
            subst hi0
            cases hi
            rw [e2, Nat.add_zero, ← hHs]
            exact e1
      rcases hkk with ⟨rfl, rfl⟩ | ⟨rfl, rfl⟩ | ⟨rfl, rfl⟩
      · refine va_newaK (atype := .int) hx hb (hts _ (am_T_in am_ar_all.1)) rfl hd rfl hn0 rfl (by show _ * 4 ≤ _; omega) hc1 hc2 rfl fun H1 cA9 e1 z1 o1 hA hNm => ?_
        have hcA : cA9 = cA 8 := Option.some.inj (hNm.symm.trans (hK.2 0 _ rfl).2)
        subst hcA
        refine hat H1 (cA 8) (n.toNatClampNeg, .inl (fun _ => 0)) e1 ?_ z1 o1
        show Sum.inl (cA 8, n.toNatClampNeg, Sum.inl (am_cut M.2.1 M.1.length 0 (M.1.length + 0))) = _
        rw [am_cut_ge (by omega)]
      · refine va_newaK (atype := .long) hx hb (hts _ (am_T_in am_ar_all.2.1)) rfl hd rfl hn0 rfl (by show _ * 8 ≤ _; omega) hc1 hc2 rfl fun H1 cA9 e1 z1 o1 hA hNm => ?_
        have hcA : cA9 = cA 9 := Option.some.inj (hNm.symm.trans (hK.2 1 _ rfl).2)
        subst hcA
        refine hat H1 (cA 9) (n.toNatClampNeg, .inr (.inl (fun _ => 0))) e1 ?_ z1 o1
        show Sum.inl (cA 9, n.toNatClampNeg, Sum.inr (Sum.inl (am_cut M.2.2.1 M.1.length 0 (M.1.length + 0)))) = _
        rw [am_cut_ge (by omega)]
      · refine va_newaK (atype := .boolean) hx hb (hts _ (am_T_in am_ar_all.2.2.1)) rfl hd rfl hn0 rfl (by show _ * 1 ≤ _; omega) hc1 hc2 rfl fun H1 cA9 e1 z1 o1 hA hNm => ?_
        have hcA : cA9 = cA 10 := Option.some.inj (hNm.symm.trans (hK.2 2 _ rfl).2)
        subst hcA
        refine hat H1 (cA 10) (n.toNatClampNeg, .inl (fun _ => 0)) e1 ?_ z1 o1
        show Sum.inl (cA 10, n.toNatClampNeg, Sum.inl (am_cut M.2.1 M.1.length 0 (M.1.length + 0))) = _
        rw [am_cut_ge (by omega)]
    · cases h
  · cases h
theorem as_newq {idx : Nat} (hC : am_C p s m args meth c mi D cA b B) (hd : decode mi.2.2.1 pc = .ok (.anewarray idx, 3)) (h : am_newq mi idx pc L st M = some (.inl (pc', L', st', M'))) (hI : am_I s D cA b B n0 s0 mi L M ls H locs cells slots)
    (hle : M'.1.length ≤ R.cells + n0 ∧ am_sl M'.1 ≤ R.slots + s0)
    (kk : ∀ (H' : Heap) (locs' : List Loc) (cells' slots' : Nat) (ls' : Array Slot), am_I s D cA b B n0 s0 mi L' M' ls' H' locs' cells' slots' → W p l e R s m args below meth c H' locs' cells' slots' QQ (F0 m pc' ls' (st'.map (am_tv b B)))) : W p l e R s m args below meth c H locs cells slots QQ (F0 m pc ls (st.map (am_tv b B))) := by
  unfold am_newq at h
  split at h
  · rename_i ci n r hf
    split at h
    · rename_i hn
      obtain ⟨rfl, hn0, hn1⟩ := hn
      cases h
      obtain ⟨hx, hb, hml, hown, hts, hnm, hK, hnw, hbB⟩ := hC
      have hz := List.all_eq_true.mp am_cl_all _ (am_fd_mem hf)
      simp only [if_pos (show (3 : Nat) < 8 by omega), Bool.and_eq_true] at hz
      obtain ⟨⟨zz1, -⟩, -⟩ := hz
      have hHs := hI.2.1.1
      have hpos : 1 ≤ M.1.length := by
        obtain ⟨n, a2, -⟩ := hI.2.1.2.1
        exact (List.getElem?_eq_some_iff.mp a2).1
      have hsl1 : am_sl1 (11, n.toNatClampNeg) = n.toNatClampNeg := rfl
      have hc1 : cells + 1 ≤ R.cells := by
        have h1 : M.1.length + 1 ≤ R.cells + n0 := by simpa [am_addc] using hle.1
        have h2 := hI.2.2.2.2.1
        omega
      have hc2 : slots + n.toNatClampNeg ≤ R.slots := by
        have h1 : am_sl M.1 + n.toNatClampNeg ≤ R.slots + s0 := by
          have := hle.2
          simp only [am_addc, am_sl_app] at this
          simpa [am_sl, hsl1] using this
        have h2 := hI.2.2.2.2.2
        omega
      refine W.anew (C := RX3) hx hb hown (hts _ (am_T_in zz1)) (va_AO.use hnw.1) rfl hd rfl hn0 (by omega) hc1 hc2 fun c9 kA comp f1 f2 f3 f4 => ?_
      generalize hH1 : H.push ({ cls := c9, slots := Array.replicate n.toNatClampNeg .null, vm := .none } : Cell) = H1
      have z1 : H1.size = H.size + 1 := by rw [← hH1, Array.size_push]
      have e1 : H1[H.size]? = some (arrV c9 n.toNatClampNeg (fun _ => .null)) := by rw [← hH1, Array.getElem?_push_size, ← arrV_new]
      have o1 : ∀ q : Nat, q < H.size → H1[q]? = H[q]? := fun q hq => by rw [← hH1, Array.getElem?_push, if_neg (Nat.ne_of_lt hq)]
      have hcA : c9 = cA 11 := by
        obtain ⟨_, _, _, _, _, g⟩ := (hK.2 3 _ rfl).2
        exact Option.some.inj (f1.symm.trans g)
      subst hcA
      have hk := kk H1 locs (cells + 1) (slots + n.toNatClampNeg) ls ?_
      · show W p l e R s m args below meth c H1 locs (cells + 1) (slots + n.toNatClampNeg) QQ (F0 m (pc + 3) ls (.ref H.size :: r.map (am_tv b B)))
        rw [hHs, ← am_ad_pos hpos]
        exact hk
      · have hg := am_I_new hI hbB [(11, n.toNatClampNeg)] (am_cut M.2.2.2 M.1.length none) (fun k hk => am_cut_lt hk) (H1 := H1) z1 o1 (fun i t n hi => ?_)
        · simpa [am_sl, hsl1] using hg
        · have hi0 : i = 0 := by
            have := (List.getElem?_eq_some_iff.mp hi).1
            simp at this
            exact this
          subst hi0
          cases hi
          show H1[B + (M.1.length + 0)]? = some (vp_cell (cA 11) (n.toNatClampNeg, .inr (.inr (.inr (.inr (fun j => (am_cut M.2.2.2 M.1.length none (M.1.length + 0) j).map (am_ad b B)))))))
          rw [am_cut_ge (by omega), Nat.add_zero, ← hHs, vp_cell_q]
          exact e1
    · cases h
  · cases h
end AMN
