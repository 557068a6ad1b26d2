/-! what is written, what is made -/
section AMP
variable {p : Program} {l : Launch} {e : Env} {R : Room} {s : State} {m : MethodId} {args : Array Value} {below : List Frame} {meth : Method} {c : Code} {H : Heap} {locs : List Loc} {cells slots : Nat} {QQ : State → Prop}
variable {mi : am_MI} {D : va_G} {cA : Nat → ClassId} {b B n0 s0 pc pc' : Nat} {L L' : am_Lo} {st st' : List Value} {M M' : am_Mem} {ls : Array Slot}
/-- a field is written: the cell has it, nothing else moves -/
theorem am_putw {cc : ByteArray} (hexec : p.tables.exec = Jvm.exec) (hb : c.code = cc) {own C : String} {T : u_T} {N ci index a : Nat} (hts : ∀ w ∈ am_T, w.before args s = true) (hin : ∀ w ∈ u_ws C T N, w ∈ am_T) (ty0 : Nat → FieldType) (hty : ∀ k, k < N → parseFieldDescriptor (T k).2.2.1 = some (ty0 k)) (hnm : ∀ a, a < N → ∀ b, b < N → a ≠ b → (T a).2.1 ≠ (T b).2.1) (hown : s.vm.findClass own = some m.cls) (hK : va_K D vwCl (am_tys cA) s) {fs : List Value} (hP : va_at D vwCl (a, .inr (ci, fs)) H) (hc : vwCl[ci]? = some (C, T, N)) (k : Nat) (hk : k < N) (hlink : (Cond.fieldLink own index (T k).1 (T k).2.1 (T k).2.2.1).before args s = true) (hfin : (T k).2.2.2 = true → meth.name = "<init>" ∧ (T k).1 = own) {ty : FieldType} {v : Value} (hd : parseFieldDescriptor (T k).2.2.1 = some ty) (hn : narrow ty v = v) (hfit : fits ty v = true) (hl : k < fs.length)
    {rest : List Value} (hdg : decode cc pc = .ok (.putfield index, 3)) (kk : ∀ (H1 : Heap) (j : Nat), va_at D vwCl (a, .inr (ci, fs.set k v)) H1 → H1.size = H.size → (∀ q, q ≠ a → H1[q]? = H[q]?) → W p l e R s m args below meth c H1 (locs ++ [⟨a, j⟩]) cells slots QQ (F0 m (pc + 3) ls rest)) : W p l e R s m args below meth c H locs cells slots QQ (F0 m pc ls (v :: .ref a :: rest)) := by
  have hap := va_apart (own := own) hts hin ty0 hty hnm hK hc
  obtain ⟨r, h1, cell, q1, q2, q3, q4⟩ := hP
  have hr : r = (C, T, N) := Option.some.inj (h1.symm.trans hc)
  subst hr
  obtain ⟨hS, hfc, kC, hkC, hkind⟩ := hK.1 ci _ hc
  obtain ⟨cf, kf, fi, f, hi, hsl⟩ := hS k hk
  have hlay := hts _ (hin _ (u_in_lay hk))
  have hst := (u_facts hfc hkC (u_lays hts hin hk) hi).1
  unfold u_lay at hlay
  by_cases hf : (T k).2.2.2 = true
  · rw [if_pos hf] at hlay
    have hcf : m.cls = cf := by
      obtain ⟨_, _, c', _, _, _, -, -, hf', -, -, -, hown2, -⟩ := Cond.laysFinal_spec hlay
      have e1 : c' = cf := by have := hi.symm.trans hf'; simp at this; exact this.1.symm
      rw [(hfin hf).2] at hown2
      rw [← e1]; exact Option.some.inj (hown.symm.trans hown2)
    have h6 := u_fits hfc hkC hkind (Or.inr hlay) hi hd hn hfit
    refine W.putFinK hexec hb hown hlink hi hst hcf (hfin hf).1 (by rw [q2]; exact h6) q1 q3 (by rw [hsl]; exact k2_hasslot (q4 k hk)) rfl rfl hdg fun H' e1 e2 e3 => ?_
    rw [hsl] at e1 ⊢
    exact kk H' _ ⟨_, hc, t_OB.to (V := updV (vp_V fs) k v) ⟨_, e1, q2, q3, t_set q4 hap hk v⟩ (fun j _ => vp_updV_set hl v j)⟩ e2 e3
  · rw [if_neg hf] at hlay
    have h6 := u_store hfc hkC hkind hlay hi hd hn hfit
    refine W.putK hexec hb (f := f) ⟨hown, hlink, ⟨_, _, _, hi⟩, hst⟩ (by rw [q2]; exact h6) q1 q3 (by rw [hsl]; exact k2_hasslot (q4 k hk)) rfl rfl hdg fun H' e1 e2 e3 => ?_
    rw [hsl] at e1 ⊢
    exact kk H' _ ⟨_, hc, t_OB.to (V := updV (vp_V fs) k v) ⟨_, e1, q2, q3, t_set q4 hap hk v⟩ (fun j _ => vp_updV_set hl v j)⟩ e2 e3
theorem am_ty_ok {ci k : Nat} (h8 : ci < 8) (hk : k < am_nf ci) : parseFieldDescriptor (am_TX ci k).2.2.1 = some (am_ty ci k) := by
  have key : (List.range 8).all (fun ci => (List.range (am_nf ci)).all (fun k => decide (parseFieldDescriptor (am_TX ci k).2.2.1 = some (am_ty ci k)))) = true := by decide +kernel
  have h1 := List.all_eq_true.mp key ci (List.mem_range.mpr h8)
  exact of_decide_eq_true (List.all_eq_true.mp h1 k (List.mem_range.mpr hk))
theorem am_ty_nm {ci : Nat} (h8 : ci < 8) : ∀ a, a < am_nf ci → ∀ b, b < am_nf ci → a ≠ b → (am_TX ci a).2.1 ≠ (am_TX ci b).2.1 := by
  rcases (show ci = 0 ∨ ci = 1 ∨ ci = 2 ∨ ci = 3 ∨ ci = 4 ∨ ci = 5 ∨ ci = 6 ∨ ci = 7 by omega) with rfl | rfl | rfl | rfl | rfl | rfl | rfl | rfl
  · exact nmX0
  · exact nmX1
  · exact nmX2
  · exact nmX3
  · exact nmX4
  · exact nmX5
  · exact nmX6
  · exact nmX7
theorem am_code_of {t : FieldType} {v : Value} (b B : Nat) (h : (am_code t = 0 ∧ ∃ x, v = .int x) ∨ (am_code t = 3 ∧ (v = .int 0 ∨ v = .int 1)) ∨ (am_code t = 1 ∧ ∃ x, v = .long x) ∨ (t.isReference = true ∧ ∃ x, v = .ref x)) : narrow t (am_tv b B v) = am_tv b B v ∧ fits t (am_tv b B v) = true := by
  rcases h with ⟨h, x, rfl⟩ | ⟨h, rfl | rfl⟩ | ⟨h, x, rfl⟩ | ⟨h, x, rfl⟩
  · cases t <;> simp [am_code] at h <;> exact ⟨rfl, rfl⟩
  · cases t <;> simp [am_code] at h <;> exact (by decide : narrow .boolean (.int 0) = .int 0 ∧ fits .boolean (.int 0) = true)
  · cases t <;> simp [am_code] at h <;> exact (by decide : narrow .boolean (.int 1) = .int 1 ∧ fits .boolean (.int 1) = true)
  · cases t <;> simp [am_code] at h <;> exact ⟨rfl, rfl⟩
  · cases t <;> first | exact ⟨rfl, rfl⟩ | (simp [FieldType.isReference] at h)
theorem am_ref_ok {ci k : Nat} (h8 : ci < 8) (hk : k < am_nf ci) (h : am_fty ci k = 2) : (am_ty ci k).isReference = true := by
  have key : (List.range 8).all (fun ci => (List.range (am_nf ci)).all (fun k => !decide (am_fty ci k = 2) || (am_ty ci k).isReference)) = true := by decide +kernel
  have h1 := List.all_eq_true.mp key ci (List.mem_range.mpr h8)
  have h2 := List.all_eq_true.mp h1 k (List.mem_range.mpr hk)
  simpa [h] using h2
theorem am_up_ne {α : Type} {f : Nat → Nat → α} {k i : Nat} {v : α} {j : Nat} (h : j ≠ k) : am_up f k i v j = f j := by
  funext x
  unfold am_up
  rw [if_neg (fun q => h q.1)]
theorem am_up_eq {α : Type} {f : Nat → Nat → α} {k i : Nat} {v : α} : am_up f k i v k = fun j => if j = i then v else f k j := by
  funext x
  unfold am_up
  by_cases e : x = i
  · rw [if_pos ⟨rfl, e⟩, if_pos e]
  · rw [if_neg (fun q => e q.2), if_neg e]
/-- what am_pv writes -/
theorem am_pv_ok {ci k a : Nat} {v : Value} (b B : Nat) (h8 : ci < 8) (hk : k < am_nf ci) (h : am_pv ci k a v M = some M') :
    (narrow (am_ty ci k) (am_tv b B v) = am_tv b B v ∧ fits (am_ty ci k) (am_tv b B v) = true) ∧ M'.1 = M.1 ∧ (∀ j, j ≠ a → M'.2.1 j = M.2.1 j ∧ M'.2.2.1 j = M.2.2.1 j ∧ M'.2.2.2 j = M.2.2.2 j) ∧ (am_fval ci k M' a = v) ∧ ∀ j, j ≠ k → am_fval ci j M' a = am_fval ci j M a := by
  unfold am_pv at h
  split at h
  · rename_i hty
    cases h
    refine ⟨am_code_of b B (Or.inl ⟨hty, _, rfl⟩), rfl, fun j hj => ⟨am_up_ne hj, rfl, rfl⟩, ?_, fun j hj => ?_⟩
    · unfold am_fval
      rw [hty]
      simp [am_up]
    · unfold am_fval
      simp [am_up, hj]
  · rename_i x hty
    split at h
    · rename_i hx
      cases h
      refine ⟨am_code_of b B (Or.inr (Or.inl ⟨hty, by rcases hx with rfl | rfl <;> simp⟩)), rfl, fun j hj => ⟨am_up_ne hj, rfl, rfl⟩, ?_, fun j hj => ?_⟩
      · unfold am_fval
        rw [hty]
        simp [am_up]
      · unfold am_fval
        simp [am_up, hj]
    · cases h
  · rename_i x hty
    cases h
    refine ⟨am_code_of b B (Or.inr (Or.inr (Or.inl ⟨hty, _, rfl⟩))), rfl, fun j hj => ⟨rfl, am_up_ne hj, rfl⟩, ?_, fun j hj => ?_⟩
    · unfold am_fval
      rw [hty]
      simp [am_up]
    · unfold am_fval
      simp [am_up, hj]
  · rename_i x hty
    cases h
    refine ⟨am_code_of b B (Or.inr (Or.inr (Or.inr ⟨am_ref_ok h8 hk hty, _, rfl⟩))), rfl, fun j hj => ⟨rfl, rfl, am_up_ne hj⟩, ?_, fun j hj => ?_⟩
    · unfold am_fval
      rw [hty]
      simp [am_up, va_rf]
    · unfold am_fval
      simp [am_up, hj]
  · cases h
theorem as_put {idx : Nat} (hC : am_C p s m args meth c mi D cA b B) (hd : decode mi.2.2.1 pc = .ok (.putfield idx, 3)) (h : am_put mi idx pc L st M = some (.inl (pc', L', st', M'))) (hI : am_I s D cA b B n0 s0 mi L M ls H locs cells slots)
    (kk : ∀ (H' : Heap) (locs' : List Loc) (cells' slots' : Nat) (ls' : Array Slot), am_I s D cA b B n0 s0 mi L' M' ls' H' locs' cells' slots' → W p l e R s m args below meth c H' locs' cells' slots' QQ (F0 m pc' ls' (st'.map (am_tv b B)))) : W p l e R s m args below meth c H locs cells slots QQ (F0 m pc ls (st.map (am_tv b B))) := by
  unfold am_put at h
  split at h
  · rename_i v a r
    split at h
    · rename_i ci k hf
      split at h
      · rename_i hc
        obtain ⟨ho, h8, hk, hfin, ha⟩ := hc
        split at h
        · rename_i M2 hM2
          cases h
          obtain ⟨hx, hb, hml, hown, hts, hnm, hK, hnw, hbB⟩ := hC
          obtain ⟨n, hn⟩ := am_isob_at ho
          obtain ⟨hl, hH, hlocs, hold, hcl, hsl⟩ := hI
          obtain ⟨h1, had, hat⟩ := hH.at hn (by omega)
          obtain ⟨⟨q1, q2⟩, q3, q4, q5, q6⟩ := am_pv_ok b B h8 hk hM2
          unfold am_e1 at hat
          rw [if_pos h8] at hat
          show W p l e R s m args below meth c H locs cells slots QQ (F0 m pc ls (am_tv b B v :: .ref (am_ad b B a) :: st'.map (am_tv b B)))
          rw [had]
          refine am_putw hx hb hts (am_wf_in h8) (am_ty ci) (fun j hj => am_ty_ok h8 hj) (am_ty_nm h8) hown hK hat (am_cl_ci h8) k hk (by rw [am_own_of h8 hk]; exact hts _ (am_fl_in hf)) (fun hfi => ?_) (am_ty_ok h8 hk) q1 q2 (by rw [am_fv_len cA]; exact hk) hd (fun H1 j9 e1 e2 e3 => ?_)
          · obtain ⟨z1, z2⟩ := hfin hfi
            refine ⟨(hnm z1).trans z1, ?_⟩
            rw [am_own_of h8 hk, z2]
          · refine kk H1 _ cells slots ls ⟨hl, hH.set hbB h1 hn e2 e3 ?_ q3 q4, fun x hx9 => ?_, fun q hq => ?_, by rw [q3]; exact hcl, by rw [q3]; exact hsl⟩
            · unfold am_e1
              rw [if_pos h8]
              have e9 : (List.range (am_nf ci)).map (fun j => am_tv b B (am_fval ci j M' a)) = ((List.range (am_nf ci)).map (fun j => am_tv b B (am_fval ci j M a))).set k (am_tv b B v) := by
                apply List.ext_getElem?
                intro j
                by_cases hj : j < am_nf ci
                · by_cases e : j = k
                  · subst e
                    rw [List.getElem?_set_self (by rw [am_fv_len cA]; exact hj), am_fv_get b B _ a ci j hj, q5]
                  · rw [List.getElem?_set_ne (fun q => e q.symm), am_fv_get b B _ a ci j hj, am_fv_get b B _ a ci j hj, q6 j e]
                · rw [List.getElem?_eq_none (by rw [am_fv_len cA]; omega), List.getElem?_eq_none (by rw [List.length_set, am_fv_len cA]; omega)]
              rw [e9]
              exact e1
            · rcases List.mem_append.mp hx9 with z | z
              · exact hlocs x z
              · rw [List.mem_singleton.mp z]
                show B < B + a
                omega
            · rw [e3 q (by omega)]
              exact hold q hq
        · cases h
      · cases h
    · cases h
  · cases h
end AMP
