/-! copies, grids, and the step -/
/-- new int[n][k] over the machine: taken as given here, proved in the part before the last -/
def am_MNA : Prop := ∀ (p : Program) (l : Launch) (e : Env) (R : Room) (s : State) (m : MethodId) (args : Array Value) (below : List Frame) (meth : Method) (c : Code) (H : Heap) (locs : List Loc) (cells slots : Nat) (QQ : State → Prop) (pc : Nat) (ls : Array Slot) (rest : List Value) (own : String) (index : Nat) (n k : Int32),
  p.tables.exec = Jvm.exec → s.vm.findClass own = some m.cls → (Cond.classLink own index "[[I").before args s = true → (Cond.arrayOver (.array .int)).before #[] s = true → (Cond.arrayClass .int).before args s = true → ¬ n < 0 → ¬ k < 0 → n.toNatClampNeg ≤ 100 → k.toNatClampNeg ≤ 100 → cells + (1 + n.toNatClampNeg) ≤ R.cells → slots + (n.toNatClampNeg + n.toNatClampNeg * k.toNatClampNeg) ≤ R.slots → decode c.code pc = .ok (.multianewarray index 2, 4) →
  (∀ (c1 c2 : ClassId) (H1 : Heap), s.vm.findClass "[[I" = some c1 → s.vm.findClass "[I" = some c2 → H1.size = H.size + 1 + n.toNatClampNeg → (∀ q, q < H.size → H1[q]? = H[q]?) → H1[H.size]? = some (vp_cell c1 (n.toNatClampNeg, .inr (.inr (.inr (.inr (fun i => if i < n.toNatClampNeg then some (H.size + 1 + i) else none)))))) → (∀ j, j < n.toNatClampNeg → H1[H.size + 1 + j]? = some (vp_cell c2 (k.toNatClampNeg, .inl (fun _ => 0)))) → W p l e R s m args below meth c H1 locs (cells + 1 + n.toNatClampNeg) (slots + n.toNatClampNeg + n.toNatClampNeg * k.toNatClampNeg) QQ (F0 m (pc + 4) ls (.ref H.size :: rest))) → W p l e R s m args below meth c H locs cells slots QQ (F0 m pc ls (.int k :: .int n :: rest))
section AMS
variable {p : Program} {l : Launch} {e : Env} {R : Room} {s : State} {m : MethodId} {args : Array Value} {below : List Frame} {meth : Method} {c : Code} {H : Heap} {locs : List Loc} {cells slots : Nat} {QQ : State → Prop}
variable {mi : am_MI} {D : va_G} {cA : Nat → ClassId} {b B n0 s0 pc pc' : Nat} {L L' : am_Lo} {st st' : List Value} {M M' : am_Mem} {ls : Array Slot}
theorem am_sl_rep (n k : Nat) : am_sl (List.replicate n (8, k)) = n * k := by
  induction n with
  | zero => simp [am_sl]
  | succ n ih =>
    rw [List.replicate_succ, show am_sl ((8, k) :: List.replicate n (8, k)) = k + am_sl (List.replicate n (8, k)) from rfl, ih, Nat.succ_mul]
    omega
theorem as_newg {idx : Nat} (hmna : am_MNA) (hC : am_C p s m args meth c mi D cA b B) (hd : decode mi.2.2.1 pc = .ok (.multianewarray idx 2, 4)) (h : am_newg mi idx pc L st M = some (.inl (pc', L', st', M'))) (hI : am_I s D cA b B n0 s0 mi L M ls H locs cells slots)
    (hle : M'.1.length ≤ R.cells + n0 ∧ am_sl M'.1 ≤ R.slots + s0)
    (kk : ∀ (H' : Heap) (locs' : List Loc) (cells' slots' : Nat) (ls' : Array Slot), am_I s D cA b B n0 s0 mi L' M' ls' H' locs' cells' slots' → W p l e R s m args below meth c H' locs' cells' slots' QQ (F0 m pc' ls' (st'.map (am_tv b B)))) : W p l e R s m args below meth c H locs cells slots QQ (F0 m pc ls (st.map (am_tv b B))) := by
  unfold am_newg at h
  split at h
  · rename_i ci k n r hf
    split at h
    · rename_i hn
      obtain ⟨rfl, hn0, hn1, hk0, hk1⟩ := hn
      cases h
      obtain ⟨hx, hb, hml, hown, hts, hnm, hK, hnw, hbB⟩ := hC
      have hz := List.all_eq_true.mp am_cl_all _ (am_fd_mem hf)
      simp only [if_neg (show ¬ (12 : Nat) < 8 by omega), Bool.and_eq_true] at hz
      have hHs := hI.2.1.1
      have hpos : 1 ≤ M.1.length := by
        obtain ⟨n, a2, -⟩ := hI.2.1.2.1
        exact (List.getElem?_eq_some_iff.mp a2).1
      have hsl1 : am_sl ((12, n.toNatClampNeg) :: List.replicate n.toNatClampNeg (8, k.toNatClampNeg)) = n.toNatClampNeg + n.toNatClampNeg * k.toNatClampNeg := by
        rw [show am_sl ((12, n.toNatClampNeg) :: List.replicate n.toNatClampNeg (8, k.toNatClampNeg)) = n.toNatClampNeg + am_sl (List.replicate n.toNatClampNeg (8, k.toNatClampNeg)) from rfl, am_sl_rep]
      have hc1 : cells + (1 + n.toNatClampNeg) ≤ R.cells := by
        have h1 : M.1.length + (n.toNatClampNeg + 1) ≤ R.cells + n0 := by simpa [am_addc] using hle.1
        have h2 := hI.2.2.2.2.1
        omega
      have hc2 : slots + (n.toNatClampNeg + n.toNatClampNeg * k.toNatClampNeg) ≤ R.slots := by
        have h1 := hle.2
        simp only [am_addc, am_sl_app, hsl1] at h1
        have h2 := hI.2.2.2.2.2
        omega
      refine hmna p l e R s m args below meth c H locs cells slots QQ pc ls (r.map (am_tv b B)) (am_cn mi.1) idx n k hx hown (hts _ (am_T_in hz.2)) hnw.2.1 (hts _ (am_T_in am_ar_all.1)) hn0 hk0 hn1 hk1 hc1 hc2 (by rw [hb]; exact hd) fun c1 c2 H1 f1 f2 z1 o1 e1 e2 => ?_
      have hcA1 : c1 = cA 12 := Option.some.inj (f1.symm.trans (hK.2 4 _ rfl).2)
      have hcA2 : c2 = cA 8 := Option.some.inj (f2.symm.trans (hK.2 0 _ rfl).2)
      subst hcA1
      subst hcA2
      have hk := kk H1 locs (cells + 1 + n.toNatClampNeg) (slots + n.toNatClampNeg + n.toNatClampNeg * k.toNatClampNeg) ls ?_
      · rw [hHs, ← am_ad_pos hpos]
        exact hk
      · have hg := am_I_new hI hbB ((12, n.toNatClampNeg) :: List.replicate n.toNatClampNeg (8, k.toNatClampNeg)) (am_row (am_cut M.2.2.2 M.1.length none) M.1.length (fun i => if i < n.toNatClampNeg then some (M.1.length + 1 + i) else none)) (fun k hk => by
            funext j
            unfold am_row
            rw [if_neg (by omega)]
            exact congrFun (am_cut_lt hk) j) (H1 := H1) (by rw [z1]; simp; omega) o1 (fun i t n9 hi => ?_)
        · rw [hsl1] at hg
          simp only [List.length_cons, List.length_replicate] at hg
          rw [show cells + 1 + n.toNatClampNeg = cells + (n.toNatClampNeg + 1) by omega, show slots + n.toNatClampNeg + n.toNatClampNeg * k.toNatClampNeg = slots + (n.toNatClampNeg + n.toNatClampNeg * k.toNatClampNeg) by omega]
          exact hg
        · cases i with
          | zero =>
            cases hi
            show H1[B + (M.1.length + 0)]? = some (vp_cell (cA 12) (n.toNatClampNeg, .inr (.inr (.inr (.inr (fun j => (am_row (am_cut M.2.2.2 M.1.length none) M.1.length (fun i => if i < n.toNatClampNeg then some (M.1.length + 1 + i) else none) (M.1.length + 0) j).map (am_ad b B)))))))
            rw [Nat.add_zero, ← hHs, e1]
            congr 7
            funext j
            unfold am_row
            rw [if_pos rfl]
            show _ = Option.map (am_ad b B) (if j < n.toNatClampNeg then some (M.1.length + 1 + j) else none)
            by_cases hj : j < n.toNatClampNeg
            · rw [if_pos hj, if_pos hj, Option.map_some, am_ad_pos (by omega), hHs]
              congr 1
              omega
            · rw [if_neg hj, if_neg hj]
              rfl
          | succ i =>
            have hi2 : (List.replicate n.toNatClampNeg (8, k.toNatClampNeg))[i]? = some (t, n9) := hi
            have hlt : i < n.toNatClampNeg := by
              have := (List.getElem?_eq_some_iff.mp hi2).1
              simpa using this
            rw [List.getElem?_replicate, if_pos hlt] at hi2
            cases hi2
            show H1[B + (M.1.length + (i + 1))]? = some (vp_cell (cA 8) (k.toNatClampNeg, .inl (am_cut M.2.1 M.1.length 0 (M.1.length + (i + 1)))))
            rw [am_cut_ge (by omega), show B + (M.1.length + (i + 1)) = H.size + 1 + i by omega]
            exact e2 i hlt
    · cases h
  · cases h
theorem am_row_ne {α : Type} {f : Nat → Nat → α} {k : Nat} {g : Nat → α} {j : Nat} (h : j ≠ k) : am_row f k g j = f j := by
  funext x
  exact if_neg h
theorem am_row_eq {α : Type} {f : Nat → Nat → α} {k : Nat} {g : Nat → α} : am_row f k g k = g := by
  funext x
  exact if_pos rfl
theorem am_fst_at {sh : am_Sh} {a t : Nat} (h : (sh[a]?).map Prod.fst = some t) : ∃ n, sh[a]? = some (t, n) := by
  rw [Option.map_eq_some_iff] at h
  obtain ⟨⟨t, n⟩, h1, h2⟩ := h
  exact ⟨n, by rw [h1]; cases h2; rfl⟩
theorem as_copy {idx : Nat} (hC : am_C p s m args meth c mi D cA b B) (hd : decode mi.2.2.1 pc = .ok (.invokestatic idx, 3)) (hw : ∀ w ∈ am_need (mi.1, idx, 5, m6_init, 0), w ∈ am_T) (h : am_copy pc L st M = some (.inl (pc', L', st', M'))) (hI : am_I s D cA b B n0 s0 mi L M ls H locs cells slots)
    (hfr : 1 ≤ R.frames) (hlo : 40 ≤ R.locals)
    (kk : ∀ (H' : Heap) (locs' : List Loc) (cells' slots' : Nat) (ls' : Array Slot), am_I s D cA b B n0 s0 mi L' M' ls' H' locs' cells' slots' → W p l e R s m args below meth c H' locs' cells' slots' QQ (F0 m pc' ls' (st'.map (am_tv b B)))) : W p l e R s m args below meth c H locs cells slots QQ (F0 m pc ls (st.map (am_tv b B))) := by
  unfold am_copy at h
  split at h
  · rename_i n dp a sp a0 r
    split at h
    · rename_i hc
      obtain ⟨h1, h2, h3, ha, ha0, h4, h5, h6, h7⟩ := hc
      cases h
      obtain ⟨hx, hb, hml, hown, hts, hnm, hK, hnw, hbB⟩ := hC
      obtain ⟨na, hna⟩ := am_fst_at ha
      obtain ⟨na0, hna0⟩ := am_fst_at ha0
      have l0 : am_len M.1 a0 8 = na0 := by simp [am_len, hna0]
      have l1 : am_len M.1 a 8 = na := by simp [am_len, hna]
      rw [l0] at h4
      rw [l1] at h5
      obtain ⟨g1, had, hat⟩ := hI.2.1.at hna (by omega)
      obtain ⟨g10, had0, hat0⟩ := hI.2.1.at hna0 (by omega)
      have hc1 : H[B + a]? = some (vp_cell (cA 8) (na, .inl (M.2.1 a))) := show va_at D vwCl (B + a, .inl (cA 8, na, .inl (M.2.1 a))) H by simpa [am_e1] using hat
      have hc0 : H[B + a0]? = some (vp_cell (cA 8) (na0, .inl (M.2.1 a0))) := show va_at D vwCl (B + a0, .inl (cA 8, na0, .inl (M.2.1 a0))) H by simpa [am_e1] using hat0
      have nn : ∀ z : Int32, ¬ z < 0 → z.toInt = (z.toNatClampNeg : Int) := by
        intro z hz
        have hz0 : (0 : Int) ≤ z.toInt := by
          have := Int32.not_lt.mp hz
          simpa using Int32.le_iff_toInt_le.mp this
        show z.toInt = ((z.toInt.toNat : Nat) : Int)
        omega
      show W p l e R s m args below meth c H locs cells slots QQ (F0 m pc ls (.int n :: .int dp :: .ref (am_ad b B a) :: .int sp :: .ref (am_ad b B a0) :: st'.map (am_tv b B)))
      rw [had, had0]
      intro T hT X
      obtain ⟨-, k0, hk0, cm0, hkk0⟩ := (hK.2 0 _ rfl).1 na0 (fun j => .int (M.2.1 a0 j))
      obtain ⟨-, k1, hk1, cm1, hkk1⟩ := (hK.2 0 _ rfl).1 na (fun j => .int (M.2.1 a j))
      obtain ⟨vm', X', step⟩ := X.arraycopy (own := am_cn mi.1) (index := idx) hx hown (hts _ (hw _ (by simp [am_need]))) (hts _ (hw _ (by simp [am_need]))) (hts _ (hw _ (by simp [am_need]))) (hts _ (hw _ (by simp [am_need]))) (src := B + a0) (dst := B + a) (cs := vp_cell (cA 8) (na0, .inl (M.2.1 a0))) (cd := vp_cell (cA 8) (na, .inl (M.2.1 a))) (srcPos := sp) (destPos := dp) (n := n) (by rw [hT]; exact hc0) (by rw [hT]; exact hc1)
        (fun _ h => by cases h) (fun _ h => by cases h) (fun h => by cases h) (fun h => by cases h) hk0 hk1 hkk0 hkk1 (by simp [refKind]) h1 h2 h3
        (by rw [nn sp h1, nn n h3]; show ¬ _ > ((arrV (cA 8) na0 (fun j => .int (M.2.1 a0 j))).slots.size : Int); rw [arrV_size]; omega)
        (by rw [nn dp h2, nn n h3]; show ¬ _ > ((arrV (cA 8) na (fun j => .int (M.2.1 a j))).slots.size : Int); rw [arrV_size]; omega)
        (fun vm₁ _ i hi => by
          have e : (vp_cell (cA 8) (na0, .inl (M.2.1 a0))).slots.getD (sp.toNatClampNeg + i) .null = .int (M.2.1 a0 (sp.toNatClampNeg + i)) := by
            show (arrV (cA 8) na0 (fun j => .int (M.2.1 a0 j))).slots.getD _ _ = _
            rw [Array.getD_eq_getD_getElem?, arrV_read _ _ (by omega)]
            rfl
          refine ⟨?_, ?_⟩
          · rw [e]
            rfl
          · rw [e]
            exact trivial)
        (g := F0 m pc ls (.int n :: .int dp :: .ref (B + a) :: .int sp :: .ref (B + a0) :: st'.map (am_tv b B))) rfl (by rw [hml]; exact hI.1.1.1) (rest := st'.map (am_tv b B)) rfl (by rw [hb]; exact hd) hfr (by
          show 2 * 0 + _ + (nativeFrameWords "java/lang/System" "arraycopy" 5 + 11) ≤ _
          rw [am_cats_tv, show nativeFrameWords "java/lang/System" "arraycopy" 5 = 7 from rfl]
          omega)
      have e1 : copied (vp_cell (cA 8) (na0, .inl (M.2.1 a0))) (vp_cell (cA 8) (na, .inl (M.2.1 a))) sp dp n = vp_cell (cA 8) (na, .inl (va_cpy (M.2.1 a0) (M.2.1 a) sp.toNatClampNeg dp.toNatClampNeg n.toNatClampNeg)) := va_copied (fun z => .int z) (cA 8) (cA 8) (M.2.1 a0) (M.2.1 a) h4
      rw [e1] at X' step
      have hl : B + a < H.size := (Array.getElem?_eq_some_iff.mp hc1).1
      generalize hcell : vp_cell (cA 8) (na, .inl (va_cpy (M.2.1 a0) (M.2.1 a) sp.toNatClampNeg dp.toNatClampNeg n.toNatClampNeg)) = cell at X' step
      have hheap : ((T.setVm vm').setCell (B + a) cell).heap = H.setIfInBounds (B + a) cell := by rw [← hT]; rfl
      have oq : ∀ q : Nat, q ≠ B + a → (H.setIfInBounds (B + a) cell)[q]? = H[q]? := fun q hq => by simp [Array.getElem?_setIfInBounds, Ne.symm hq]
      obtain ⟨hl9, hH9, hlocs, hold, hcl, hsl⟩ := hI
      obtain ⟨t, a1, b1⟩ := kk (H.setIfInBounds (B + a) cell) _ cells slots ls ⟨hl9, hH9.set hbB g1 hna (by simp) oq (by
          show va_at D vwCl (B + a, .inl (cA 8, na, .inl (am_row M.2.1 a _ a))) _
          rw [am_row_eq]
          show (H.setIfInBounds (B + a) cell)[B + a]? = some _
          rw [hcell]
          simp [Array.getElem?_setIfInBounds, hl]) rfl (fun j hj => ⟨am_row_ne hj, rfl, rfl⟩), fun q hq => by
          rcases List.mem_append.mp hq with h | h
          · exact hlocs q h
          · obtain ⟨z, -, hz⟩ := List.mem_map.mp h
            rw [← hz]
            show B < B + a
            omega, fun q hq => by rw [oq q (by omega)]; exact hold q hq, hcl, hsl⟩ _ hheap X'
      exact ⟨t, step t a1, b1⟩
    · cases h
  · cases h
end AMS
