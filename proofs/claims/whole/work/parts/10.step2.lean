/-! one step of the plain machine that is no call and no end: a step of the machine -/
section AMT
variable {p : Program} {l : Launch} {e : Env} {R : Room} {s : State} {m : MethodId} {args : Array Value} {below : List Frame} {meth : Method} {c : Code} {H : Heap} {locs : List Loc} {cells slots : Nat} {QQ : State → Prop}
variable {mi : am_MI} {D : va_G} {cA : Nat → ClassId} {b B n0 s0 pc pc' : Nat} {L L' : am_Lo} {st st' : List Value} {M M' : am_Mem} {ls : Array Slot}
theorem am_isI_c {v : Value} (h : am_isI v = true) : v.category = 1 := by cases v <;> simp [am_isI] at h <;> rfl
theorem am_isA_c {v : Value} (h : am_isA v = true) : v.category = 1 := by cases v <;> simp [am_isA] at h <;> rfl
set_option maxRecDepth 100000 in
theorem am_cj_in {c i : Nat} {v : Int64} (h : am_csl c i = some v) : Cond.constantLong (am_cn c) i v ∈ am_T := by
  have h1 := am_fd_mem h
  have h2 := List.all_eq_true.mp am_cj_all _ h1
  exact am_T_in h2
theorem am_inst_inl {idx : Nat} {kinds : List Nat} {q : am_Cf} (h : am_inst mi idx pc L st M kinds = some (.inl q)) : ∃ kind y n, am_inv mi.1 idx = some (kind, y, n) ∧ kinds.contains kind = true ∧ ((kind = 4 ∧ ∃ a r, st = .ref a :: r ∧ am_cats r ≤ 8 ∧ q = (pc + 3, L, r, M)) ∨ (kind = 5 ∧ am_copy pc L st M = some (.inl q))) := by
  unfold am_inst at h
  split at h
  · rename_i kind y n hi
    split at h
    · cases h
    · rename_i hk
      refine ⟨kind, y, n, hi, by simpa using hk, ?_⟩
      split at h
      · split at h
        · split at h <;> cases h
        · cases h
      · split at h <;> cases h
      · split at h
        · rename_i a r
          split at h
          · rename_i hc
            cases h
            exact Or.inl ⟨rfl, a, _, rfl, hc, rfl⟩
          · cases h
        · cases h
      · exact Or.inr ⟨rfl, h⟩
      · split at h
        · split at h <;> cases h
        · cases h
  · cases h
theorem am_in_need {e : Nat × Nat × Nat × am_MI × Nat} (h : e ∈ am_inA) : (∀ w ∈ am_need e, w ∈ am_T) ∧ am_call_ok e = true := am_in_all e h
theorem as_objI {idx : Nat} {n : Nat} {y : am_MI} {r : List Value} {a : Nat} (hC : am_C p s m args meth c mi D cA b B) (hd : decode mi.2.2.1 pc = .ok (.invokespecial idx, 3)) (hin : am_inv mi.1 idx = some (4, y, n)) (hcat : am_cats r ≤ 8) (hI : am_I s D cA b B n0 s0 mi L M ls H locs cells slots)
    (hfr : 1 ≤ R.frames) (hlo : 40 ≤ R.locals)
    (kk : W p l e R s m args below meth c H locs cells slots QQ (F0 m (pc + 3) ls (r.map (am_tv b B)))) : W p l e R s m args below meth c H locs cells slots QQ (F0 m pc ls (.ref a :: r.map (am_tv b B))) := by
  obtain ⟨hx, hb, hml, hown, hts, hnm, hK, hnw, hbB⟩ := hC
  have hw := (am_in_need (am_fd_mem hin)).1
  exact W.objInit (own := am_cn mi.1) (idx := idx) hx hb hown (hts _ (hw _ (by simp [am_need]))) (hts _ (hw _ (by simp [am_need]))) (hts _ (hw _ (by simp [am_need]))) rfl (by rw [hml]; exact hI.1.1.1) rfl hd hfr (by
    show 2 * 0 + _ + 12 ≤ _
    rw [am_cats_tv]
    omega) (W.eq (g2 := F0 m (pc + 3) ls (r.map (am_tv b B))) rfl kk)
set_option maxHeartbeats 4000000 in
theorem am_step (hmna : am_MNA) (hC : am_C p s m args meth c mi D cA b B) (hI : am_I s D cA b B n0 s0 mi L M ls H locs cells slots) (h : am_stp mi pc L st M = some (.inl (pc', L', st', M')))
    (hle : M'.1.length ≤ R.cells + n0 ∧ am_sl M'.1 ≤ R.slots + s0) (hfr : 1 ≤ R.frames) (hlo : 40 ≤ R.locals)
    (kk : ∀ (H' : Heap) (locs' : List Loc) (cells' slots' : Nat) (ls' : Array Slot), am_I s D cA b B n0 s0 mi L' M' ls' H' locs' cells' slots' → W p l e R s m args below meth c H' locs' cells' slots' QQ (F0 m pc' ls' (st'.map (am_tv b B)))) : W p l e R s m args below meth c H locs cells slots QQ (F0 m pc ls (st.map (am_tv b B))) := by
  obtain ⟨hx, hb, hml, hown, hts, hnm, hK, hnw, hbB⟩ := id hC
  unfold am_stp at h
  split at h
  · rename_i i n hd
    split at h
    · rename_i hn
      unfold am_ins at h
      split at h
      · change n = 1 at hn; subst hn; cases h; exact lv_iconst hx hb hd rfl (kk H locs cells slots ls hI)
      · change n = 2 at hn; subst hn; cases h; exact lv_bipush hx hb hd rfl (kk H locs cells slots ls hI)
      · change n = 3 at hn; subst hn; cases h; exact lv_sipush hx hb hd rfl (kk H locs cells slots ls hI)
      · change n = 1 at hn; subst hn; cases h; exact lv_lconst hx hb hd rfl (kk H locs cells slots ls hI)
      · change n = 2 at hn; subst hn
        split at h
        · rename_i v hv
          cases h
          exact lv_ldc (own := am_cn mi.1) hx hb hown (hts _ (am_T_in (List.all_eq_true.mp am_cs_all _ (am_fd_mem hv)))) hd (kk H locs cells slots ls hI)
        · cases h
      · change n = 3 at hn; subst hn
        split at h
        · rename_i v hv
          cases h
          exact lv_ldcw (own := am_cn mi.1) hx hb hown (hts _ (am_T_in (List.all_eq_true.mp am_cs_all _ (am_fd_mem hv)))) hd (kk H locs cells slots ls hI)
        · cases h
      · change n = 3 at hn; subst hn
        split at h
        · rename_i v hv
          cases h
          exact lv_ldc2 (own := am_cn mi.1) hx hb hown (hts _ (am_cj_in hv)) hd (kk H locs cells slots ls hI)
        · cases h
      · change n = 2 at hn; subst hn; exact as_ld h hI (fun v rest ok hls k => by cases v <;> simp [am_isI] at ok; exact lv_iload hx hb hd hls k) kk
      · change n = 1 at hn; subst hn; exact as_ld h hI (fun v rest ok hls k => by cases v <;> simp [am_isI] at ok; exact lv_iload_n hx hb hd rfl hls k) kk
      · change n = 2 at hn; subst hn; exact as_ld h hI (fun v rest ok hls k => by cases v <;> simp [am_isJ] at ok; exact lv_lload hx hb hd hls k) kk
      · change n = 1 at hn; subst hn; exact as_ld h hI (fun v rest ok hls k => by cases v <;> simp [am_isJ] at ok; exact lv_lload_n hx hb hd rfl hls k) kk
      · change n = 2 at hn; subst hn; exact as_ld h hI (fun v rest ok hls k => by cases v <;> simp [am_isA] at ok; exact lv_aload hx hb hd hls k) kk
      · change n = 1 at hn; subst hn; exact as_ld h hI (fun v rest ok hls k => by cases v <;> simp [am_isA] at ok; exact lv_aload_n hx hb hd rfl hls k) kk
      · change n = 2 at hn; subst hn; exact as_sto (fun v => am_isI_c) h hI (fun v rest ok k hlt => by cases v <;> simp [am_isI] at ok; exact lv_istore hx hb hd hI.1.1 hlt rfl k) kk
      · change n = 1 at hn; subst hn; exact as_sto (fun v => am_isI_c) h hI (fun v rest ok k hlt => by cases v <;> simp [am_isI] at ok; exact lv_istore_n hx hb hd rfl hI.1.1 hlt rfl k) kk
      · change n = 2 at hn; subst hn; exact as_sto (fun v => am_isA_c) h hI (fun v rest ok k hlt => by cases v <;> simp [am_isA] at ok; exact lv_astore hx hb hd hI.1.1 hlt rfl k) kk
      · change n = 1 at hn; subst hn; exact as_sto (fun v => am_isA_c) h hI (fun v rest ok k hlt => by cases v <;> simp [am_isA] at ok; exact lv_astore_n hx hb hd rfl hI.1.1 hlt rfl k) kk
      · change n = 2 at hn; subst hn; exact as_stoJ h hI (fun v rest k hlt => lv_lstore hx hb hd hI.1.1 hlt rfl k) kk
      · change n = 1 at hn; subst hn; exact as_stoJ h hI (fun v rest k hlt => lv_lstore_n hx hb hd rfl hI.1.1 hlt rfl k) kk
      · change n = 3 at hn; subst hn
        split at h
        · rename_i x hv
          cases h
          have hm9 := am_ll_mem (b := b) (B := B) |>.mpr ⟨_, hv, rfl⟩
          obtain ⟨k9, hk9⟩ := List.getElem?_of_mem hm9
          have hlt := (List.getElem?_eq_some_iff.mp hv).1
          rw [hI.1.2] at hlt
          refine lv_iinc (k := k9) hx hb hd hI.1.1 hk9 rfl hlt rfl (fun ls' h9 => kk H locs cells slots ls' ⟨⟨am_ll_st1 (v := .int _) h9, by rw [am_st1_len]; exact hI.1.2⟩, hI.2⟩)
        · cases h
      · change n = 1 at hn; subst hn; exact as_b2 h hI (fun y x rest k => lv_iadd hx hb hd k) kk
      · change n = 1 at hn; subst hn; exact as_b2 h hI (fun y x rest k => lv_isub hx hb hd k) kk
      · change n = 1 at hn; subst hn; exact as_b2 h hI (fun y x rest k => lv_imul hx hb hd k) kk
      · change n = 1 at hn; subst hn; exact as_b2 h hI (fun y x rest k => lv_iand hx hb hd k) kk
      · change n = 1 at hn; subst hn; exact as_b2 h hI (fun y x rest k => lv_ior hx hb hd k) kk
      · change n = 1 at hn; subst hn; exact as_b2 h hI (fun y x rest k => lv_ixor hx hb hd k) kk
      · change n = 1 at hn; subst hn; exact as_b2 h hI (fun y x rest k => lv_ishl hx hb hd k) kk
      · change n = 1 at hn; subst hn; exact as_b2 h hI (fun y x rest k => lv_ishr hx hb hd k) kk
      · change n = 1 at hn; subst hn; exact as_b2 h hI (fun y x rest k => lv_iushr hx hb hd rfl k) kk
      · change n = 1 at hn; subst hn
        split at h
        · split at h
          · cases h
          · rename_i h0
            cases h
            exact lv_idiv hx hb hd h0 (kk H locs cells slots ls hI)
        · cases h
      · change n = 1 at hn; subst hn
        split at h
        · split at h
          · cases h
          · rename_i h0
            cases h
            exact lv_irem hx hb hd h0 (kk H locs cells slots ls hI)
        · cases h
      · change n = 1 at hn; subst hn; exact as_l2 h hI (fun y x rest k => lv_ladd hx hb hd k) kk
      · change n = 1 at hn; subst hn; exact as_l2 h hI (fun y x rest k => lv_land hx hb hd k) kk
      · change n = 1 at hn; subst hn; exact as_l2 h hI (fun y x rest k => lv_lor hx hb hd k) kk
      · change n = 1 at hn; subst hn
        split at h
        · cases h
          exact lv_lshl hx hb hd rfl (kk H locs cells slots ls hI)
        · cases h
      · change n = 1 at hn; subst hn
        split at h
        · cases h
          exact lv_lshr hx hb hd rfl (kk H locs cells slots ls hI)
        · cases h
      · change n = 1 at hn; subst hn
        split at h
        · cases h
          exact W.lcmp hx hb hd (kk H locs cells slots ls hI)
        · cases h
      · change n = 1 at hn; subst hn
        split at h
        · split at h
          · rename_i h0
            cases h
            exact lv_dup hx hb hd (by rw [am_tv_cat]; exact h0) (kk H locs cells slots ls hI)
          · cases h
        · cases h
      · change n = 1 at hn; subst hn
        split at h
        · split at h
          · rename_i h0
            cases h
            exact lv_pop hx hb hd (by rw [am_tv_cat]; exact h0) (kk H locs cells slots ls hI)
          · cases h
        · cases h
      · change n = 1 at hn; subst hn
        split at h
        · split at h
          · rename_i h0
            cases h
            exact lv_dup2_11 hx hb hd (by rw [am_tv_cat]; exact h0.1) (by rw [am_tv_cat]; exact h0.2) (kk H locs cells slots ls hI)
          · cases h
        · cases h
      · change n = 3 at hn; subst hn
        split at h
        · obtain ⟨⟨rfl, rfl, rfl⟩, tgt, ht, hh⟩ := as_cmp h
          exact as_if hx hb hd ht hh (kk H locs cells slots ls hI)
        · cases h
      · change n = 3 at hn; subst hn
        split at h
        · obtain ⟨⟨rfl, rfl, rfl⟩, tgt, ht, hh⟩ := as_cmp h
          exact as_icmp hx hb hd ht hh (kk H locs cells slots ls hI)
        · cases h
      · change n = 3 at hn; subst hn
        obtain ⟨ht, rfl, rfl, rfl⟩ := as_jump h
        exact lv_goto hx hb hd ht (kk H locs cells slots ls hI)
      · split at h
        · split at h
          · rename_i off ho
            obtain ⟨ht, rfl, rfl, rfl⟩ := as_jump h
            unfold am_tsw at ho
            split at ho
            · rename_i h9
              cases ho
              exact lv_tableOut hx hb hd h9 ht (kk H locs cells slots ls hI)
            · rename_i h9
              exact lv_tableIn hx hb hd (fun q => h9 (Or.inl q)) (fun q => h9 (Or.inr q)) ho ht (kk H locs cells slots ls hI)
          · cases h
        · cases h
      · split at h
        · split at h
          · rename_i hp
            obtain ⟨ht, rfl, rfl, rfl⟩ := as_jump h
            exact lv_lookup hx hb hd hp rfl ht (kk H locs cells slots ls hI)
          · cases h
        · cases h
      · change n = 3 at hn; subst hn; exact as_get hC hd h hI kk
      · change n = 3 at hn; subst hn; exact as_put hC hd h hI kk
      · change n = 1 at hn; subst hn
        split at h
        · split at h
          · rename_i h0
            cases h
            exact as_iald hC hd h0 hI (kk H locs cells slots ls hI)
          · cases h
        · cases h
      · change n = 1 at hn; subst hn
        split at h
        · split at h
          · rename_i h0
            cases h
            exact as_iast hC hd h0.1 hI (fun H' locs' hI' => kk H' locs' cells slots ls hI')
          · cases h
        · cases h
      · change n = 1 at hn; subst hn
        split at h
        · split at h
          · rename_i h0
            cases h
            exact as_bald hC hd h0 hI (kk H locs cells slots ls hI)
          · cases h
        · cases h
      · change n = 1 at hn; subst hn
        split at h
        · split at h
          · rename_i h0
            cases h
            exact as_bast hC hd h0.1 h0.2.1 hI (fun H' locs' hI' => kk H' locs' cells slots ls hI')
          · cases h
        · cases h
      · change n = 1 at hn; subst hn
        split at h
        · split at h
          · rename_i h0
            cases h
            exact as_lald hC hd h0 hI (kk H locs cells slots ls hI)
          · cases h
        · cases h
      · change n = 1 at hn; subst hn
        split at h
        · split at h
          · rename_i h0
            cases h
            exact as_last hC hd h0.1 hI (fun H' locs' hI' => kk H' locs' cells slots ls hI')
          · cases h
        · cases h
      · change n = 1 at hn; subst hn
        split at h
        · split at h
          · rename_i h0
            cases h
            exact as_aald hC hd h0 hI (kk H locs cells slots ls hI)
          · cases h
        · cases h
      · change n = 1 at hn; subst hn
        split at h
        · split at h
          · rename_i h0
            cases h
            exact as_aast hC hd h0.1 h0.2.1 hI (fun H' locs' hI' => kk H' locs' cells slots ls hI')
          · cases h
        · cases h
      · change n = 1 at hn; subst hn
        split at h
        · split at h
          · rename_i h0
            cases h
            subst h0
            exact as_alen hC hd hI (kk H locs cells slots ls hI)
          · cases h
        · cases h
      · change n = 3 at hn; subst hn; exact as_new hC hd h hI hle kk
      · change n = 2 at hn; subst hn; exact as_newa hC hd h hI hle kk
      · change n = 3 at hn; subst hn; exact as_newq hC hd h hI hle kk
      · change n = 4 at hn; subst hn
        split at h
        · rename_i h0
          subst h0
          exact as_newg hmna hC hd h hI hle kk
        · cases h
      · obtain ⟨kind, y, n9, h1, h2, h3⟩ := am_inst_inl h
        rcases h3 with ⟨rfl, -⟩ | ⟨rfl, -⟩ <;> simp at h2
      · change n = 3 at hn
        subst hn
        obtain ⟨kind, y, n9, h1, h2, h3⟩ := am_inst_inl h
        rcases h3 with ⟨rfl, -⟩ | ⟨rfl, h3⟩
        · simp at h2
        · exact as_copy hC hd (am_in_need (am_fd_mem h1)).1 h3 hI hfr hlo kk
      · change n = 3 at hn
        subst hn
        obtain ⟨kind, y, n9, h1, h2, h3⟩ := am_inst_inl h
        rcases h3 with ⟨rfl, a, r, rfl, hc, e⟩ | ⟨rfl, -⟩
        · cases e
          exact as_objI hC hd h1 hc hI hfr hlo (kk H locs cells slots ls hI)
        · simp at h2
      · split at h
        · split at h <;> cases h
        · cases h
      · split at h
        · split at h <;> cases h
        · cases h
      · split at h
        · split at h <;> cases h
        · cases h
      · cases h
    · cases h
  · cases h
end AMT
