/-! every method that the plain machine runs has its contract; the law's own walk -/
theorem am_sl1_of {vs : List Value} (h : ∀ v ∈ vs, v.category = 1) : lg_sl vs = vs.map Slot.val := by
  induction vs with
  | nil => rfl
  | cons v vs ih =>
    have h1 := h v List.mem_cons_self
    have h2 := ih (fun w hw => h w (List.mem_cons_of_mem _ hw))
    unfold lg_sl at h2 ⊢
    rw [List.flatMap_cons, h2, if_neg (by omega)]
    rfl
theorem am_entry (b B : Nat) (y : am_MI) (a : List Value) (h0 : a.length ≤ y.2.2.2.1) (h1 : ∀ v ∈ a, v.category = 1) : lv_has ((lg_sl (a.map (am_tv b B)) ++ List.replicate (y.2.2.2.1 - (lg_sl (a.map (am_tv b B))).length) Slot.unset).toArray) y.2.2.2.1 (am_ll b B (am_ent y a)) ∧ (am_ent y a).length = y.2.2.2.1 := by
  have hc : ∀ v ∈ a.map (am_tv b B), v.category = 1 := by
    intro v hv
    obtain ⟨w, hw, rfl⟩ := List.mem_map.mp hv
    rw [am_tv_cat]
    exact h1 w hw
  have hsl := am_sl1_of hc
  have hlen : (lg_sl (a.map (am_tv b B))).length = a.length := by rw [hsl]; simp
  have he := lv_entry (a.map (am_tv b B)) (n := y.2.2.2.1) (by omega)
  have hle : (am_ent y a).length = y.2.2.2.1 := by
    unfold am_ent
    simp
    omega
  refine ⟨⟨he.1, he.2.1, fun q hq => ?_⟩, hle⟩
  obtain ⟨i, w⟩ := q
  obtain ⟨v, hv, rfl⟩ := am_ll_mem.mp hq
  show ((lg_sl (a.map (am_tv b B)) ++ List.replicate (y.2.2.2.1 - (lg_sl (a.map (am_tv b B))).length) Slot.unset).toArray)[i]? = _
  have hi : i < a.length := by
    by_cases hi : i < a.length
    · exact hi
    · unfold am_ent at hv
      rw [List.getElem?_append_right (by simp; omega)] at hv
      rw [List.getElem?_replicate] at hv
      split at hv <;> cases hv
  unfold am_ent at hv
  rw [List.getElem?_append_left (by simpa using hi), List.getElem?_map] at hv
  have hav : a[i]? = some v := by
    cases ha : a[i]? with
    | none => rw [ha] at hv; cases hv
    | some x => rw [ha] at hv; cases hv; rfl
  rw [List.getElem?_toArray, List.getElem?_append_left (by omega), hsl, List.getElem?_map, List.getElem?_map, hav]
  rfl
theorem am_snd (l : Launch) (hmna : am_MNA) (D : va_G) (cA : Nat → ClassId) (b B : Nat) (hbB : b ≤ B) : ∀ (d : Nat) (y : am_MI), y ∈ am_all → ∀ (a : List Value) (M : am_Mem) (v : Option Value) (M' : am_Mem), am_le M M' → am_call d y a M (fun v' M'' => v' = v ∧ M'' = M') → am_Met l D cA b B d y a M v M'
  | 0, _, _, _, _, _, _, _, h => h.elim
  | d + 1, y, hy, a, M, v, M', hle, h => by
    have ihd := am_snd l hmna D cA b B hbB d
    obtain ⟨⟨ha0, ha1⟩, k, hrun⟩ := h
    have h1 := List.all_eq_true.mp am_mi_all y hy
    unfold am_miok at h1
    simp only [Bool.and_eq_true, decide_eq_true_eq] at h1
    obtain ⟨⟨⟨⟨⟨⟨z1, z2⟩, z3⟩, z4⟩, z5⟩, z6⟩, z7⟩ := h1
    refine va_MetF (cc := y.2.2.1) (maxL := y.2.2.2.1) (ret := y.2.2.2.2) z4 rfl ?_
    intro p e s m args below meth c s₁ BL hml hv
    obtain ⟨rfl, hH, hK, hnw⟩ := hv
    have hts := atoms_spec (ws := am_ws y) BL.pre
    have hlocks := BL.notSynchronized
    have hC : am_C p s m (a.map (am_tv b B)).toArray meth c y D cA b B := ⟨BL.exec, BL.bytes, hml, by rw [← z3]; exact findClass_of_methodNamed BL.named, fun w hw => hts w (List.mem_cons_of_mem _ hw), fun _ => (name_of_methodNamed BL.named BL.method).1, hK, hnw, hbB⟩
    have hret := BL.returns
    rw [lg_entry_eq]
    refine am_snd_run (n0 := M.1.length) (s0 := am_sl M.1) hmna ihd hC (Nat.le_refl _) (by show 64 * d + 60 ≤ 64 * (d + 1); omega) v M' ⟨?_, ?_⟩ ?_ k 0 (am_ent y a) [] M s.heap [] 0 0 _ hrun ⟨am_entry b B y a ha0 ha1, hH, fun x hx => (by cases hx), fun q _ => rfl, by omega, by omega⟩
    · show M'.1.length ≤ (M'.1.length - M.1.length) + M.1.length
      omega
    · show am_sl M'.1 ≤ (am_sl M'.1 - am_sl M.1) + am_sl M.1
      omega
    · intro H locs cells slots ls pc L st hI hR
      obtain ⟨hl, hH', hlocs, hold, hcl, hsl⟩ := hI
      have ec : cells = M'.1.length - M.1.length := by omega
      have es : slots = am_sl M'.1 - am_sl M.1 := by omega
      subst ec
      subst es
      rcases hR with ⟨x, hd, rfl, hok, rfl⟩ | ⟨x, hd, rfl, hok, rfl⟩ | ⟨hd, rfl, hok, rfl⟩
      · unfold am_retok at hok
        split at hok
        · rename_i hr9
          exact W.zret (ty := .int) BL.exec BL.bytes (hret.trans hr9) rfl (fun t ht hW => ⟨rfl, by rw [ht]; exact hH'.moved hW.alike, fun q hq => by rw [ht]; exact hold q hq⟩) hlocs hd hlocks
        · rename_i hr9
          have hx : x = 0 ∨ x = 1 := by simpa using hok
          exact W.zret (ty := .boolean) BL.exec BL.bytes (hret.trans hr9) (by rcases hx with rfl | rfl <;> decide) (fun t ht hW => ⟨rfl, by rw [ht]; exact hH'.moved hW.alike, fun q hq => by rw [ht]; exact hold q hq⟩) hlocs hd hlocks
        · cases hok
      · exact W.lret BL.exec BL.bytes (hret.trans hok) (fun t ht hW => ⟨rfl, by rw [ht]; exact hH'.moved hW.alike, fun q hq => by rw [ht]; exact hold q hq⟩) hlocs hd hlocks
      · exact W.vret BL.exec BL.bytes (hret.trans hok) (fun t ht hW => ⟨rfl, by rw [ht]; exact hH'.moved hW.alike, fun q hq => by rw [ht]; exact hold q hq⟩) hlocs hd hlocks
