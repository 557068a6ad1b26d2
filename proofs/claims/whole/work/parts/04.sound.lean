/-! the plain machine stands in the machine's heap: cell k of it at B + k (the script, cell 0, at b) -/
def am_ad (b B k : Nat) : Nat := if k = 0 then b else B + k
def am_tv (b B : Nat) : Value → Value
  | .ref k => .ref (am_ad b B k)
  | v => v
theorem am_ad_pos {b B k : Nat} (h : 1 ≤ k) : am_ad b B k = B + k := if_neg (by omega)
theorem am_tv_cat (b B : Nat) (v : Value) : (am_tv b B v).category = v.category := by cases v <;> rfl
theorem am_tv_rf (b B : Nat) (r : Option Nat) : am_tv b B (va_rf r) = va_rf (r.map (am_ad b B)) := by cases r <;> rfl
theorem am_cats_tv (b B : Nat) (st : List Value) : ((st.map (am_tv b B)).map fun v => v.category).sum = am_cats st := by
  unfold am_cats
  rw [List.map_map]
  congr 1
  exact List.map_congr_left (fun v _ => am_tv_cat b B v)
def am_ll (b B : Nat) (L : am_Lo) : List (Nat × Value) := (List.range L.length).filterMap (fun i => match L[i]? with
  | some (some v) => some (i, am_tv b B v)
  | _ => none)
theorem am_ll_mem {b B : Nat} {L : am_Lo} {i : Nat} {w : Value} : (i, w) ∈ am_ll b B L ↔ ∃ v, L[i]? = some (some v) ∧ w = am_tv b B v := by
  unfold am_ll
  rw [List.mem_filterMap]
  constructor
  · rintro ⟨j, -, hj⟩
    split at hj
    · rename_i v hv
      cases hj
      exact ⟨v, hv, rfl⟩
    · cases hj
  · rintro ⟨v, hv, rfl⟩
    refine ⟨i, List.mem_range.mpr (List.getElem?_eq_some_iff.mp hv).1, ?_⟩
    rw [hv]
theorem am_ll_at {b B nL i : Nat} {L : am_Lo} {ls : Array Slot} {v : Value} (hl : lv_has ls nL (am_ll b B L)) (h : L[i]? = some (some v)) : ls[i]? = some (.val (am_tv b B v)) := hl.2.2 (i, _) (am_ll_mem.mpr ⟨v, h, rfl⟩)
theorem am_k1_some {x : Option Value} {w : Value} (h : am_k1 x = some w) : x = some w ∧ ¬ w.category = 2 := by
  unfold am_k1 at h
  split at h
  · cases h
  · cases h
  · rename_i x n1 n2
    subst h
    refine ⟨rfl, ?_⟩
    cases w <;> simp [Value.category] <;> first | exact n1 _ rfl | exact n2 _ rfl
theorem am_st1_get {L : am_Lo} {i j : Nat} {v w : Value} (h : (am_st1 L i v)[j]? = some (some w)) : (j = i ∧ w = v) ∨ (j ≠ i ∧ L[j]? = some (some w) ∧ ¬ (j + 1 = i ∧ w.category = 2)) := by
  unfold am_st1 at h
  split at h
  · by_cases e : j = 0
    · subst e
      rw [List.getElem?_set] at h
      simp only [if_pos] at h
      split at h
      · simp only [Option.some.injEq] at h
        exact Or.inl ⟨rfl, h.symm⟩
      · cases h
    · rw [List.getElem?_set_ne (fun q => e q.symm)] at h
      exact Or.inr ⟨e, h, fun q => by omega⟩
  · rename_i k
    by_cases e : j = k + 1
    · subst e
      rw [List.getElem?_set] at h
      simp only [if_pos] at h
      split at h
      · simp only [Option.some.injEq] at h
        exact Or.inl ⟨rfl, h.symm⟩
      · cases h
    · rw [List.getElem?_set_ne (fun q => e q.symm), List.getElem?_modify] at h
      refine Or.inr ⟨e, ?_⟩
      cases hLj : L[j]? with
      | none => rw [hLj] at h; simp at h
      | some x =>
        rw [hLj] at h
        simp only [Option.map_eq_map, Option.map_some, Option.some.injEq] at h
        by_cases e2 : k = j
        · rw [if_pos e2] at h
          obtain ⟨rfl, h2⟩ := am_k1_some h
          exact ⟨rfl, fun q => h2 q.2⟩
        · rw [if_neg e2] at h
          exact ⟨by rw [h], fun q => e2 (by omega)⟩
theorem am_st1_len (L : am_Lo) (i : Nat) (v : Value) : (am_st1 L i v).length = L.length := by
  unfold am_st1
  split <;> simp
theorem am_st2_len (L : am_Lo) (i : Nat) (v : Value) : (am_st2 L i v).length = L.length := by
  unfold am_st2
  rw [List.length_set, am_st1_len]
theorem am_ll_st1 {b B nL i : Nat} {L : am_Lo} {ls : Array Slot} {v : Value} (h : lv_has ls nL ((i, am_tv b B v) :: (am_ll b B L).filter (fun q => !(q.1 == i) && !(q.1 + 1 == i && q.2.category == 2)))) : lv_has ls nL (am_ll b B (am_st1 L i v)) := by
  refine ⟨h.1, h.2.1, fun q hq => h.2.2 q ?_⟩
  obtain ⟨j, w⟩ := q
  obtain ⟨x, hx, rfl⟩ := am_ll_mem.mp hq
  rcases am_st1_get hx with ⟨rfl, rfl⟩ | ⟨n1, h1, h2⟩
  · exact List.mem_cons_self
  · refine List.mem_cons_of_mem _ (List.mem_filter.mpr ⟨am_ll_mem.mpr ⟨x, h1, rfl⟩, ?_⟩)
    simp only [Bool.and_eq_true, Bool.not_eq_true', beq_eq_false_iff_ne, ne_eq, Bool.and_eq_false_iff]
    refine ⟨n1, ?_⟩
    by_cases e : j + 1 = i
    · exact Or.inr (fun q => h2 ⟨e, by rw [am_tv_cat] at q; exact q⟩)
    · exact Or.inl e
theorem am_ll_st2 {b B nL i : Nat} {L : am_Lo} {ls : Array Slot} {v : Value} (h : lv_has ls nL ((i, am_tv b B v) :: (am_ll b B L).filter (fun q => !(q.1 == i) && (!(q.1 == i + 1) && !(q.1 + 1 == i && q.2.category == 2))))) : lv_has ls nL (am_ll b B (am_st2 L i v)) := by
  refine ⟨h.1, h.2.1, fun q hq => h.2.2 q ?_⟩
  obtain ⟨j, w⟩ := q
  obtain ⟨x, hx, rfl⟩ := am_ll_mem.mp hq
  unfold am_st2 at hx
  by_cases e0 : j = i + 1
  · subst e0
    rw [List.getElem?_set] at hx
    simp only [if_pos] at hx
    split at hx <;> cases hx
  · rw [List.getElem?_set_ne (fun q => e0 q.symm)] at hx
    rcases am_st1_get hx with ⟨rfl, rfl⟩ | ⟨n1, h1, h2⟩
    · exact List.mem_cons_self
    · refine List.mem_cons_of_mem _ (List.mem_filter.mpr ⟨am_ll_mem.mpr ⟨x, h1, rfl⟩, ?_⟩)
      simp only [Bool.and_eq_true, Bool.not_eq_true', beq_eq_false_iff_ne, ne_eq, Bool.and_eq_false_iff]
      refine ⟨n1, e0, ?_⟩
      by_cases e : j + 1 = i
      · exact Or.inr (fun q => h2 ⟨e, by rw [am_tv_cat] at q; exact q⟩)
      · exact Or.inl e
/-- what a cell holds -/
def am_e1 (cA : Nat → ClassId) (b B : Nat) (M : am_Mem) (k t n : Nat) : va_E := if t < 8 then .inr (t, (List.range (am_nf t)).map (fun j => am_tv b B (am_fval t j M k))) else if t = 9 then .inl (cA 9, n, .inr (.inl (M.2.2.1 k))) else if t = 11 ∨ t = 12 then .inl (cA t, n, .inr (.inr (.inr (.inr (fun j => (M.2.2.2 k j).map (am_ad b B)))))) else .inl (cA t, n, .inl (M.2.1 k))
def am_e (cA : Nat → ClassId) (b B : Nat) (M : am_Mem) (k : Nat) : va_E := match M.1[k]? with
  | some q => am_e1 cA b B M k q.1 q.2
  | none => .inl (0, 0, .inl (fun _ => 0))
def am_tys (cA : Nat → ClassId) : List (ClassId × FieldType) := [(cA 8, .int), (cA 9, .long), (cA 10, .boolean), (cA 11, .object RX3), (cA 12, .array .int)]
def am_H (D : va_G) (cA : Nat → ClassId) (b B : Nat) (M : am_Mem) (U : State) (H : Heap) : Prop := H.size = B + M.1.length ∧ (∃ n, M.1[0]? = some (13, n) ∧ va_X b n (M.2.1 0) U H) ∧ ∀ k, 1 ≤ k → k < M.1.length → va_at D vwCl (B + k, am_e cA b B M k) H
theorem am_H.moved {D : va_G} {cA : Nat → ClassId} {b B : Nat} {M : am_Mem} {u U : State} {H : Heap} (hvm : u.vm.Alike U.vm) (h : am_H D cA b B M u H) : am_H D cA b B M U H := by
  obtain ⟨h1, ⟨n, h2, h3⟩, h4⟩ := h
  exact ⟨h1, ⟨n, h2, va_X.moved hvm h3⟩, h4⟩
theorem am_H.at {D : va_G} {cA : Nat → ClassId} {b B : Nat} {M : am_Mem} {U : State} {H : Heap} (h : am_H D cA b B M U H) {k t n : Nat} (hk : M.1[k]? = some (t, n)) (ht : t ≠ 13) : 1 ≤ k ∧ am_ad b B k = B + k ∧ va_at D vwCl (B + k, am_e1 cA b B M k t n) H := by
  obtain ⟨h1, ⟨n0, h2, h3⟩, h4⟩ := h
  have hlt := (List.getElem?_eq_some_iff.mp hk).1
  have h1k : 1 ≤ k := by
    rcases Nat.eq_zero_or_pos k with e | e
    · subst e
      rw [h2] at hk
      cases hk
      exact absurd rfl ht
    · exact e
  have := h4 k h1k hlt
  unfold am_e at this
  rw [hk] at this
  exact ⟨h1k, am_ad_pos h1k, this⟩
theorem am_H.set {D : va_G} {cA : Nat → ClassId} {b B : Nat} {M M' : am_Mem} {U : State} {H H1 : Heap} (hH : am_H D cA b B M U H) (hbB : b ≤ B) {k t n : Nat} (hk : 1 ≤ k) (hat : M.1[k]? = some (t, n)) (hsz : H1.size = H.size) (oq : ∀ q, q ≠ B + k → H1[q]? = H[q]?) (he : va_at D vwCl (B + k, am_e1 cA b B M' k t n) H1) (h1 : M'.1 = M.1) (hoth : ∀ j, j ≠ k → M'.2.1 j = M.2.1 j ∧ M'.2.2.1 j = M.2.2.1 j ∧ M'.2.2.2 j = M.2.2.2 j) : am_H D cA b B M' U H1 := by
  obtain ⟨a1, ⟨n0, a2, a3⟩, a4⟩ := hH
  refine ⟨by rw [hsz, h1]; exact a1, ⟨n0, by rw [h1]; exact a2, ?_⟩, fun j hj hlt => ?_⟩
  · rw [(hoth 0 (by omega)).1]
    exact a3.kept (oq b (by omega))
  · by_cases e : j = k
    · subst e
      unfold am_e
      rw [h1, hat]
      exact he
    · have e2 : am_e cA b B M' j = am_e cA b B M j := by
        obtain ⟨q1, q2, q3⟩ := hoth j e
        unfold am_e
        rw [h1]
        cases M.1[j]? with
        | none => rfl
        | some q =>
          show am_e1 _ _ _ _ _ _ _ = am_e1 _ _ _ _ _ _ _
          unfold am_e1 am_fval
          rw [q1, q2, q3]
      rw [e2]
      exact (a4 j hj (by rw [← h1]; exact hlt)).kept (oq _ (by show B + j ≠ B + k; omega))
def am_sl1 (q : Nat × Nat) : Nat := if q.1 < 8 then am_nf q.1 else q.2
def am_sl (sh : am_Sh) : Nat := (sh.map am_sl1).sum
theorem am_sl_app (a b : am_Sh) : am_sl (a ++ b) = am_sl a + am_sl b := by simp [am_sl]
/-- words of the tables that a class change may move: kept beside the world -/
def am_nw (U : State) : Prop := va_AO RX3 U ∧ (Cond.arrayOver (.array .int)).before #[] U = true ∧ ∀ e ∈ am_inA, e.2.2.1 = 3 → va_Nw (.methodLinkNest (am_cn e.1) e.2.1 e.2.2.2.1.2.1 RX6) U
