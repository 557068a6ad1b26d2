/-! arrays -/
section AMA
variable {p : Program} {l : Launch} {e : Env} {R : Room} {s : State} {m : MethodId} {args : Array Value} {below : List Frame} {meth : Method} {c : Code} {H : Heap} {locs : List Loc} {cells slots : Nat} {QQ : State → Prop}
variable {mi : am_MI} {D : va_G} {cA : Nat → ClassId} {b B n0 s0 pc pc' : Nat} {L L' : am_Lo} {st st' : List Value} {M M' : am_Mem} {ls : Array Slot}
theorem am_P1 {a : Nat} {x : va_E} (hat : va_at D vwCl (a, x) H) : va_P D vwCl [(a, x)] H := fun k9 x9 hx9 => by
  have h0 : k9 < 1 := (List.getElem?_eq_some_iff.mp hx9).1
  rw [show k9 = 0 by omega] at hx9
  cases hx9
  exact hat
/-- a cell's row is written: what stays of the run's state -/
theorem am_I_row (hI : am_I s D cA b B n0 s0 mi L M ls H locs cells slots) (hbB : b ≤ B) {a t n j9 : Nat} {H1 : Heap} (hn : M.1[a]? = some (t, n)) (h1 : 1 ≤ a) (he : va_at D vwCl (B + a, am_e1 cA b B M' a t n) H1) (e2 : H1.size = H.size) (e3 : ∀ q, q ≠ B + a → H1[q]? = H[q]?) (q3 : M'.1 = M.1) (q4 : ∀ j, j ≠ a → M'.2.1 j = M.2.1 j ∧ M'.2.2.1 j = M.2.2.1 j ∧ M'.2.2.2 j = M.2.2.2 j) :
    am_I s D cA b B n0 s0 mi L M' ls H1 (locs ++ [⟨B + a, j9⟩]) cells slots := by
  obtain ⟨hl, hH, hlocs, hold, hcl, hsl⟩ := hI
  refine ⟨hl, hH.set hbB h1 hn e2 e3 he q3 q4, fun x hx9 => ?_, fun q hq => ?_, by rw [q3]; exact hcl, by rw [q3]; exact hsl⟩
  · rcases List.mem_append.mp hx9 with z | z
    · exact hlocs x z
    · rw [List.mem_singleton.mp z]
      show B < B + a
      omega
  · rw [e3 q (by omega)]
    exact hold q hq
theorem as_iald {a : Nat} {j : Int32} {r : List Value} (hC : am_C p s m args meth c mi D cA b B) (hd : decode mi.2.2.1 pc = .ok (.iaload, 1)) (h : am_inb M.1 a 8 j = true ∨ (a = 0 ∧ am_inb M.1 0 13 j = true)) (hI : am_I s D cA b B n0 s0 mi L M ls H locs cells slots)
    (kk : W p l e R s m args below meth c H locs cells slots QQ (F0 m (pc + 1) ls (.int (M.2.1 a j.toNatClampNeg) :: r))) : W p l e R s m args below meth c H locs cells slots QQ (F0 m pc ls (.int j :: .ref (am_ad b B a) :: r)) := by
  obtain ⟨hx, hb, hml, hown, hts, hnm, hK, hnw, hbB⟩ := hC
  rcases h with h | ⟨rfl, h⟩
  · obtain ⟨n, hn, hin⟩ := am_inb_at h
    obtain ⟨h1, had, hat⟩ := hI.2.1.at hn (by omega)
    rw [had]
    exact va_iald hx hb hK (am_P1 hat) 0 0 (cA := cA 8) (f := M.2.1 a) (by simp [am_e1]) rfl hin hd kk
  · obtain ⟨n, hn, hin⟩ := am_inb_at h
    obtain ⟨h0, ⟨n2, hn2, hX⟩, -⟩ := hI.2.1
    rw [hn2] at hn
    cases hn
    obtain ⟨scr, g1, g2, g3, g4, g5⟩ := hX
    have hlt : j.toNatClampNeg < n := Nat.not_le.mp fun q => hin (Or.inr q)
    exact W.iald (v := .int (M.2.1 0 j.toNatClampNeg)) hx hb g1 g2 g3 (by rw [g4]; exact hin) (g5 _ hlt) rfl rfl hd kk
theorem as_alen {r : List Value} (hC : am_C p s m args meth c mi D cA b B) (hd : decode mi.2.2.1 pc = .ok (.arraylength, 1)) (hI : am_I s D cA b B n0 s0 mi L M ls H locs cells slots)
    (kk : W p l e R s m args below meth c H locs cells slots QQ (F0 m (pc + 1) ls (.int (Int32.ofNat (am_len M.1 0 13)) :: r))) : W p l e R s m args below meth c H locs cells slots QQ (F0 m pc ls (.ref (am_ad b B 0) :: r)) := by
  obtain ⟨hx, hb, hml, hown, hts, hnm, hK, hnw, hbB⟩ := hC
  obtain ⟨h0, ⟨n2, hn2, hX⟩, -⟩ := hI.2.1
  obtain ⟨scr, g1, g2, g3, g4, g5⟩ := hX
  have e : am_len M.1 0 13 = n2 := by simp [am_len, hn2]
  rw [e] at kk
  exact W.alen (n := Int32.ofNat n2) hx hb g1 g2 (by rw [g4] <;> rfl) rfl rfl hd kk
theorem as_bald {a : Nat} {j : Int32} {r : List Value} (hC : am_C p s m args meth c mi D cA b B) (hd : decode mi.2.2.1 pc = .ok (.baload, 1)) (h : am_inb M.1 a 10 j = true) (hI : am_I s D cA b B n0 s0 mi L M ls H locs cells slots)
    (kk : W p l e R s m args below meth c H locs cells slots QQ (F0 m (pc + 1) ls (.int (M.2.1 a j.toNatClampNeg) :: r))) : W p l e R s m args below meth c H locs cells slots QQ (F0 m pc ls (.int j :: .ref (am_ad b B a) :: r)) := by
  obtain ⟨hx, hb, hml, hown, hts, hnm, hK, hnw, hbB⟩ := hC
  obtain ⟨n, hn, hin⟩ := am_inb_at h
  obtain ⟨h1, had, hat⟩ := hI.2.1.at hn (by omega)
  rw [had]
  exact va_zald hx hb hK (am_P1 hat) 0 2 (cA := cA 10) (f := M.2.1 a) (by simp [am_e1]) rfl hin hd kk
theorem as_lald {a : Nat} {j : Int32} {r : List Value} (hC : am_C p s m args meth c mi D cA b B) (hd : decode mi.2.2.1 pc = .ok (.laload, 1)) (h : am_inb M.1 a 9 j = true) (hI : am_I s D cA b B n0 s0 mi L M ls H locs cells slots)
    (kk : W p l e R s m args below meth c H locs cells slots QQ (F0 m (pc + 1) ls (.long (M.2.2.1 a j.toNatClampNeg) :: r))) : W p l e R s m args below meth c H locs cells slots QQ (F0 m pc ls (.int j :: .ref (am_ad b B a) :: r)) := by
  obtain ⟨hx, hb, hml, hown, hts, hnm, hK, hnw, hbB⟩ := hC
  obtain ⟨n, hn, hin⟩ := am_inb_at h
  obtain ⟨h1, had, hat⟩ := hI.2.1.at hn (by omega)
  rw [had]
  exact va_lald hx hb hK (am_P1 hat) 0 1 (cA := cA 9) (f := M.2.2.1 a) (by simp [am_e1]) rfl hin hd kk
theorem as_aald {a : Nat} {j : Int32} {r : List Value} (hC : am_C p s m args meth c mi D cA b B) (hd : decode mi.2.2.1 pc = .ok (.aaload, 1)) (h : (am_inb M.1 a 11 j || am_inb M.1 a 12 j) = true) (hI : am_I s D cA b B n0 s0 mi L M ls H locs cells slots)
    (kk : W p l e R s m args below meth c H locs cells slots QQ (F0 m (pc + 1) ls (am_tv b B (va_rf (M.2.2.2 a j.toNatClampNeg)) :: r))) : W p l e R s m args below meth c H locs cells slots QQ (F0 m pc ls (.int j :: .ref (am_ad b B a) :: r)) := by
  obtain ⟨hx, hb, hml, hown, hts, hnm, hK, hnw, hbB⟩ := hC
  rw [am_tv_rf] at kk
  rcases (Bool.or_eq_true _ _).mp h with h | h
  · obtain ⟨n, hn, hin⟩ := am_inb_at h
    obtain ⟨h1, had, hat⟩ := hI.2.1.at hn (by omega)
    rw [had]
    exact va_aldq hx hb hK (am_P1 hat) 0 3 (cA := cA 11) (f := fun j => (M.2.2.2 a j).map (am_ad b B)) (by simp [am_e1]) rfl hin hd kk
  · obtain ⟨n, hn, hin⟩ := am_inb_at h
    obtain ⟨h1, had, hat⟩ := hI.2.1.at hn (by omega)
    rw [had]
    have hat2 : va_at D vwCl (B + a, .inl (cA 12, n, .inr (.inr (.inr (.inr (fun j => (M.2.2.2 a j).map (am_ad b B))))))) H := by simpa [am_e1] using hat
    have hlt : j.toNatClampNeg < n := Nat.not_le.mp fun q => hin (Or.inr q)
    exact W.aald (v := va_rf ((M.2.2.2 a j.toNatClampNeg).map (am_ad b B))) (ty := .array .int) hx hb hat2 ((hK.2 4 _ rfl).1 n (fun j => va_rf ((M.2.2.2 a j).map (am_ad b B)))) rfl (fun q => by cases q) (by show ¬ (j < 0 ∨ (arrV _ _ _).slots.size ≤ _); rw [arrV_size]; exact hin) (by show (arrV _ _ _).slots[_]? = _; rw [arrV_read _ _ hlt]) rfl rfl hd kk
theorem as_iast {a : Nat} {j x : Int32} {r : List Value} (hC : am_C p s m args meth c mi D cA b B) (hd : decode mi.2.2.1 pc = .ok (.iastore, 1)) (h : am_inb M.1 a 8 j = true) (hI : am_I s D cA b B n0 s0 mi L M ls H locs cells slots)
    (kk : ∀ (H' : Heap) (locs' : List Loc), am_I s D cA b B n0 s0 mi L (M.1, am_up M.2.1 a j.toNatClampNeg x, M.2.2.1, M.2.2.2) ls H' locs' cells slots → W p l e R s m args below meth c H' locs' cells slots QQ (F0 m (pc + 1) ls r)) : W p l e R s m args below meth c H locs cells slots QQ (F0 m pc ls (.int x :: .int j :: .ref (am_ad b B a) :: r)) := by
  obtain ⟨hx, hb, hml, hown, hts, hnm, hK, hnw, hbB⟩ := hC
  obtain ⟨n, hn, hin⟩ := am_inb_at h
  obtain ⟨h1, had, hat⟩ := hI.2.1.at hn (by omega)
  rw [had]
  have hat2 : va_at D vwCl (B + a, .inl (cA 8, n, .inl (M.2.1 a))) H := by simpa [am_e1] using hat
  refine W.iast hx hb hat2 ((hK.2 0 _ rfl).1 n (fun j => .int (M.2.1 a j))) (fun q => by cases q) (by show ¬ (j < 0 ∨ (arrV _ _ _).slots.size ≤ _); rw [arrV_size]; exact hin) rfl rfl hd fun H1 e z oq => ?_
  refine kk H1 _ (am_I_row hI hbB hn h1 ?_ z oq rfl (fun i hi => ⟨am_up_ne hi, rfl, rfl⟩))
  show va_at D vwCl (B + a, .inl (cA 8, n, .inl (am_up M.2.1 a j.toNatClampNeg x a))) H1
  rw [am_up_eq]
  show H1[B + a]? = some (vp_cell _ _)
  rw [e, vp_cell_i, vp_cell_i, arrV_store]
  congr 2
  funext q
  by_cases hq : q = j.toNatClampNeg
  · subst hq; simp [updV]
  · simp [updV, hq]
theorem as_bast {a : Nat} {j x : Int32} {r : List Value} (hC : am_C p s m args meth c mi D cA b B) (hd : decode mi.2.2.1 pc = .ok (.bastore, 1)) (h0 : x = 0 ∨ x = 1) (h : am_inb M.1 a 10 j = true) (hI : am_I s D cA b B n0 s0 mi L M ls H locs cells slots)
    (kk : ∀ (H' : Heap) (locs' : List Loc), am_I s D cA b B n0 s0 mi L (M.1, am_up M.2.1 a j.toNatClampNeg x, M.2.2.1, M.2.2.2) ls H' locs' cells slots → W p l e R s m args below meth c H' locs' cells slots QQ (F0 m (pc + 1) ls r)) : W p l e R s m args below meth c H locs cells slots QQ (F0 m pc ls (.int x :: .int j :: .ref (am_ad b B a) :: r)) := by
  obtain ⟨hx, hb, hml, hown, hts, hnm, hK, hnw, hbB⟩ := hC
  obtain ⟨n, hn, hin⟩ := am_inb_at h
  obtain ⟨h1, had, hat⟩ := hI.2.1.at hn (by omega)
  rw [had]
  have hat2 : va_at D vwCl (B + a, .inl (cA 10, n, .inl (M.2.1 a))) H := by simpa [am_e1] using hat
  have hnr : narrow .boolean (.int x) = .int x := by rcases h0 with rfl | rfl <;> decide
  refine W.zast hx hb hat2 ((hK.2 2 _ rfl).1 n (fun j => .int (M.2.1 a j))) (fun q => by cases q) (by show ¬ (j < 0 ∨ (arrV _ _ _).slots.size ≤ _); rw [arrV_size]; exact hin) rfl rfl hd fun H1 e z oq => ?_
  rw [hnr] at e
  refine kk H1 _ (am_I_row hI hbB hn h1 ?_ z oq rfl (fun i hi => ⟨am_up_ne hi, rfl, rfl⟩))
  show va_at D vwCl (B + a, .inl (cA 10, n, .inl (am_up M.2.1 a j.toNatClampNeg x a))) H1
  rw [am_up_eq]
  show H1[B + a]? = some (vp_cell _ _)
  rw [e, vp_cell_i, vp_cell_i, arrV_store]
  congr 2
  funext q
  by_cases hq : q = j.toNatClampNeg
  · subst hq; simp [updV]
  · simp [updV, hq]
theorem as_last {a : Nat} {j : Int32} {x : Int64} {r : List Value} (hC : am_C p s m args meth c mi D cA b B) (hd : decode mi.2.2.1 pc = .ok (.lastore, 1)) (h : am_inb M.1 a 9 j = true) (hI : am_I s D cA b B n0 s0 mi L M ls H locs cells slots)
    (kk : ∀ (H' : Heap) (locs' : List Loc), am_I s D cA b B n0 s0 mi L (M.1, M.2.1, am_up M.2.2.1 a j.toNatClampNeg x, M.2.2.2) ls H' locs' cells slots → W p l e R s m args below meth c H' locs' cells slots QQ (F0 m (pc + 1) ls r)) : W p l e R s m args below meth c H locs cells slots QQ (F0 m pc ls (.long x :: .int j :: .ref (am_ad b B a) :: r)) := by
  obtain ⟨hx, hb, hml, hown, hts, hnm, hK, hnw, hbB⟩ := hC
  obtain ⟨n, hn, hin⟩ := am_inb_at h
  obtain ⟨h1, had, hat⟩ := hI.2.1.at hn (by omega)
  rw [had]
  have hat2 : va_at D vwCl (B + a, .inl (cA 9, n, .inr (.inl (M.2.2.1 a)))) H := by simpa [am_e1] using hat
  refine W.last hx hb hat2 ((hK.2 1 _ rfl).1 n (fun j => .long (M.2.2.1 a j))) (fun q => by cases q) (by show ¬ (j < 0 ∨ (arrV _ _ _).slots.size ≤ _); rw [arrV_size]; exact hin) rfl rfl hd fun H1 e z oq => ?_
  refine kk H1 _ (am_I_row hI hbB hn h1 ?_ z oq rfl (fun i hi => ⟨rfl, am_up_ne hi, rfl⟩))
  show va_at D vwCl (B + a, .inl (cA 9, n, .inr (.inl (am_up M.2.2.1 a j.toNatClampNeg x a)))) H1
  rw [am_up_eq]
  show H1[B + a]? = some (vp_cell _ _)
  rw [e, vp_cell_l, vp_cell_l, arrV_store]
  congr 2
  funext q
  by_cases hq : q = j.toNatClampNeg
  · subst hq; simp [updV]
  · simp [updV, hq]
theorem as_aast {a v : Nat} {j : Int32} {r : List Value} (hC : am_C p s m args meth c mi D cA b B) (hd : decode mi.2.2.1 pc = .ok (.aastore, 1)) (h : am_inb M.1 a 11 j = true) (hv : am_isob M.1 v 3 = true) (hI : am_I s D cA b B n0 s0 mi L M ls H locs cells slots)
    (kk : ∀ (H' : Heap) (locs' : List Loc), am_I s D cA b B n0 s0 mi L (M.1, M.2.1, M.2.2.1, am_up M.2.2.2 a j.toNatClampNeg (some v)) ls H' locs' cells slots → W p l e R s m args below meth c H' locs' cells slots QQ (F0 m (pc + 1) ls r)) : W p l e R s m args below meth c H locs cells slots QQ (F0 m pc ls (.ref (am_ad b B v) :: .int j :: .ref (am_ad b B a) :: r)) := by
  obtain ⟨hx, hb, hml, hown, hts, hnm, hK, hnw, hbB⟩ := hC
  obtain ⟨n, hn, hin⟩ := am_inb_at h
  obtain ⟨h1, had, hat⟩ := hI.2.1.at hn (by omega)
  obtain ⟨nv, hnv⟩ := am_isob_at hv
  obtain ⟨h1v, hadv, hatv⟩ := hI.2.1.at hnv (by omega)
  rw [had]
  have hat2 : va_at D vwCl (B + a, .inl (cA 11, n, .inr (.inr (.inr (.inr (fun j => (M.2.2.2 a j).map (am_ad b B))))))) H := by simpa [am_e1] using hat
  have hlt : j.toNatClampNeg < n := Nat.not_le.mp fun q => hin (Or.inr q)
  have h0 : ¬ j < 0 := fun q => hin (Or.inl q)
  unfold am_e1 at hatv
  rw [if_pos (by omega)] at hatv
  obtain ⟨r', hr', cellV, g1, g2, g3, -⟩ := hatv
  have hcls := (hK.1 3 _ (am_cl_ci (ci := 3) (by omega))).2
  obtain ⟨kA, comp, k1, k2, k3, -⟩ := (hK.2 3 _ rfl).2
  have hcomp : comp = D.1 3 := Option.some.inj (k3.symm.trans hcls.1)
  subst hcomp
  obtain ⟨kC, hkC, -⟩ := hcls.2
  refine W.aast hx hb hat2 (fun q h => by cases h) (fun h => by cases h) k1 k2 rfl hkC ⟨h0, by show _ < (arrV _ _ _).slots.size; rw [arrV_size]; exact hlt⟩ (by rw [hadv]; exact g1) (fun q h => by rw [g3] at h; cases h) (by rw [g2]; exact hkC) (by rw [g2]; exact va_assign hcls) rfl rfl hd fun H1 e z oq => ?_
  refine kk H1 _ (am_I_row hI hbB hn h1 ?_ z oq rfl (fun i hi => ⟨rfl, rfl, am_up_ne hi⟩))
  show va_at D vwCl (B + a, .inl (cA 11, n, .inr (.inr (.inr (.inr (fun i => (am_up M.2.2.2 a j.toNatClampNeg (some v) a i).map (am_ad b B))))))) H1
  rw [am_up_eq]
  show H1[B + a]? = some (vp_cell _ _)
  rw [e, vp_cell_q, vp_cell_q, arrV_store]
  congr 2
  funext q
  by_cases hq : q = j.toNatClampNeg
  · subst hq; simp [updV, va_rf]
  · simp [updV, hq]
end AMA
