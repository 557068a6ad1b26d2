/-! what the plain machine runs to, step by step: rows that rewrite -/
section WP
variable {d : Nat} {mi : am_MI} {pc pc' : Nat} {L L' : am_Lo} {st st' : List Value} {M M' : am_Mem} {Q : am_Post}
theorem wp_go {q : am_Cf} (h : am_stp mi pc L st M = some (.inl q)) : am_wp d mi pc L st M Q ↔ am_wp d mi q.1 q.2.1 q.2.2.1 q.2.2.2 Q := by
  constructor
  · rintro ⟨k, hk⟩
    cases k with
    | zero => exact hk.elim
    | succ k =>
      unfold am_run at hk
      rw [h] at hk
      exact ⟨k, hk⟩
  · rintro ⟨k, hk⟩
    refine ⟨k + 1, ?_⟩
    unfold am_run
    rw [h]
    exact hk
theorem wp_ret {r : Option Value × am_Mem} (h : am_stp mi pc L st M = some (.inr (.inl r))) : am_wp d mi pc L st M Q ↔ Q r.1 r.2 := by
  constructor
  · rintro ⟨k, hk⟩
    cases k with
    | zero => exact hk.elim
    | succ k =>
      unfold am_run at hk
      rw [h] at hk
      exact hk
  · intro hq
    refine ⟨1, ?_⟩
    unfold am_run
    rw [h]
    exact hq
theorem wp_none (h : am_stp mi pc L st M = none) : am_wp d mi pc L st M Q ↔ False := by
  constructor
  · rintro ⟨k, hk⟩
    cases k with
    | zero => exact hk.elim
    | succ k =>
      unfold am_run at hk
      rw [h] at hk
      exact hk
  · exact False.elim
theorem wp_call {q : am_MI × List Value × am_Cf} (h : am_stp mi pc L st M = some (.inr (.inr q))) : am_wp d mi pc L st M Q ↔ am_call d q.1 q.2.1 q.2.2.2.2.2 (fun v M' => am_wp d mi q.2.2.1 q.2.2.2.1 (v.toList ++ q.2.2.2.2.1) M' Q) := by
  constructor
  · rintro ⟨k, hk⟩
    cases k with
    | zero => exact hk.elim
    | succ k =>
      unfold am_run at hk
      rw [h] at hk
      exact am_call_mono d _ _ _ _ _ (fun v M' h9 => ⟨k, h9⟩) hk
  · intro hq
    obtain ⟨v, M', ⟨k, hk⟩, -, hc⟩ := am_call_pin d _ _ _ _ hq
    refine ⟨k + 1, ?_⟩
    unfold am_run
    rw [h]
    exact am_call_mono d _ _ _ _ _ (fun v' M'' h9 => by obtain ⟨rfl, rfl⟩ := h9; exact hk) hc
theorem am_wp_mono {Q' : am_Post} (hq : ∀ v M', Q v M' → Q' v M') (h : am_wp d mi pc L st M Q) : am_wp d mi pc L st M Q' := by
  obtain ⟨k, hk⟩ := h
  exact ⟨k, am_run_mono (fun y a M Q Q' => am_call_mono d y a M Q Q') mi k _ _ _ _ _ _ hq hk⟩
theorem am_call_wp {a : List Value} (h0 : (a.length ≤ mi.2.2.2.1 ∧ ∀ v ∈ a, v.category = 1)) {E : am_Lo} (he : am_ent mi a = E) : am_call (d + 1) mi a M Q ↔ am_wp d mi 0 E [] M Q := by
  subst he
  exact ⟨fun h => h.2, fun h => ⟨h0, h⟩⟩
theorem aw_stp {i : Instr} {n : Nat} (hd : decode mi.2.2.1 pc = .ok (i, n)) (hn : n = am_il i n) : am_stp mi pc L st M = am_ins mi i n pc L st M := by
  unfold am_stp
  rw [hd]
  exact if_pos hn
theorem aw_go {i : Instr} {n : Nat} (hd : decode mi.2.2.1 pc = .ok (i, n)) (hn : n = am_il i n) {q : am_Cf} (h : am_ins mi i n pc L st M = some (.inl q)) : am_wp d mi pc L st M Q ↔ am_wp d mi q.1 q.2.1 q.2.2.1 q.2.2.2 Q := wp_go ((aw_stp hd hn).trans h)
theorem aw_ifgo {i : Instr} {n : Nat} (hd : decode mi.2.2.1 pc = .ok (i, n)) (hn : n = am_il i n) {P : Prop} {q : am_Cf} (h : P → am_ins mi i n pc L st M = some (.inl q)) (h2 : ¬ P → am_ins mi i n pc L st M = none) : am_wp d mi pc L st M Q ↔ P ∧ am_wp d mi q.1 q.2.1 q.2.2.1 q.2.2.2 Q := by
  by_cases hp : P
  · rw [aw_go hd hn (h hp)]
    exact ⟨fun h => ⟨hp, h⟩, fun h => h.2⟩
  · rw [wp_none ((aw_stp hd hn).trans (h2 hp))]
    exact ⟨False.elim, fun h => hp h.1⟩
theorem aw_br {i : Instr} {n : Nat} (hd : decode mi.2.2.1 pc = .ok (i, n)) (hn : n = am_il i n) {P : Prop} [Decidable P] {off : Int} {t1 t2 : Nat} {r : List Value} (h : am_ins mi i n pc L st M = am_br P pc n off L r M) (ht : (pc : Int) + off = (t1 : Int)) (h2 : pc + n = t2) : am_wp d mi pc L st M Q ↔ if P then am_wp d mi t1 L r M Q else am_wp d mi t2 L r M Q := by
  unfold am_br at h
  rw [if_pos (by omega)] at h
  have e : ((pc : Int) + off).toNat = t1 := by omega
  by_cases hp : P
  · rw [if_pos hp] at h ⊢
    rw [aw_go hd hn h, e]
  · rw [if_neg hp] at h ⊢
    rw [aw_go hd hn h, h2]
theorem aw_jump {i : Instr} {n : Nat} (hd : decode mi.2.2.1 pc = .ok (i, n)) (hn : n = am_il i n) {off : Int} {t1 : Nat} {r : List Value} (h : am_ins mi i n pc L st M = am_jump pc off L r M) (ht : (pc : Int) + off = (t1 : Int)) : am_wp d mi pc L st M Q ↔ am_wp d mi t1 L r M Q := by
  unfold am_jump at h
  rw [if_pos (by omega)] at h
  have e : ((pc : Int) + off).toNat = t1 := by omega
  rw [aw_go hd hn h, e]
/-- reading a row of ints -/
def am_rd (sh : am_Sh) (a : Nat) (j : Int32) : Bool := am_inb sh a 8 j || (a == 0 && am_inb sh 0 13 j)
theorem aw_iald (hd : decode mi.2.2.1 pc = .ok (.iaload, 1)) {a : Nat} {j : Int32} {sh : am_Sh} {I : Nat → Nat → Int32} {J : Nat → Nat → Int64} {Rr : Nat → Nat → Option Nat} (hp : pc + 1 = pc') : am_wp d mi pc L (.int j :: .ref a :: st) (sh, I, J, Rr) Q ↔ am_rd sh a j = true ∧ am_wp d mi pc' L (.int (I a j.toNatClampNeg) :: st) (sh, I, J, Rr) Q := by
  subst hp
  refine aw_ifgo (P := am_rd sh a j = true) (q := (pc + 1, L, .int (I a j.toNatClampNeg) :: st, (sh, I, J, Rr))) hd rfl (fun h => if_pos ?_) (fun h => if_neg ?_)
  · simpa [am_rd] using h
  · simpa [am_rd] using h
theorem aw_iast (hd : decode mi.2.2.1 pc = .ok (.iastore, 1)) {a : Nat} {j x : Int32} {sh : am_Sh} {I : Nat → Nat → Int32} {J : Nat → Nat → Int64} {Rr : Nat → Nat → Option Nat} (hp : pc + 1 = pc') : am_wp d mi pc L (.int x :: .int j :: .ref a :: st) (sh, I, J, Rr) Q ↔ (am_inb sh a 8 j = true ∧ 0 < a) ∧ am_wp d mi pc' L st (sh, am_up I a j.toNatClampNeg x, J, Rr) Q := by
  subst hp
  exact aw_ifgo (q := (pc + 1, L, st, (sh, am_up I a j.toNatClampNeg x, J, Rr))) hd rfl (fun h => if_pos h) (fun h => if_neg h)
theorem aw_bald (hd : decode mi.2.2.1 pc = .ok (.baload, 1)) {a : Nat} {j : Int32} {sh : am_Sh} {I : Nat → Nat → Int32} {J : Nat → Nat → Int64} {Rr : Nat → Nat → Option Nat} (hp : pc + 1 = pc') : am_wp d mi pc L (.int j :: .ref a :: st) (sh, I, J, Rr) Q ↔ am_inb sh a 10 j = true ∧ am_wp d mi pc' L (.int (I a j.toNatClampNeg) :: st) (sh, I, J, Rr) Q := by
  subst hp
  exact aw_ifgo (q := (pc + 1, L, .int (I a j.toNatClampNeg) :: st, (sh, I, J, Rr))) hd rfl (fun h => if_pos h) (fun h => if_neg h)
theorem aw_bast (hd : decode mi.2.2.1 pc = .ok (.bastore, 1)) {a : Nat} {j x : Int32} {sh : am_Sh} {I : Nat → Nat → Int32} {J : Nat → Nat → Int64} {Rr : Nat → Nat → Option Nat} (hp : pc + 1 = pc') : am_wp d mi pc L (.int x :: .int j :: .ref a :: st) (sh, I, J, Rr) Q ↔ ((x = 0 ∨ x = 1) ∧ am_inb sh a 10 j = true ∧ 0 < a) ∧ am_wp d mi pc' L st (sh, am_up I a j.toNatClampNeg x, J, Rr) Q := by
  subst hp
  exact aw_ifgo (q := (pc + 1, L, st, (sh, am_up I a j.toNatClampNeg x, J, Rr))) hd rfl (fun h => if_pos h) (fun h => if_neg h)
theorem aw_lald (hd : decode mi.2.2.1 pc = .ok (.laload, 1)) {a : Nat} {j : Int32} {sh : am_Sh} {I : Nat → Nat → Int32} {J : Nat → Nat → Int64} {Rr : Nat → Nat → Option Nat} (hp : pc + 1 = pc') : am_wp d mi pc L (.int j :: .ref a :: st) (sh, I, J, Rr) Q ↔ am_inb sh a 9 j = true ∧ am_wp d mi pc' L (.long (J a j.toNatClampNeg) :: st) (sh, I, J, Rr) Q := by
  subst hp
  exact aw_ifgo (q := (pc + 1, L, .long (J a j.toNatClampNeg) :: st, (sh, I, J, Rr))) hd rfl (fun h => if_pos h) (fun h => if_neg h)
theorem aw_last (hd : decode mi.2.2.1 pc = .ok (.lastore, 1)) {a : Nat} {j : Int32} {x : Int64} {sh : am_Sh} {I : Nat → Nat → Int32} {J : Nat → Nat → Int64} {Rr : Nat → Nat → Option Nat} (hp : pc + 1 = pc') : am_wp d mi pc L (.long x :: .int j :: .ref a :: st) (sh, I, J, Rr) Q ↔ (am_inb sh a 9 j = true ∧ 0 < a) ∧ am_wp d mi pc' L st (sh, I, am_up J a j.toNatClampNeg x, Rr) Q := by
  subst hp
  exact aw_ifgo (q := (pc + 1, L, st, (sh, I, am_up J a j.toNatClampNeg x, Rr))) hd rfl (fun h => if_pos h) (fun h => if_neg h)
theorem aw_aald (hd : decode mi.2.2.1 pc = .ok (.aaload, 1)) {a : Nat} {j : Int32} {sh : am_Sh} {I : Nat → Nat → Int32} {J : Nat → Nat → Int64} {Rr : Nat → Nat → Option Nat} (hp : pc + 1 = pc') : am_wp d mi pc L (.int j :: .ref a :: st) (sh, I, J, Rr) Q ↔ (am_inb sh a 11 j || am_inb sh a 12 j) = true ∧ am_wp d mi pc' L (va_rf (Rr a j.toNatClampNeg) :: st) (sh, I, J, Rr) Q := by
  subst hp
  exact aw_ifgo (q := (pc + 1, L, va_rf (Rr a j.toNatClampNeg) :: st, (sh, I, J, Rr))) hd rfl (fun h => if_pos h) (fun h => if_neg h)
theorem aw_aast (hd : decode mi.2.2.1 pc = .ok (.aastore, 1)) {a v : Nat} {j : Int32} {sh : am_Sh} {I : Nat → Nat → Int32} {J : Nat → Nat → Int64} {Rr : Nat → Nat → Option Nat} (hp : pc + 1 = pc') : am_wp d mi pc L (.ref v :: .int j :: .ref a :: st) (sh, I, J, Rr) Q ↔ (am_inb sh a 11 j = true ∧ am_isob sh v 3 = true ∧ 0 < a) ∧ am_wp d mi pc' L st (sh, I, J, am_up Rr a j.toNatClampNeg (some v)) Q := by
  subst hp
  exact aw_ifgo (q := (pc + 1, L, st, (sh, I, J, am_up Rr a j.toNatClampNeg (some v)))) hd rfl (fun h => if_pos h) (fun h => if_neg h)
theorem aw_get {idx ci k : Nat} (hd : decode mi.2.2.1 pc = .ok (.getfield idx, 3)) (hf : am_fl mi.1 idx = some (ci, k)) (h8 : ci < 8) (hk : k < am_nf ci) {a : Nat} {sh : am_Sh} {I : Nat → Nat → Int32} {J : Nat → Nat → Int64} {Rr : Nat → Nat → Option Nat} {v : Value} (hv : am_fval ci k (sh, I, J, Rr) a = v) (hp : pc + 3 = pc') : am_wp d mi pc L (.ref a :: st) (sh, I, J, Rr) Q ↔ am_isob sh a ci = true ∧ am_wp d mi pc' L (v :: st) (sh, I, J, Rr) Q := by
  subst hp
  subst hv
  refine aw_ifgo (q := (pc + 3, L, am_fval ci k (sh, I, J, Rr) a :: st, (sh, I, J, Rr))) hd rfl (fun h => ?_) (fun h => ?_)
  · rw [show am_ins mi (.getfield idx) 3 pc L (.ref a :: st) (sh, I, J, Rr) = am_get mi idx pc L (.ref a :: st) (sh, I, J, Rr) from rfl]
    unfold am_get
    rw [hf]
    exact if_pos ⟨h, h8, hk⟩
  · rw [show am_ins mi (.getfield idx) 3 pc L (.ref a :: st) (sh, I, J, Rr) = am_get mi idx pc L (.ref a :: st) (sh, I, J, Rr) from rfl]
    unfold am_get
    rw [hf]
    exact if_neg (fun q => h q.1)
theorem aw_put {idx ci k : Nat} (hd : decode mi.2.2.1 pc = .ok (.putfield idx, 3)) (hf : am_fl mi.1 idx = some (ci, k)) (h8 : ci < 8) (hk : k < am_nf ci) (hfin : am_fin ci k = true → mi.2.1.name = "<init>" ∧ mi.1 = ci) {a : Nat} {v : Value} (hM : am_pv ci k a v M = some M') (hp : pc + 3 = pc') : am_wp d mi pc L (v :: .ref a :: st) M Q ↔ (am_isob M.1 a ci = true ∧ 0 < a) ∧ am_wp d mi pc' L st M' Q := by
  subst hp
  refine aw_ifgo (q := (pc + 3, L, st, M')) hd rfl (fun h => ?_) (fun h => ?_)
  · rw [show am_ins mi (.putfield idx) 3 pc L (v :: .ref a :: st) M = am_put mi idx pc L (v :: .ref a :: st) M from rfl]
    unfold am_put
    rw [hf]
    show (if am_isob M.1 a ci = true ∧ ci < 8 ∧ k < am_nf ci ∧ (am_fin ci k = true → mi.2.1.name = "<init>" ∧ mi.1 = ci) ∧ 0 < a then _ else none) = _
    rw [if_pos ⟨h.1, h8, hk, hfin, h.2⟩, hM]
    rfl
  · rw [show am_ins mi (.putfield idx) 3 pc L (v :: .ref a :: st) M = am_put mi idx pc L (v :: .ref a :: st) M from rfl]
    unfold am_put
    rw [hf]
    show (if am_isob M.1 a ci = true ∧ ci < 8 ∧ k < am_nf ci ∧ (am_fin ci k = true → mi.2.1.name = "<init>" ∧ mi.1 = ci) ∧ 0 < a then _ else none) = _
    exact if_neg (fun q => h ⟨q.1, q.2.2.2.2⟩)
theorem aw_putZ {idx ci k : Nat} (hd : decode mi.2.2.1 pc = .ok (.putfield idx, 3)) (hf : am_fl mi.1 idx = some (ci, k)) (h8 : ci < 8) (hk : k < am_nf ci) (hfin : am_fin ci k = true → mi.2.1.name = "<init>" ∧ mi.1 = ci) (hz : am_fty ci k = 3) {a : Nat} {x : Int32} {sh : am_Sh} {I : Nat → Nat → Int32} {J : Nat → Nat → Int64} {Rr : Nat → Nat → Option Nat} (hp : pc + 3 = pc') : am_wp d mi pc L (.int x :: .ref a :: st) (sh, I, J, Rr) Q ↔ ((x = 0 ∨ x = 1) ∧ am_isob sh a ci = true ∧ 0 < a) ∧ am_wp d mi pc' L st (sh, am_up I a k x, J, Rr) Q := by
  by_cases hx : x = 0 ∨ x = 1
  · have hM : am_pv ci k a (.int x) (sh, I, J, Rr) = some (sh, am_up I a k x, J, Rr) := by
      unfold am_pv
      rw [hz]
      exact if_pos hx
    rw [aw_put hd hf h8 hk hfin hM hp]
    simp [hx]
  · have hM : am_pv ci k a (.int x) (sh, I, J, Rr) = none := by
      unfold am_pv
      rw [hz]
      exact if_neg hx
    have hs : am_put mi idx pc L (.int x :: .ref a :: st) (sh, I, J, Rr) = none := by
      unfold am_put
      rw [hf]
      show (if _ then (match am_pv ci k a (.int x) (sh, I, J, Rr) with | some M' => am_go (pc + 3) L st M' | none => none) else none) = none
      rw [hM]
      split <;> rfl
    rw [wp_none ((aw_stp hd rfl).trans ((show am_ins mi (.putfield idx) 3 pc L (.int x :: .ref a :: st) (sh, I, J, Rr) = am_put mi idx pc L (.int x :: .ref a :: st) (sh, I, J, Rr) from rfl).trans hs))]
    simp [hx]
theorem aw_callV {idx n : Nat} {y : am_MI} (hd : decode mi.2.2.1 pc = .ok (.invokevirtual idx, 3)) (hi : am_inv mi.1 idx = some (0, y, n)) (h8 : y.1 < 8) {a : Nat} {as : List Value} (hs : st[n]? = some (.ref a)) (ha : (st.take n).reverse = as) (hr : st.drop (n + 1) = st') (hp : pc + 3 = pc') : am_wp d mi pc L st M Q ↔ (am_isob M.1 a y.1 = true ∧ am_cats st' ≤ 8) ∧ am_call d y (.ref a :: as) M (fun v M' => am_wp d mi pc' L (v.toList ++ st') M' Q) := by
  subst ha
  subst hr
  subst hp
  have hst : am_stp mi pc L st M = if am_isob M.1 a y.1 = true ∧ y.1 < 8 ∧ am_cats (st.drop (n + 1)) ≤ 8 then some (.inr (.inr (y, .ref a :: (st.take n).reverse, (pc + 3, L, st.drop (n + 1), M)))) else none := by
    rw [aw_stp hd rfl]
    show am_inst mi idx pc L st M [0] = _
    unfold am_inst
    rw [hi]
    show (match st[n]? with | some (.ref a) => _ | _ => none) = _
    rw [hs]
  by_cases h : am_isob M.1 a y.1 = true ∧ am_cats (st.drop (n + 1)) ≤ 8
  · rw [if_pos ⟨h.1, h8, h.2⟩] at hst
    rw [wp_call hst]
    exact ⟨fun k => ⟨h, k⟩, fun k => k.2⟩
  · rw [if_neg (fun q => h ⟨q.1, q.2.2⟩)] at hst
    rw [wp_none hst]
    exact ⟨False.elim, fun k => h k.1⟩
theorem aw_callS {idx n : Nat} {y : am_MI} (hd : decode mi.2.2.1 pc = .ok (.invokestatic idx, 3)) (hi : am_inv mi.1 idx = some (1, y, n)) {as : List Value} (hn : n ≤ st.length) (ha : (st.take n).reverse = as) (hr : st.drop n = st') (hp : pc + 3 = pc') : am_wp d mi pc L st M Q ↔ am_cats st' ≤ 8 ∧ am_call d y as M (fun v M' => am_wp d mi pc' L (v.toList ++ st') M' Q) := by
  subst ha
  subst hr
  subst hp
  have hst : am_stp mi pc L st M = if n ≤ st.length ∧ am_cats (st.drop n) ≤ 8 then some (.inr (.inr (y, (st.take n).reverse, (pc + 3, L, st.drop n, M)))) else none := by
    rw [aw_stp hd rfl]
    show am_inst mi idx pc L st M [1, 5] = _
    unfold am_inst
    rw [hi]
    rfl
  by_cases h : am_cats (st.drop n) ≤ 8
  · rw [if_pos ⟨hn, h⟩] at hst
    rw [wp_call hst]
    exact ⟨fun k => ⟨h, k⟩, fun k => k.2⟩
  · rw [if_neg (fun q => h q.2)] at hst
    rw [wp_none hst]
    exact ⟨False.elim, fun k => h k.1⟩
theorem aw_callI {idx n kind : Nat} {y : am_MI} (hd : decode mi.2.2.1 pc = .ok (.invokespecial idx, 3)) (hi : am_inv mi.1 idx = some (kind, y, n)) (hk : kind = 2 ∨ kind = 3) {a : Nat} {as : List Value} (hs : st[n]? = some (.ref a)) (ha : (st.take n).reverse = as) (hr : st.drop (n + 1) = st') (hp : pc + 3 = pc') : am_wp d mi pc L st M Q ↔ am_cats st' ≤ 8 ∧ am_call d y (.ref a :: as) M (fun v M' => am_wp d mi pc' L (v.toList ++ st') M' Q) := by
  subst ha
  subst hr
  subst hp
  have hst : am_stp mi pc L st M = if am_cats (st.drop (n + 1)) ≤ 8 then some (.inr (.inr (y, .ref a :: (st.take n).reverse, (pc + 3, L, st.drop (n + 1), M)))) else none := by
    rw [aw_stp hd rfl]
    show am_inst mi idx pc L st M [2, 3, 4] = _
    unfold am_inst
    rw [hi]
    rcases hk with rfl | rfl
    · show (match st[n]? with | some (.ref a) => _ | _ => none) = _
      rw [hs]
    · show (match st[n]? with | some (.ref a) => _ | _ => none) = _
      rw [hs]
  by_cases h : am_cats (st.drop (n + 1)) ≤ 8
  · rw [if_pos h] at hst
    rw [wp_call hst]
    exact ⟨fun k => ⟨h, k⟩, fun k => k.2⟩
  · rw [if_neg h] at hst
    rw [wp_none hst]
    exact ⟨False.elim, fun k => h k.1⟩
theorem aw_objI {idx n : Nat} {y : am_MI} (hd : decode mi.2.2.1 pc = .ok (.invokespecial idx, 3)) (hi : am_inv mi.1 idx = some (4, y, n)) {a : Nat} (hp : pc + 3 = pc') : am_wp d mi pc L (.ref a :: st) M Q ↔ am_cats st ≤ 8 ∧ am_wp d mi pc' L st M Q := by
  subst hp
  refine aw_ifgo (q := (pc + 3, L, st, M)) hd rfl (fun h => ?_) (fun h => ?_)
  · show am_inst mi idx pc L _ M [2, 3, 4] = _
    unfold am_inst
    rw [hi]
    exact if_pos h
  · show am_inst mi idx pc L _ M [2, 3, 4] = _
    unfold am_inst
    rw [hi]
    exact if_neg h
def am_cpok (sh : am_Sh) (sp dp n : Int32) (a a0 : Nat) (st : List Value) : Prop := ¬ sp < 0 ∧ ¬ dp < 0 ∧ ¬ n < 0 ∧ (sh[a]?).map Prod.fst = some 8 ∧ (sh[a0]?).map Prod.fst = some 8 ∧ sp.toNatClampNeg + n.toNatClampNeg ≤ am_len sh a0 8 ∧ dp.toNatClampNeg + n.toNatClampNeg ≤ am_len sh a 8 ∧ am_cats st ≤ 8 ∧ 0 < a
theorem aw_copy {idx n9 : Nat} {y : am_MI} (hd : decode mi.2.2.1 pc = .ok (.invokestatic idx, 3)) (hi : am_inv mi.1 idx = some (5, y, n9)) {a a0 : Nat} {sp dp n : Int32} {sh : am_Sh} {I : Nat → Nat → Int32} {J : Nat → Nat → Int64} {Rr : Nat → Nat → Option Nat} (hp : pc + 3 = pc') : am_wp d mi pc L (.int n :: .int dp :: .ref a :: .int sp :: .ref a0 :: st) (sh, I, J, Rr) Q ↔ am_cpok sh sp dp n a a0 st ∧ am_wp d mi pc' L st (sh, am_row I a (va_cpy (I a0) (I a) sp.toNatClampNeg dp.toNatClampNeg n.toNatClampNeg), J, Rr) Q := by
  subst hp
  refine aw_ifgo (q := (pc + 3, L, st, (sh, am_row I a (va_cpy (I a0) (I a) sp.toNatClampNeg dp.toNatClampNeg n.toNatClampNeg), J, Rr))) hd rfl (fun h => ?_) (fun h => ?_)
  · show am_inst mi idx pc L _ _ [1, 5] = _
    unfold am_inst
    rw [hi]
    exact if_pos h
  · show am_inst mi idx pc L _ _ [1, 5] = _
    unfold am_inst
    rw [hi]
    exact if_neg h
theorem aw_iret (hd : decode mi.2.2.1 pc = .ok (.ireturn, 1)) {x : Int32} : am_wp d mi pc L [.int x] M Q ↔ am_retok mi.2.2.2.2 x = true ∧ Q (some (.int x)) M := by
  by_cases h : am_retok mi.2.2.2.2 x = true
  · rw [wp_ret (r := (some (.int x), M)) ((aw_stp hd rfl).trans ((show am_ins mi .ireturn 1 pc L [.int x] M = if am_retok mi.2.2.2.2 x then some (.inr (.inl (some (.int x), M))) else none from rfl).trans (if_pos h)))]
    exact ⟨fun k => ⟨h, k⟩, fun k => k.2⟩
  · rw [wp_none ((aw_stp hd rfl).trans ((show am_ins mi .ireturn 1 pc L [.int x] M = if am_retok mi.2.2.2.2 x then some (.inr (.inl (some (.int x), M))) else none from rfl).trans (if_neg h)))]
    exact ⟨False.elim, fun k => h k.1⟩
theorem aw_lret (hd : decode mi.2.2.1 pc = .ok (.lreturn, 1)) (hr : mi.2.2.2.2 = some .long) {x : Int64} : am_wp d mi pc L [.long x] M Q ↔ Q (some (.long x)) M := wp_ret (r := (some (.long x), M)) ((aw_stp hd rfl).trans (if_pos hr))
theorem aw_vret (hd : decode mi.2.2.1 pc = .ok (.return_, 1)) (hr : mi.2.2.2.2 = none) : am_wp d mi pc L [] M Q ↔ Q none M := wp_ret (r := (none, M)) ((aw_stp hd rfl).trans (if_pos hr))
theorem am_cats_nil : am_cats [] = 0 := rfl
theorem am_cats_int (x : Int32) (st : List Value) : am_cats (.int x :: st) = am_cats st + 1 := by simp [am_cats, Value.category]; omega
theorem am_cats_ref (x : Nat) (st : List Value) : am_cats (.ref x :: st) = am_cats st + 1 := by simp [am_cats, Value.category]; omega
theorem am_cats_long (x : Int64) (st : List Value) : am_cats (.long x :: st) = am_cats st + 2 := by simp [am_cats, Value.category]; omega
theorem am_k1_int (x : Int32) : am_k1 (some (.int x)) = some (.int x) := rfl
theorem am_k1_ref (x : Nat) : am_k1 (some (.ref x)) = some (.ref x) := rfl
theorem am_k1_none : am_k1 none = none := rfl
theorem aw_k {i : Instr} {n : Nat} {v : Value} (hd : decode mi.2.2.1 pc = .ok (i, n)) (hn : n = am_il i n) (h : am_ins mi i n pc L st M = am_go (pc + n) L (v :: st) M) {w : Value} (hv : v = w) (hp : pc + n = pc') : am_wp d mi pc L st M Q ↔ am_wp d mi pc' L (w :: st) M Q := by
  subst hv
  subst hp
  exact aw_go hd hn h
theorem aw_ldc {k n : Nat} {i : Instr} {v : Int32} (hd : decode mi.2.2.1 pc = .ok (i, n)) (hn : n = am_il i n) (hi : i = .ldc k ∨ i = .ldc_w k) (hc : am_cst mi.1 k = some v) (hp : pc + n = pc') : am_wp d mi pc L st M Q ↔ am_wp d mi pc' L (.int v :: st) M Q := by
  subst hp
  refine aw_go (q := (pc + n, L, .int v :: st, M)) hd hn ?_
  rcases hi with rfl | rfl
  · show (match am_cst mi.1 k with | some v => am_go (pc + n) L (.int v :: st) M | none => none) = _
    rw [hc]
    rfl
  · show (match am_cst mi.1 k with | some v => am_go (pc + n) L (.int v :: st) M | none => none) = _
    rw [hc]
    rfl
theorem aw_ldcl {k : Nat} {v : Int64} (hd : decode mi.2.2.1 pc = .ok (.ldc2_w k, 3)) (hc : am_csl mi.1 k = some v) (hp : pc + 3 = pc') : am_wp d mi pc L st M Q ↔ am_wp d mi pc' L (.long v :: st) M Q := by
  subst hp
  refine aw_go (q := (pc + 3, L, .long v :: st, M)) hd rfl ?_
  show (match am_csl mi.1 k with | some v => am_go (pc + 3) L (.long v :: st) M | none => none) = _
  rw [hc]
  rfl
theorem aw_ld {i : Instr} {n k : Nat} {ok : Value → Bool} {v : Value} (hd : decode mi.2.2.1 pc = .ok (i, n)) (hn : n = am_il i n) (hi : am_ins mi i n pc L st M = am_ld k n pc L st M ok) (hL : L[k]? = some (some v)) (hv : ok v = true) (hp : pc + n = pc') : am_wp d mi pc L st M Q ↔ am_wp d mi pc' L (v :: st) M Q := by
  subst hp
  refine aw_go (q := (pc + n, L, v :: st, M)) hd hn (hi.trans ?_)
  unfold am_ld
  rw [hL]
  exact if_pos hv
theorem aw_sto {i : Instr} {n k : Nat} {ok : Value → Bool} {v : Value} (hd : decode mi.2.2.1 pc = .ok (i, n)) (hn : n = am_il i n) (hi : am_ins mi i n pc L (v :: st) M = am_sto k n pc L (v :: st) M ok) (hlt : k < L.length) (hv : ok v = true) (hL : am_st1 L k v = L') (hp : pc + n = pc') : am_wp d mi pc L (v :: st) M Q ↔ am_wp d mi pc' L' st M Q := by
  subst hp
  subst hL
  refine aw_go (q := (pc + n, am_st1 L k v, st, M)) hd hn (hi.trans ?_)
  exact if_pos ⟨hv, hlt⟩
theorem aw_stoJ {i : Instr} {n k : Nat} {v : Int64} (hd : decode mi.2.2.1 pc = .ok (i, n)) (hn : n = am_il i n) (hi : am_ins mi i n pc L (.long v :: st) M = am_stoJ k n pc L (.long v :: st) M) (hlt : k + 1 < L.length) (hL : am_st2 L k (.long v) = L') (hp : pc + n = pc') : am_wp d mi pc L (.long v :: st) M Q ↔ am_wp d mi pc' L' st M Q := by
  subst hp
  subst hL
  refine aw_go (q := (pc + n, am_st2 L k (.long v), st, M)) hd hn (hi.trans ?_)
  exact if_pos hlt
theorem aw_iinc {k : Nat} {z : Int} {x w : Int32} (hd : decode mi.2.2.1 pc = .ok (.iinc k z, 3)) (hx : L[k]? = some (some (.int x))) (hz : Int32.ofInt z = w) (hL : am_st1 L k (.int (x + w)) = L') (hp : pc + 3 = pc') : am_wp d mi pc L st M Q ↔ am_wp d mi pc' L' st M Q := by
  subst hp
  subst hz
  subst hL
  refine aw_go (q := (pc + 3, am_st1 L k (.int (x + Int32.ofInt z)), st, M)) hd rfl ?_
  show (match L[k]? with | some (some (.int x)) => am_go (pc + 3) (am_st1 L k (.int (x + Int32.ofInt z))) st M | _ => none) = _
  rw [hx]
  rfl
theorem aw_b2 {i : Instr} {f : Int32 → Int32 → Int32} {x y : Int32} (hd : decode mi.2.2.1 pc = .ok (i, 1)) (hn : 1 = am_il i 1) (hi : am_ins mi i 1 pc L (.int y :: .int x :: st) M = am_b2 f pc L (.int y :: .int x :: st) M) (hp : pc + 1 = pc') {z : Int32} (hz : f x y = z) : am_wp d mi pc L (.int y :: .int x :: st) M Q ↔ am_wp d mi pc' L (.int z :: st) M Q := by
  subst hp
  subst hz
  exact aw_go (q := (pc + 1, L, .int (f x y) :: st, M)) hd hn hi
theorem aw_l2 {i : Instr} {f : Int64 → Int64 → Int64} {x y : Int64} (hd : decode mi.2.2.1 pc = .ok (i, 1)) (hn : 1 = am_il i 1) (hi : am_ins mi i 1 pc L (.long y :: .long x :: st) M = am_l2 f pc L (.long y :: .long x :: st) M) (hp : pc + 1 = pc') {z : Int64} (hz : f x y = z) : am_wp d mi pc L (.long y :: .long x :: st) M Q ↔ am_wp d mi pc' L (.long z :: st) M Q := by
  subst hp
  subst hz
  exact aw_go (q := (pc + 1, L, .long (f x y) :: st, M)) hd hn hi
theorem aw_dr {i : Instr} {x y z : Int32} (hd : decode mi.2.2.1 pc = .ok (i, 1)) (hn : 1 = am_il i 1) (hi : am_ins mi i 1 pc L (.int y :: .int x :: st) M = if y = 0 then none else am_go (pc + 1) L (.int z :: st) M) (hp : pc + 1 = pc') : am_wp d mi pc L (.int y :: .int x :: st) M Q ↔ (¬ y = nI 0) ∧ am_wp d mi pc' L (.int z :: st) M Q := by
  subst hp
  exact aw_ifgo (q := (pc + 1, L, .int z :: st, M)) hd hn (fun h => hi.trans (if_neg h)) (fun h => hi.trans (if_pos (Classical.not_not.mp h)))
theorem aw_lsh {i : Instr} {x z : Int64} {y : Int32} (hd : decode mi.2.2.1 pc = .ok (i, 1)) (hn : 1 = am_il i 1) (hi : am_ins mi i 1 pc L (.int y :: .long x :: st) M = am_go (pc + 1) L (.long z :: st) M) (hp : pc + 1 = pc') : am_wp d mi pc L (.int y :: .long x :: st) M Q ↔ am_wp d mi pc' L (.long z :: st) M Q := by
  subst hp
  exact aw_go (q := (pc + 1, L, .long z :: st, M)) hd hn hi
theorem aw_lcmp {x y : Int64} (hd : decode mi.2.2.1 pc = .ok (.lcmp, 1)) (hp : pc + 1 = pc') : am_wp d mi pc L (.long y :: .long x :: st) M Q ↔ am_wp d mi pc' L (.int (lg_cmp x y) :: st) M Q := by
  subst hp
  exact aw_go (q := (pc + 1, L, .int (lg_cmp x y) :: st, M)) hd rfl rfl
theorem aw_dup {v : Value} (hd : decode mi.2.2.1 pc = .ok (.dup, 1)) (hp : pc + 1 = pc') : am_wp d mi pc L (v :: st) M Q ↔ v.category = 1 ∧ am_wp d mi pc' L (v :: v :: st) M Q := by
  subst hp
  exact aw_ifgo (q := (pc + 1, L, v :: v :: st, M)) hd rfl (fun h => if_pos h) (fun h => if_neg h)
theorem aw_pop {v : Value} (hd : decode mi.2.2.1 pc = .ok (.pop, 1)) (hp : pc + 1 = pc') : am_wp d mi pc L (v :: st) M Q ↔ v.category = 1 ∧ am_wp d mi pc' L st M Q := by
  subst hp
  exact aw_ifgo (q := (pc + 1, L, st, M)) hd rfl (fun h => if_pos h) (fun h => if_neg h)
theorem aw_dup2 {v w : Value} (hd : decode mi.2.2.1 pc = .ok (.dup2, 1)) (hp : pc + 1 = pc') : am_wp d mi pc L (v :: w :: st) M Q ↔ (v.category = 1 ∧ w.category = 1) ∧ am_wp d mi pc' L (v :: w :: v :: w :: st) M Q := by
  subst hp
  exact aw_ifgo (q := (pc + 1, L, v :: w :: v :: w :: st, M)) hd rfl (fun h => if_pos h) (fun h => if_neg h)
theorem aw_brn {i : Instr} {n : Nat} (hd : decode mi.2.2.1 pc = .ok (i, n)) (hn : n = am_il i n) {P : Prop} [Decidable P] {off : Int} {t1 t2 : Nat} {r : List Value} (h : am_ins mi i n pc L st M = am_br (¬ P) pc n off L r M) (ht : (pc : Int) + off = (t1 : Int)) (h2 : pc + n = t2) : am_wp d mi pc L st M Q ↔ if P then am_wp d mi t2 L r M Q else am_wp d mi t1 L r M Q := by
  rw [aw_br hd hn h ht h2]
  by_cases hp : P
  · rw [if_neg (fun q => q hp), if_pos hp]
  · rw [if_pos hp, if_neg hp]
theorem aw_tsw {dflt lo hi off : Int} {offs : Array Int} {n t1 : Nat} {x : Int32} (hd : decode mi.2.2.1 pc = .ok (.tableswitch dflt lo hi offs, n)) (h : am_tsw dflt lo hi offs x = some off) (ht : (pc : Int) + off = (t1 : Int)) : am_wp d mi pc L (.int x :: st) M Q ↔ am_wp d mi t1 L st M Q := by
  refine aw_jump (off := off) (r := st) hd rfl ?_ ht
  show (match am_tsw dflt lo hi offs x with | some off => am_jump pc off L st M | none => none) = _
  rw [h]
theorem aw_lsw {dflt : Int} {ps : Array (Int × Int)} {n t1 : Nat} {x : Int32} {off : Int} (hd : decode mi.2.2.1 pc = .ok (.lookupswitch dflt ps, n)) (hs : ((ps.toList.zip (ps.toList.drop 1)).all (fun (a, next) => a.1 < next.1)) = true) (h : Op.lookupswitch.offset ps.toList dflt x.toInt = off) (ht : (pc : Int) + off = (t1 : Int)) : am_wp d mi pc L (.int x :: st) M Q ↔ am_wp d mi t1 L st M Q := by
  subst h
  exact aw_jump (r := st) hd rfl (if_pos hs) ht
theorem am_tsw_d {dflt lo hi : Int} {offs : Array Int} {x : Int32} (h : x.toInt < lo ∨ hi < x.toInt) : am_tsw dflt lo hi offs x = some dflt := if_pos h
theorem am_neT {x k : Int32} {a : Int} (h : ¬ x = k) (hk : k.toInt = a) : ¬ x.toInt = a := fun q => h (Int32.toInt_inj.mp (q.trans hk.symm))
theorem aw_new {idx ci : Nat} (hd : decode mi.2.2.1 pc = .ok (.new idx, 3)) (hc : am_cl mi.1 idx = some ci) (h8 : ci < 8) (hp : pc + 3 = pc') : am_wp d mi pc L st M Q ↔ am_wp d mi pc' L (.ref M.1.length :: st) (am_addc M [(ci, 0)] (am_cut M.2.2.2 M.1.length none)) Q := by
  subst hp
  refine aw_go (q := (pc + 3, L, .ref M.1.length :: st, am_addc M [(ci, 0)] (am_cut M.2.2.2 M.1.length none))) hd rfl ?_
  rw [show am_ins mi (.new idx) 3 pc L st M = am_new mi idx pc L st M from rfl]
  unfold am_new
  rw [hc]
  exact if_pos h8
theorem aw_newa {t : ArrayType} {k : Nat} {n : Int32} (hd : decode mi.2.2.1 pc = .ok (.newarray t, 2)) (hk : am_akind t = some k) (hp : pc + 2 = pc') : am_wp d mi pc L (.int n :: st) M Q ↔ ((¬ n < 0) ∧ n.toNatClampNeg ≤ 1000) ∧ am_wp d mi pc' L (.ref M.1.length :: st) (am_addc M [(k, n.toNatClampNeg)] (am_cut M.2.2.2 M.1.length none)) Q := by
  subst hp
  refine aw_ifgo (q := (pc + 2, L, .ref M.1.length :: st, am_addc M [(k, n.toNatClampNeg)] (am_cut M.2.2.2 M.1.length none))) hd rfl (fun h => ?_) (fun h => ?_)
  · rw [show am_ins mi (.newarray t) 2 pc L (.int n :: st) M = am_newa t pc L (.int n :: st) M from rfl]
    unfold am_newa
    rw [hk]
    exact if_pos h
  · rw [show am_ins mi (.newarray t) 2 pc L (.int n :: st) M = am_newa t pc L (.int n :: st) M from rfl]
    unfold am_newa
    rw [hk]
    exact if_neg h
theorem aw_newq {idx : Nat} {n : Int32} (hd : decode mi.2.2.1 pc = .ok (.anewarray idx, 3)) (hc : am_cl mi.1 idx = some 3) (hp : pc + 3 = pc') : am_wp d mi pc L (.int n :: st) M Q ↔ ((¬ n < 0) ∧ n.toNatClampNeg ≤ 1000) ∧ am_wp d mi pc' L (.ref M.1.length :: st) (am_addc M [(11, n.toNatClampNeg)] (am_cut M.2.2.2 M.1.length none)) Q := by
  subst hp
  refine aw_ifgo (q := (pc + 3, L, .ref M.1.length :: st, am_addc M [(11, n.toNatClampNeg)] (am_cut M.2.2.2 M.1.length none))) hd rfl (fun h => ?_) (fun h => ?_)
  · rw [show am_ins mi (.anewarray idx) 3 pc L (.int n :: st) M = am_newq mi idx pc L (.int n :: st) M from rfl]
    unfold am_newq
    rw [hc]
    exact if_pos ⟨rfl, h⟩
  · rw [show am_ins mi (.anewarray idx) 3 pc L (.int n :: st) M = am_newq mi idx pc L (.int n :: st) M from rfl]
    unfold am_newq
    rw [hc]
    exact if_neg (fun q => h q.2)
theorem aw_newg {idx : Nat} {n k : Int32} (hd : decode mi.2.2.1 pc = .ok (.multianewarray idx 2, 4)) (hc : am_cl mi.1 idx = some 12) (hp : pc + 4 = pc') : am_wp d mi pc L (.int k :: .int n :: st) M Q ↔ ((¬ n < 0) ∧ n.toNatClampNeg ≤ 100 ∧ (¬ k < 0) ∧ k.toNatClampNeg ≤ 100) ∧ am_wp d mi pc' L (.ref M.1.length :: st) (am_addc M ((12, n.toNatClampNeg) :: List.replicate n.toNatClampNeg (8, k.toNatClampNeg)) (am_row (am_cut M.2.2.2 M.1.length none) M.1.length (fun i => if i < n.toNatClampNeg then some (M.1.length + 1 + i) else none))) Q := by
  subst hp
  refine aw_ifgo (q := (pc + 4, L, .ref M.1.length :: st, am_addc M ((12, n.toNatClampNeg) :: List.replicate n.toNatClampNeg (8, k.toNatClampNeg)) (am_row (am_cut M.2.2.2 M.1.length none) M.1.length (fun i => if i < n.toNatClampNeg then some (M.1.length + 1 + i) else none)))) hd rfl (fun h => ?_) (fun h => ?_)
  · rw [show am_ins mi (.multianewarray idx 2) 4 pc L (.int k :: .int n :: st) M = am_newg mi idx pc L (.int k :: .int n :: st) M from rfl]
    unfold am_newg
    rw [hc]
    exact if_pos ⟨rfl, h⟩
  · rw [show am_ins mi (.multianewarray idx 2) 4 pc L (.int k :: .int n :: st) M = am_newg mi idx pc L (.int k :: .int n :: st) M from rfl]
    unfold am_newg
    rw [hc]
    exact if_neg (fun q => h q.2)
theorem aw_alen (hd : decode mi.2.2.1 pc = .ok (.arraylength, 1)) (hp : pc + 1 = pc') : am_wp d mi pc L (.ref 0 :: st) M Q ↔ am_wp d mi pc' L (.int (Int32.ofNat (am_len M.1 0 13)) :: st) M Q := by
  subst hp
  exact aw_go (q := (pc + 1, L, .int (Int32.ofNat (am_len M.1 0 13)) :: st, M)) hd rfl ((show am_ins mi .arraylength 1 pc L (.ref 0 :: st) M = if (0 : Nat) = 0 then am_go (pc + 1) L (.int (Int32.ofNat (am_len M.1 0 13)) :: st) M else none from rfl).trans (if_pos rfl))
end WP
