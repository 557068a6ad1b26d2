/-! the script and the cells that are stand as they were -/
def am_kpt (M M' : am_Mem) : Prop := (∃ l, M'.1 = M.1 ++ l) ∧ (0 < M.1.length → ∀ j, M'.2.1 0 j = M.2.1 0 j)
theorem am_kpt.rf (M : am_Mem) : am_kpt M M := ⟨⟨[], (List.append_nil _).symm⟩, fun _ _ => rfl⟩
theorem am_kpt.tr {A B C : am_Mem} (h : am_kpt A B) (k : am_kpt B C) : am_kpt A C := by
  obtain ⟨⟨l1, h1⟩, h2⟩ := h
  obtain ⟨⟨l2, k1⟩, k2⟩ := k
  refine ⟨⟨l1 ++ l2, by rw [k1, h1, List.append_assoc]⟩, fun h0 j => ?_⟩
  rw [k2 (by rw [h1, List.length_append]; omega) j, h2 h0 j]
theorem am_kpt.same {A B : am_Mem} (h : B.1 = A.1) (h2 : ∀ j, B.2.1 0 j = A.2.1 0 j) : am_kpt A B := ⟨⟨[], by rw [h, List.append_nil]⟩, fun _ => h2⟩
theorem am_kpt.add (M : am_Mem) (l : am_Sh) (R : Nat → Nat → Option Nat) : am_kpt M (am_addc M l R) := ⟨⟨l, rfl⟩, fun h0 j => if_pos h0⟩
section AMKP
variable {mi : am_MI} {pc pc' : Nat} {L L' : am_Lo} {st st' : List Value} {M M' : am_Mem}
theorem kp_go {q : am_Cf} (h : am_go pc L st M = some (.inl q)) : am_kpt M q.2.2.2 := by cases h; exact am_kpt.rf _
theorem kp_jump {q : am_Cf} {off : Int} (h : am_jump pc off L st M = some (.inl q)) : am_kpt M q.2.2.2 := by
  unfold am_jump at h
  split at h
  · exact kp_go h
  · cases h
theorem kp_br {P : Prop} [Decidable P] {q : am_Cf} {off : Int} {n : Nat} (h : am_br P pc n off L st M = some (.inl q)) : am_kpt M q.2.2.2 := by
  unfold am_br at h
  split at h
  · split at h <;> exact kp_go h
  · cases h
theorem kp_cmp {q : am_Cf} {off : Int} {n : Nat} {cd : ClassFile.Cond} {x y : Int32} (h : am_cmp cd x y pc n off L st M = some (.inl q)) : am_kpt M q.2.2.2 := by
  unfold am_cmp at h
  split at h <;> exact kp_br h
theorem kp_b2 {q : am_Cf} {f : Int32 → Int32 → Int32} (h : am_b2 f pc L st M = some (.inl q)) : am_kpt M q.2.2.2 := by
  unfold am_b2 at h
  split at h
  · exact kp_go h
  · cases h
theorem kp_l2 {q : am_Cf} {f : Int64 → Int64 → Int64} (h : am_l2 f pc L st M = some (.inl q)) : am_kpt M q.2.2.2 := by
  unfold am_l2 at h
  split at h
  · exact kp_go h
  · cases h
theorem kp_ld {q : am_Cf} {i n : Nat} {ok : Value → Bool} (h : am_ld i n pc L st M ok = some (.inl q)) : am_kpt M q.2.2.2 := by
  unfold am_ld at h
  split at h
  · split at h
    · exact kp_go h
    · cases h
  · cases h
theorem kp_sto {q : am_Cf} {i n : Nat} {ok : Value → Bool} (h : am_sto i n pc L st M ok = some (.inl q)) : am_kpt M q.2.2.2 := by
  unfold am_sto at h
  split at h
  · split at h
    · exact kp_go h
    · cases h
  · cases h
theorem kp_stoJ {q : am_Cf} {i n : Nat} (h : am_stoJ i n pc L st M = some (.inl q)) : am_kpt M q.2.2.2 := by
  unfold am_stoJ at h
  split at h
  · split at h
    · exact kp_go h
    · cases h
  · cases h
theorem kp_get {q : am_Cf} {i : Nat} (h : am_get mi i pc L st M = some (.inl q)) : am_kpt M q.2.2.2 := by
  unfold am_get at h
  split at h
  · split at h
    · split at h
      · exact kp_go h
      · cases h
    · cases h
  · cases h
theorem kp_pv {ci k a : Nat} {v : Value} (ha : 0 < a) (h : am_pv ci k a v M = some M') : am_kpt M M' := by
  unfold am_pv at h
  split at h
  · cases h; exact am_kpt.same rfl (fun j => up_n (Or.inl (by omega)))
  · split at h
    · cases h; exact am_kpt.same rfl (fun j => up_n (Or.inl (by omega)))
    · cases h
  · cases h; exact am_kpt.same rfl (fun _ => rfl)
  · cases h; exact am_kpt.same rfl (fun _ => rfl)
  · cases h
theorem kp_put {q : am_Cf} {i : Nat} (h : am_put mi i pc L st M = some (.inl q)) : am_kpt M q.2.2.2 := by
  unfold am_put at h
  split at h
  · split at h
    · split at h
      · split at h
        · rename_i hc _ _ hM
          exact (kp_pv hc.2.2.2.2 hM).tr (kp_go h)
        · cases h
      · cases h
    · cases h
  · cases h
theorem kp_new {q : am_Cf} {i : Nat} (h : am_new mi i pc L st M = some (.inl q)) : am_kpt M q.2.2.2 := by
  unfold am_new at h
  split at h
  · split at h
    · exact (am_kpt.add _ _ _).tr (kp_go h)
    · cases h
  · cases h
theorem kp_newa {q : am_Cf} {t : ArrayType} (h : am_newa t pc L st M = some (.inl q)) : am_kpt M q.2.2.2 := by
  unfold am_newa at h
  split at h
  · split at h
    · exact (am_kpt.add _ _ _).tr (kp_go h)
    · cases h
  · cases h
theorem kp_newq {q : am_Cf} {i : Nat} (h : am_newq mi i pc L st M = some (.inl q)) : am_kpt M q.2.2.2 := by
  unfold am_newq at h
  split at h
  · split at h
    · exact (am_kpt.add _ _ _).tr (kp_go h)
    · cases h
  · cases h
theorem kp_newg {q : am_Cf} {i : Nat} (h : am_newg mi i pc L st M = some (.inl q)) : am_kpt M q.2.2.2 := by
  unfold am_newg at h
  split at h
  · split at h
    · exact (am_kpt.add _ _ _).tr (kp_go h)
    · cases h
  · cases h
theorem kp_copy {q : am_Cf} (h : am_copy pc L st M = some (.inl q)) : am_kpt M q.2.2.2 := by
  unfold am_copy at h
  split at h
  · split at h
    · rename_i hc
      have ha := hc.2.2.2.2.2.2.2.2
      cases h
      exact am_kpt.same rfl (fun j => if_neg (Nat.ne_of_lt ha))
    · cases h
  · cases h
theorem kp_inst {q : am_Cf} {i : Nat} {kinds : List Nat} (h : am_inst mi i pc L st M kinds = some (.inl q)) : am_kpt M q.2.2.2 := by
  obtain ⟨kind, y, n, -, -, ⟨-, a, r, -, -, rfl⟩ | ⟨-, h⟩⟩ := am_inst_inl h
  · exact am_kpt.rf _
  · exact kp_copy h
set_option maxHeartbeats 4000000 in
theorem kp_stp {q : am_Cf} (h : am_stp mi pc L st M = some (.inl q)) : am_kpt M q.2.2.2 := by
  unfold am_stp at h
  split at h
  · split at h
    · unfold am_ins at h
      split at h
      all_goals first
        | exact kp_go h
        | exact kp_ld h
        | exact kp_sto h
        | exact kp_stoJ h
        | exact kp_b2 h
        | exact kp_l2 h
        | exact kp_jump h
        | exact kp_get h
        | exact kp_put h
        | exact kp_new h
        | exact kp_newa h
        | exact kp_newq h
        | exact kp_inst h
        | (split at h; exact kp_go h; cases h)
        | (split at h; exact kp_cmp h; cases h)
        | (split at h; exact kp_newg h; cases h)
        | (split at h; (split at h; exact kp_go h; cases h); cases h)
        | (split at h; (split at h; cases h; exact kp_go h); cases h)
        | (split at h; (split at h; exact kp_jump h; cases h); cases h)
        | (split at h; (split at h; (rename_i hc; cases h; exact am_kpt.same rfl (fun j => up_n (Or.inl (Nat.ne_of_lt hc.2)))); cases h); cases h)
        | (split at h; (split at h; (rename_i hc; cases h; exact am_kpt.same rfl (fun j => up_n (Or.inl (Nat.ne_of_lt hc.2.2)))); cases h); cases h)
        | (split at h; (split at h; (cases h; exact am_kpt.same rfl (fun _ => rfl)); cases h); cases h)
        | (split at h; (split at h; cases h; cases h); cases h)
        | cases h
    · cases h
  · cases h
end AMKP
theorem am_run_kp {d : Nat} (hcall : ∀ (y : am_MI) (a : List Value) (M : am_Mem) (Q : am_Post), am_call d y a M Q → am_call d y a M (fun v M' => Q v M' ∧ am_kpt M M')) (mi : am_MI) : ∀ (k pc : Nat) (L : am_Lo) (st : List Value) (M : am_Mem) (Q : am_Post), am_run (am_call d) mi k pc L st M Q → am_run (am_call d) mi k pc L st M (fun v M' => Q v M' ∧ am_kpt M M')
  | 0, _, _, _, _, _, h => h.elim
  | k + 1, pc, L, st, M, Q, h => by
    have ih := am_run_kp hcall mi k
    unfold am_run at h ⊢
    cases hs : am_stp mi pc L st M with
    | none => rw [hs] at h; exact h.elim
    | some q =>
      rw [hs] at h
      rcases q with q | q | q
      · exact am_run_mono (am_call_mono d) mi k _ _ _ _ _ _ (fun v M' h9 => ⟨h9.1, (kp_stp hs).tr h9.2⟩) (ih _ _ _ _ _ h)
      · exact ⟨h, by rw [(am_stp_inr hs).mem.1 q rfl]; exact am_kpt.rf _⟩
      · have e := (am_stp_inr hs).mem.2 q rfl
        refine am_call_mono d _ _ _ _ _ (fun v M1 h9 => ?_) (hcall _ _ _ _ h)
        rw [e] at h9
        exact am_run_mono (am_call_mono d) mi k _ _ _ _ _ _ (fun v' M' h8 => ⟨h8.1, h9.2.tr h8.2⟩) (ih _ _ _ _ _ h9.1)
theorem am_call_kp : ∀ (d : Nat) (y : am_MI) (a : List Value) (M : am_Mem) (Q : am_Post), am_call d y a M Q → am_call d y a M (fun v M' => Q v M' ∧ am_kpt M M')
  | 0, _, _, _, _, h => h.elim
  | d + 1, y, a, M, Q, ⟨h0, k, h⟩ => ⟨h0, k, am_run_kp (am_call_kp d) y k _ _ _ _ _ h⟩
/-- the pairs as the law calls them -/
theorem pr_law {n D : Nat} {y1 y2 : am_MI} {a1 a2 : List Value} {sw : Bool} {I : Nat → Nat → Int32} {J : Nat → Nat → Int64} (h : am_pr n D y1 y2 a1 a2) (hR : am_Rel sw I J) : am_call D y1 a1 (am_sh n, I, J, am_Rf sw) (fun v M1 => ∃ w I1 J1 R1, v = some (.int w) ∧ M1 = (am_sh n, I1, J1, R1) ∧ (∀ j, I1 0 j = I 0 j) ∧ am_call D y2 a2 (am_sh n, I1, J1, R1) (fun v2 M2 => v2 = some (.int w) ∧ ∃ (sw' : Bool) (I' : Nat → Nat → Int32) (J' : Nat → Nat → Int64), M2 = (am_sh n, I', J', am_Rf sw') ∧ (∀ j, I' 0 j = I 0 j) ∧ am_Rel sw' I' J')) := by
  refine am_call_mono _ _ _ _ _ _ (fun v M1 h9 => ?_) (am_call_kp _ _ _ _ _ (h sw I J hR))
  obtain ⟨h1, ⟨l, e1⟩, e2⟩ := h9
  obtain ⟨v2, M2, ⟨p1, ⟨w, p2⟩, sw', I', J', p3, p4⟩, hle, -⟩ := am_call_pin _ _ _ _ _ h1
  obtain ⟨sh1, I1, J1, R1⟩ := M1
  have e1' : sh1 = am_sh n ++ l := e1
  have hl : l = [] := by
    have h2 := hle.1
    rw [p3] at h2
    have h3 : sh1.length ≤ (am_sh n).length := h2
    rw [e1', List.length_append] at h3
    exact List.eq_nil_of_length_eq_zero (by omega)
  rw [hl, List.append_nil] at e1'
  subst e1'
  subst p2
  refine ⟨w, I1, J1, R1, rfl, rfl, e2 (by show 0 < (am_sh n).length; exact Nat.zero_lt_succ _), am_call_mono _ _ _ _ _ _ (fun v' M' q => ⟨q.1, q.2.2⟩) h1⟩
theorem prL_law {n D : Nat} {y1 y2 : am_MI} {a1 a2 : List Value} {sw : Bool} {I : Nat → Nat → Int32} {J : Nat → Nat → Int64} (h : am_prL n D y1 y2 a1 a2) (hR : am_Rel sw I J) : am_call D y1 a1 (am_sh n, I, J, am_Rf sw) (fun v M1 => ∃ w I1 J1 R1, v = some (.long w) ∧ M1 = (am_sh n, I1, J1, R1) ∧ (∀ j, I1 0 j = I 0 j) ∧ am_call D y2 a2 (am_sh n, I1, J1, R1) (fun v2 M2 => v2 = some (.long w) ∧ ∃ (sw' : Bool) (I' : Nat → Nat → Int32) (J' : Nat → Nat → Int64), M2 = (am_sh n, I', J', am_Rf sw') ∧ (∀ j, I' 0 j = I 0 j) ∧ am_Rel sw' I' J')) := by
  refine am_call_mono _ _ _ _ _ _ (fun v M1 h9 => ?_) (am_call_kp _ _ _ _ _ (h sw I J hR))
  obtain ⟨h1, ⟨l, e1⟩, e2⟩ := h9
  obtain ⟨v2, M2, ⟨p1, ⟨w, p2⟩, sw', I', J', p3, p4⟩, hle, -⟩ := am_call_pin _ _ _ _ _ h1
  obtain ⟨sh1, I1, J1, R1⟩ := M1
  have e1' : sh1 = am_sh n ++ l := e1
  have hl : l = [] := by
    have h2 := hle.1
    rw [p3] at h2
    have h3 : sh1.length ≤ (am_sh n).length := h2
    rw [e1', List.length_append] at h3
    exact List.eq_nil_of_length_eq_zero (by omega)
  rw [hl, List.append_nil] at e1'
  subst e1'
  subst p2
  refine ⟨w, I1, J1, R1, rfl, rfl, e2 (by show 0 < (am_sh n).length; exact Nat.zero_lt_succ _), am_call_mono _ _ _ _ _ _ (fun v' M' q => ⟨q.1, q.2.2⟩) h1⟩
