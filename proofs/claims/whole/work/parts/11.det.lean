/-! the plain machine is determined, and makes no less than it had -/
def am_le (M M' : am_Mem) : Prop := M.1.length ≤ M'.1.length ∧ am_sl M.1 ≤ am_sl M'.1
theorem am_le.rf (M : am_Mem) : am_le M M := ⟨Nat.le_refl _, Nat.le_refl _⟩
theorem am_le.tr {A B C : am_Mem} (h : am_le A B) (k : am_le B C) : am_le A C := ⟨Nat.le_trans h.1 k.1, Nat.le_trans h.2 k.2⟩
theorem am_le.same {A B : am_Mem} (h : B.1 = A.1) : am_le A B := ⟨by rw [h]; exact Nat.le_refl _, by rw [h]; exact Nat.le_refl _⟩
theorem am_le.add (M : am_Mem) (l : am_Sh) (R : Nat → Nat → Option Nat) : am_le M (am_addc M l R) := ⟨by show _ ≤ (M.1 ++ l).length; rw [List.length_append]; omega, by show _ ≤ am_sl (M.1 ++ l); rw [am_sl_app]; omega⟩
section AMD
variable {mi : am_MI} {pc pc' : Nat} {L L' : am_Lo} {st st' : List Value} {M M' : am_Mem}
theorem le_go {q : am_Cf} (h : am_go pc L st M = some (.inl q)) : am_le M q.2.2.2 := by cases h; exact am_le.rf _
theorem le_jump {q : am_Cf} {off : Int} (h : am_jump pc off L st M = some (.inl q)) : am_le M q.2.2.2 := by
  unfold am_jump at h
  split at h
  · exact le_go h
  · cases h
theorem le_br {P : Prop} [Decidable P] {q : am_Cf} {off : Int} {n : Nat} (h : am_br P pc n off L st M = some (.inl q)) : am_le M q.2.2.2 := by
  unfold am_br at h
  split at h
  · split at h <;> exact le_go h
  · cases h
theorem le_cmp {q : am_Cf} {off : Int} {n : Nat} {cd : ClassFile.Cond} {x y : Int32} (h : am_cmp cd x y pc n off L st M = some (.inl q)) : am_le M q.2.2.2 := by
  unfold am_cmp at h
  split at h <;> exact le_br h
theorem le_b2 {q : am_Cf} {f : Int32 → Int32 → Int32} (h : am_b2 f pc L st M = some (.inl q)) : am_le M q.2.2.2 := by
  unfold am_b2 at h
  split at h
  · exact le_go h
  · cases h
theorem le_l2 {q : am_Cf} {f : Int64 → Int64 → Int64} (h : am_l2 f pc L st M = some (.inl q)) : am_le M q.2.2.2 := by
  unfold am_l2 at h
  split at h
  · exact le_go h
  · cases h
theorem le_ld {q : am_Cf} {i n : Nat} {ok : Value → Bool} (h : am_ld i n pc L st M ok = some (.inl q)) : am_le M q.2.2.2 := by
  unfold am_ld at h
  split at h
  · split at h
    · exact le_go h
    · cases h
  · cases h
theorem le_sto {q : am_Cf} {i n : Nat} {ok : Value → Bool} (h : am_sto i n pc L st M ok = some (.inl q)) : am_le M q.2.2.2 := by
  unfold am_sto at h
  split at h
  · split at h
    · exact le_go h
    · cases h
  · cases h
theorem le_stoJ {q : am_Cf} {i n : Nat} (h : am_stoJ i n pc L st M = some (.inl q)) : am_le M q.2.2.2 := by
  unfold am_stoJ at h
  split at h
  · split at h
    · exact le_go h
    · cases h
  · cases h
theorem le_get {q : am_Cf} {i : Nat} (h : am_get mi i pc L st M = some (.inl q)) : am_le M q.2.2.2 := by
  unfold am_get at h
  split at h
  · split at h
    · split at h
      · exact le_go h
      · cases h
    · cases h
  · cases h
theorem le_pv {ci k a : Nat} {v : Value} (h : am_pv ci k a v M = some M') : M'.1 = M.1 := by
  unfold am_pv at h
  split at h
  · cases h; rfl
  · split at h
    · cases h; rfl
    · cases h
  · cases h; rfl
  · cases h; rfl
  · cases h
theorem le_put {q : am_Cf} {i : Nat} (h : am_put mi i pc L st M = some (.inl q)) : am_le M q.2.2.2 := by
  unfold am_put at h
  split at h
  · split at h
    · split at h
      · split at h
        · rename_i hM
          exact (am_le.same (le_pv hM)).tr (le_go h)
        · cases h
      · cases h
    · cases h
  · cases h
theorem le_new {q : am_Cf} {i : Nat} (h : am_new mi i pc L st M = some (.inl q)) : am_le M q.2.2.2 := by
  unfold am_new at h
  split at h
  · split at h
    · exact (am_le.add _ _ _).tr (le_go h)
    · cases h
  · cases h
theorem le_newa {q : am_Cf} {t : ArrayType} (h : am_newa t pc L st M = some (.inl q)) : am_le M q.2.2.2 := by
  unfold am_newa at h
  split at h
  · split at h
    · exact (am_le.add _ _ _).tr (le_go h)
    · cases h
  · cases h
theorem le_newq {q : am_Cf} {i : Nat} (h : am_newq mi i pc L st M = some (.inl q)) : am_le M q.2.2.2 := by
  unfold am_newq at h
  split at h
  · split at h
    · exact (am_le.add _ _ _).tr (le_go h)
    · cases h
  · cases h
theorem le_newg {q : am_Cf} {i : Nat} (h : am_newg mi i pc L st M = some (.inl q)) : am_le M q.2.2.2 := by
  unfold am_newg at h
  split at h
  · split at h
    · exact (am_le.add _ _ _).tr (le_go h)
    · cases h
  · cases h
theorem le_copy {q : am_Cf} (h : am_copy pc L st M = some (.inl q)) : am_le M q.2.2.2 := by
  unfold am_copy at h
  split at h
  · split at h
    · cases h; exact am_le.same rfl
    · cases h
  · cases h
theorem le_inst {q : am_Cf} {i : Nat} {kinds : List Nat} (h : am_inst mi i pc L st M kinds = some (.inl q)) : am_le M q.2.2.2 := by
  obtain ⟨kind, y, n, -, -, ⟨-, a, r, -, -, rfl⟩ | ⟨-, h⟩⟩ := am_inst_inl h
  · exact am_le.rf _
  · exact le_copy h
set_option maxHeartbeats 4000000 in
theorem le_stp {q : am_Cf} (h : am_stp mi pc L st M = some (.inl q)) : am_le M q.2.2.2 := by
  unfold am_stp at h
  split at h
  · split at h
    · unfold am_ins at h
      split at h
      all_goals first
        | exact le_go h
        | exact le_ld h
        | exact le_sto h
        | exact le_stoJ h
        | exact le_b2 h
        | exact le_l2 h
        | exact le_jump h
        | exact le_get h
        | exact le_put h
        | exact le_new h
        | exact le_newa h
        | exact le_newq h
        | exact le_inst h
        | (split at h; exact le_go h; cases h)
        | (split at h; exact le_cmp h; cases h)
        | (split at h; exact le_newg h; cases h)
        | (split at h; (split at h; exact le_go h; cases h); cases h)
        | (split at h; (split at h; cases h; exact le_go h); cases h)
        | (split at h; (split at h; exact le_jump h; cases h); cases h)
        | (split at h; (split at h; (cases h; exact am_le.same rfl); cases h); cases h)
        | (split at h; (split at h; cases h; cases h); cases h)
        | cases h
    · cases h
  · cases h
end AMD
/-- what a run ends with is one answer and one memory, and the run ends so for that alone -/
theorem am_run_pin {d : Nat} (hcall : ∀ (y : am_MI) (a : List Value) (M : am_Mem) (Q : am_Post), am_call d y a M Q → ∃ v M', Q v M' ∧ am_le M M' ∧ am_call d y a M (fun v' M'' => v' = v ∧ M'' = M')) (mi : am_MI) : ∀ (k pc : Nat) (L : am_Lo) (st : List Value) (M : am_Mem) (Q : am_Post), am_run (am_call d) mi k pc L st M Q → ∃ v M', Q v M' ∧ am_le M M' ∧ am_run (am_call d) mi k pc L st M (fun v' M'' => v' = v ∧ M'' = M')
  | 0, _, _, _, _, _, h => h.elim
  | k + 1, pc, L, st, M, Q, h => by
    have ih := am_run_pin hcall mi k
    unfold am_run at h ⊢
    cases hs : am_stp mi pc L st M with
    | none => rw [hs] at h; exact h.elim
    | some q =>
      rw [hs] at h
      rcases q with q | q | q
      · obtain ⟨v, M', h1, h2, h3⟩ := ih _ _ _ _ _ h
        exact ⟨v, M', h1, (le_stp hs).tr h2, h3⟩
      · refine ⟨q.1, q.2, h, ?_, rfl, rfl⟩
        sorry
      · obtain ⟨v, M1, h1, h2, h3⟩ := hcall _ _ _ _ h
        obtain ⟨w, M', g1, g2, g3⟩ := ih _ _ _ _ _ h1
        refine ⟨w, M', g1, ?_, ?_⟩
        · sorry
        · sorry
