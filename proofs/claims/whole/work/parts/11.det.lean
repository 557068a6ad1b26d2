/-! the plain machine is determined, and makes no less than it had -/
def am_le (M M' : am_Mem) : Prop := M.1.length ≤ M'.1.length ∧ am_sl M.1 ≤ am_sl M'.1
theorem am_le.rf (M : am_Mem) : am_le M M := ⟨Nat.le_refl _, Nat.le_refl _⟩
theorem am_le.tr {A B C : am_Mem} (h : am_le A B) (k : am_le B C) : am_le A C := ⟨Nat.le_trans h.1 k.1, Nat.le_trans h.2 k.2⟩
theorem am_le.same {A B : am_Mem} (h : B.1 = A.1) : am_le A B := ⟨by rw [h]; exact Nat.le_refl _, by rw [h]; exact Nat.le_refl _⟩
theorem am_le.add (M : am_Mem) (l : am_Sh) (R : Nat → Nat → Option Nat) : am_le M (am_addc M l R) := ⟨by show _ ≤ (M.1 ++ l).length; rw [List.length_append]; omega, by show _ ≤ am_sl (M.1 ++ l); rw [am_sl_app]; omega⟩
section AMD
variable {mi : am_MI} {pc pc' : Nat} {L L' : am_Lo} {st st' : List Value} {M M' : am_Mem}
theorem le_go {q : am_Cf} (h : am_go pc L st M = some (.inl q)) : am_le M q.2.2.2 := by cases h; exact am_le.rf _
theorem le_jump {q : am_Cf} {off : Int} (h : am_jump pc off L st M = some (.inl q)) : am_le M q.2.2.2 := by
  unfold am_jump at h
  split at h
  · exact le_go h
  · cases h
theorem le_br {P : Prop} [Decidable P] {q : am_Cf} {off : Int} {n : Nat} (h : am_br P pc n off L st M = some (.inl q)) : am_le M q.2.2.2 := by
  unfold am_br at h
  split at h
  · split at h <;> exact le_go h
  · cases h
theorem le_cmp {q : am_Cf} {off : Int} {n : Nat} {cd : ClassFile.Cond} {x y : Int32} (h : am_cmp cd x y pc n off L st M = some (.inl q)) : am_le M q.2.2.2 := by
  unfold am_cmp at h
  split at h <;> exact le_br h
theorem le_b2 {q : am_Cf} {f : Int32 → Int32 → Int32} (h : am_b2 f pc L st M = some (.inl q)) : am_le M q.2.2.2 := by
  unfold am_b2 at h
  split at h
  · exact le_go h
  · cases h
theorem le_l2 {q : am_Cf} {f : Int64 → Int64 → Int64} (h : am_l2 f pc L st M = some (.inl q)) : am_le M q.2.2.2 := by
  unfold am_l2 at h
  split at h
  · exact le_go h
  · cases h
theorem le_ld {q : am_Cf} {i n : Nat} {ok : Value → Bool} (h : am_ld i n pc L st M ok = some (.inl q)) : am_le M q.2.2.2 := by
  unfold am_ld at h
  split at h
  · split at h
    · exact le_go h
    · cases h
  · cases h
theorem le_sto {q : am_Cf} {i n : Nat} {ok : Value → Bool} (h : am_sto i n pc L st M ok = some (.inl q)) : am_le M q.2.2.2 := by
  unfold am_sto at h
  split at h
  · split at h
    · exact le_go h
    · cases h
  · cases h
theorem le_stoJ {q : am_Cf} {i n : Nat} (h : am_stoJ i n pc L st M = some (.inl q)) : am_le M q.2.2.2 := by
  unfold am_stoJ at h
  split at h
  · split at h
    · exact le_go h
    · cases h
  · cases h
theorem le_get {q : am_Cf} {i : Nat} (h : am_get mi i pc L st M = some (.inl q)) : am_le M q.2.2.2 := by
  unfold am_get at h
  split at h
  · split at h
    · split at h
      · exact le_go h
      · cases h
    · cases h
  · cases h
theorem le_pv {ci k a : Nat} {v : Value} (h : am_pv ci k a v M = some M') : M'.1 = M.1 := by
  unfold am_pv at h
  split at h
  · cases h; rfl
  · split at h
    · cases h; rfl
    · cases h
  · cases h; rfl
  · cases h; rfl
  · cases h
theorem le_put {q : am_Cf} {i : Nat} (h : am_put mi i pc L st M = some (.inl q)) : am_le M q.2.2.2 := by
  unfold am_put at h
  split at h
  · split at h
    · split at h
      · split at h
        · rename_i hM
          exact (am_le.same (le_pv hM)).tr (le_go h)
        · cases h
      · cases h
    · cases h
  · cases h
theorem le_new {q : am_Cf} {i : Nat} (h : am_new mi i pc L st M = some (.inl q)) : am_le M q.2.2.2 := by
  unfold am_new at h
  split at h
  · split at h
    · exact (am_le.add _ _ _).tr (le_go h)
    · cases h
  · cases h
theorem le_newa {q : am_Cf} {t : ArrayType} (h : am_newa t pc L st M = some (.inl q)) : am_le M q.2.2.2 := by
  unfold am_newa at h
  split at h
  · split at h
    · exact (am_le.add _ _ _).tr (le_go h)
    · cases h
  · cases h
theorem le_newq {q : am_Cf} {i : Nat} (h : am_newq mi i pc L st M = some (.inl q)) : am_le M q.2.2.2 := by
  unfold am_newq at h
  split at h
  · split at h
    · exact (am_le.add _ _ _).tr (le_go h)
    · cases h
  · cases h
theorem le_newg {q : am_Cf} {i : Nat} (h : am_newg mi i pc L st M = some (.inl q)) : am_le M q.2.2.2 := by
  unfold am_newg at h
  split at h
  · split at h
    · exact (am_le.add _ _ _).tr (le_go h)
    · cases h
  · cases h
theorem le_copy {q : am_Cf} (h : am_copy pc L st M = some (.inl q)) : am_le M q.2.2.2 := by
  unfold am_copy at h
  split at h
  · split at h
    · cases h; exact am_le.same rfl
    · cases h
  · cases h
theorem le_inst {q : am_Cf} {i : Nat} {kinds : List Nat} (h : am_inst mi i pc L st M kinds = some (.inl q)) : am_le M q.2.2.2 := by
  obtain ⟨kind, y, n, -, -, ⟨-, a, r, -, -, rfl⟩ | ⟨-, h⟩⟩ := am_inst_inl h
  · exact am_le.rf _
  · exact le_copy h
set_option maxHeartbeats 4000000 in
theorem le_stp {q : am_Cf} (h : am_stp mi pc L st M = some (.inl q)) : am_le M q.2.2.2 := by
  unfold am_stp at h
  split at h
  · split at h
    · unfold am_ins at h
      split at h
      all_goals first
        | exact le_go h
        | exact le_ld h
        | exact le_sto h
        | exact le_stoJ h
        | exact le_b2 h
        | exact le_l2 h
        | exact le_jump h
        | exact le_get h
        | exact le_put h
        | exact le_new h
        | exact le_newa h
        | exact le_newq h
        | exact le_inst h
        | (split at h; exact le_go h; cases h)
        | (split at h; exact le_cmp h; cases h)
        | (split at h; exact le_newg h; cases h)
        | (split at h; (split at h; exact le_go h; cases h); cases h)
        | (split at h; (split at h; cases h; exact le_go h); cases h)
        | (split at h; (split at h; exact le_jump h; cases h); cases h)
        | (split at h; (split at h; (cases h; exact am_le.same rfl); cases h); cases h)
        | (split at h; (split at h; cases h; cases h); cases h)
        | cases h
    · cases h
  · cases h
theorem nr_go {q : (Option Value × am_Mem) ⊕ (am_MI × List Value × am_Cf)} (h : am_go pc L st M = some (.inr q)) : False := by
  unfold am_go at h
  cases h
theorem nr_jump {off : Int} {q : (Option Value × am_Mem) ⊕ (am_MI × List Value × am_Cf)} (h : am_jump pc off L st M = some (.inr q)) : False := by
  unfold am_jump at h
  repeat' (first | exact nr_go h | split at h | cases h)
theorem nr_br {P : Prop} [Decidable P] {off : Int} {n : Nat} {q : (Option Value × am_Mem) ⊕ (am_MI × List Value × am_Cf)} (h : am_br P pc n off L st M = some (.inr q)) : False := by
  unfold am_br at h
  repeat' (first | exact nr_go h | split at h | cases h)
theorem nr_cmp {off : Int} {n : Nat} {cd : ClassFile.Cond} {x y : Int32} {q : (Option Value × am_Mem) ⊕ (am_MI × List Value × am_Cf)} (h : am_cmp cd x y pc n off L st M = some (.inr q)) : False := by
  unfold am_cmp at h
  repeat' (first | exact nr_go h | exact nr_br h | split at h | cases h)
theorem nr_b2 {f : Int32 → Int32 → Int32} {q : (Option Value × am_Mem) ⊕ (am_MI × List Value × am_Cf)} (h : am_b2 f pc L st M = some (.inr q)) : False := by
  unfold am_b2 at h
  repeat' (first | exact nr_go h | exact nr_br h | split at h | cases h)
theorem nr_l2 {f : Int64 → Int64 → Int64} {q : (Option Value × am_Mem) ⊕ (am_MI × List Value × am_Cf)} (h : am_l2 f pc L st M = some (.inr q)) : False := by
  unfold am_l2 at h
  repeat' (first | exact nr_go h | exact nr_br h | split at h | cases h)
theorem nr_ld {i n : Nat} {ok : Value → Bool} {q : (Option Value × am_Mem) ⊕ (am_MI × List Value × am_Cf)} (h : am_ld i n pc L st M ok = some (.inr q)) : False := by
  unfold am_ld at h
  repeat' (first | exact nr_go h | exact nr_br h | split at h | cases h)
theorem nr_sto {i n : Nat} {ok : Value → Bool} {q : (Option Value × am_Mem) ⊕ (am_MI × List Value × am_Cf)} (h : am_sto i n pc L st M ok = some (.inr q)) : False := by
  unfold am_sto at h
  repeat' (first | exact nr_go h | exact nr_br h | split at h | cases h)
theorem nr_stoJ {i n : Nat} {q : (Option Value × am_Mem) ⊕ (am_MI × List Value × am_Cf)} (h : am_stoJ i n pc L st M = some (.inr q)) : False := by
  unfold am_stoJ at h
  repeat' (first | exact nr_go h | exact nr_br h | split at h | cases h)
theorem nr_get {i : Nat} {q : (Option Value × am_Mem) ⊕ (am_MI × List Value × am_Cf)} (h : am_get mi i pc L st M = some (.inr q)) : False := by
  unfold am_get at h
  repeat' (first | exact nr_go h | exact nr_br h | split at h | cases h)
theorem nr_put {i : Nat} {q : (Option Value × am_Mem) ⊕ (am_MI × List Value × am_Cf)} (h : am_put mi i pc L st M = some (.inr q)) : False := by
  unfold am_put at h
  repeat' (first | exact nr_go h | exact nr_br h | split at h | cases h)
theorem nr_new {i : Nat} {q : (Option Value × am_Mem) ⊕ (am_MI × List Value × am_Cf)} (h : am_new mi i pc L st M = some (.inr q)) : False := by
  unfold am_new at h
  repeat' (first | exact nr_go h | exact nr_br h | split at h | cases h)
theorem nr_newa {t : ArrayType} {q : (Option Value × am_Mem) ⊕ (am_MI × List Value × am_Cf)} (h : am_newa t pc L st M = some (.inr q)) : False := by
  unfold am_newa at h
  repeat' (first | exact nr_go h | exact nr_br h | split at h | cases h)
theorem nr_newq {i : Nat} {q : (Option Value × am_Mem) ⊕ (am_MI × List Value × am_Cf)} (h : am_newq mi i pc L st M = some (.inr q)) : False := by
  unfold am_newq at h
  repeat' (first | exact nr_go h | exact nr_br h | split at h | cases h)
theorem nr_newg {i : Nat} {q : (Option Value × am_Mem) ⊕ (am_MI × List Value × am_Cf)} (h : am_newg mi i pc L st M = some (.inr q)) : False := by
  unfold am_newg at h
  repeat' (first | exact nr_go h | exact nr_br h | split at h | cases h)
theorem nr_copy {q : (Option Value × am_Mem) ⊕ (am_MI × List Value × am_Cf)} (h : am_copy pc L st M = some (.inr q)) : False := by
  unfold am_copy at h
  repeat' (first | exact nr_go h | exact nr_br h | split at h | cases h)
theorem am_inst_inr {idx : Nat} {kinds : List Nat} {q : (Option Value × am_Mem) ⊕ (am_MI × List Value × am_Cf)} (h : am_inst mi idx pc L st M kinds = some (.inr q)) : ∃ kind y n, am_inv mi.1 idx = some (kind, y, n) ∧ kinds.contains kind = true ∧ ((kind = 0 ∧ ∃ a, st[n]? = some (.ref a) ∧ am_isob M.1 a y.1 = true ∧ y.1 < 8 ∧ am_cats (st.drop (n + 1)) ≤ 8 ∧ q = .inr (y, .ref a :: (st.take n).reverse, (pc + 3, L, st.drop (n + 1), M))) ∨ (kind = 1 ∧ n ≤ st.length ∧ am_cats (st.drop n) ≤ 8 ∧ q = .inr (y, (st.take n).reverse, (pc + 3, L, st.drop n, M))) ∨ (kind ≠ 0 ∧ kind ≠ 1 ∧ kind ≠ 4 ∧ kind ≠ 5 ∧ ∃ a, st[n]? = some (.ref a) ∧ am_cats (st.drop (n + 1)) ≤ 8 ∧ q = .inr (y, .ref a :: (st.take n).reverse, (pc + 3, L, st.drop (n + 1), M)))) := by
  unfold am_inst at h
  split at h
  · rename_i kind y n hi
    split at h
    · cases h
    · rename_i hk
      refine ⟨kind, y, n, hi, by simpa using hk, ?_⟩
      split at h
      · split at h
        · rename_i a ha
          split at h
          · rename_i hc
            cases h
            exact Or.inl ⟨rfl, a, ha, hc.1, hc.2.1, hc.2.2, rfl⟩
          · cases h
        · cases h
      · split at h
        · rename_i hc
          cases h
          exact Or.inr (Or.inl ⟨rfl, hc.1, hc.2, rfl⟩)
        · cases h
      · split at h
        · split at h
          · exact (nr_go h).elim
          · cases h
        · cases h
      · exact (nr_copy h).elim
      · rename_i n0 n1 n4 n5
        split at h
        · rename_i a ha
          split at h
          · rename_i hc
            cases h
            exact Or.inr (Or.inr ⟨n0, n1, n4, n5, a, ha, hc, rfl⟩)
          · cases h
        · cases h
  · cases h
/-- an end or a call comes out of an instruction of that kind -/
def am_Ends (mi : am_MI) (pc : Nat) (L : am_Lo) (st : List Value) (M : am_Mem) (q : (Option Value × am_Mem) ⊕ (am_MI × List Value × am_Cf)) : Prop :=
  (∃ k, decode mi.2.2.1 pc = .ok (.invokevirtual k, 3) ∧ am_inst mi k pc L st M [0] = some (.inr q)) ∨ (∃ k, decode mi.2.2.1 pc = .ok (.invokestatic k, 3) ∧ am_inst mi k pc L st M [1, 5] = some (.inr q)) ∨ (∃ k, decode mi.2.2.1 pc = .ok (.invokespecial k, 3) ∧ am_inst mi k pc L st M [2, 3, 4] = some (.inr q)) ∨
  (∃ x, decode mi.2.2.1 pc = .ok (.ireturn, 1) ∧ st = [.int x] ∧ am_retok mi.2.2.2.2 x = true ∧ q = .inl (some (.int x), M)) ∨ (∃ x, decode mi.2.2.1 pc = .ok (.lreturn, 1) ∧ st = [.long x] ∧ mi.2.2.2.2 = some .long ∧ q = .inl (some (.long x), M)) ∨ (decode mi.2.2.1 pc = .ok (.return_, 1) ∧ st = [] ∧ mi.2.2.2.2 = none ∧ q = .inl (none, M))
set_option maxHeartbeats 4000000 in
theorem am_stp_inr {q : (Option Value × am_Mem) ⊕ (am_MI × List Value × am_Cf)} (h : am_stp mi pc L st M = some (.inr q)) : am_Ends mi pc L st M q := by
  unfold am_stp at h
  split at h
  · rename_i i n hd
    split at h
    · rename_i hn
      unfold am_ins at h
      split at h
      all_goals first
        | exact (nr_go h).elim
        | exact (nr_ld h).elim
        | exact (nr_sto h).elim
        | exact (nr_stoJ h).elim
        | exact (nr_b2 h).elim
        | exact (nr_l2 h).elim
        | exact (nr_jump h).elim
        | exact (nr_get h).elim
        | exact (nr_put h).elim
        | exact (nr_new h).elim
        | exact (nr_newa h).elim
        | exact (nr_newq h).elim
        | (change n = 3 at hn; subst hn; exact Or.inl ⟨_, hd, h⟩)
        | (change n = 3 at hn; subst hn; exact Or.inr (Or.inl ⟨_, hd, h⟩))
        | (change n = 3 at hn; subst hn; exact Or.inr (Or.inr (Or.inl ⟨_, hd, h⟩)))
        | (split at h; exact (nr_go h).elim; cases h)
        | (split at h; exact (nr_cmp h).elim; cases h)
        | (split at h; exact (nr_newg h).elim; cases h)
        | (split at h; (split at h; exact (nr_go h).elim; cases h); cases h)
        | (split at h; (split at h; cases h; exact (nr_go h).elim); cases h)
        | (split at h; (split at h; exact (nr_jump h).elim; cases h); cases h)
        | (change n = 1 at hn; subst hn; split at h; (split at h; (rename_i hr; cases h; exact Or.inr (Or.inr (Or.inr (Or.inl ⟨_, hd, rfl, hr, rfl⟩)))); cases h); cases h)
        | (change n = 1 at hn; subst hn; split at h; (split at h; (rename_i hr; cases h; exact Or.inr (Or.inr (Or.inr (Or.inr (Or.inl ⟨_, hd, rfl, hr, rfl⟩))))); cases h); cases h)
        | (change n = 1 at hn; subst hn; split at h; (split at h; (rename_i hr; cases h; exact Or.inr (Or.inr (Or.inr (Or.inr (Or.inr ⟨hd, rfl, hr, rfl⟩))))); cases h); cases h)
        | cases h
    · cases h
  · cases h
theorem am_Ends.mem {q : (Option Value × am_Mem) ⊕ (am_MI × List Value × am_Cf)} (h : am_Ends mi pc L st M q) : (∀ r, q = .inl r → r.2 = M) ∧ ∀ r, q = .inr r → r.2.2.2.2.2 = M := by
  have key : ∀ (k : Nat) (kinds : List Nat), am_inst mi k pc L st M kinds = some (.inr q) → (∀ r, q = .inl r → r.2 = M) ∧ ∀ r, q = .inr r → r.2.2.2.2.2 = M := by
    intro k kinds h
    obtain ⟨kind, y, n, -, -, ⟨-, a, -, -, -, -, rfl⟩ | ⟨-, -, -, rfl⟩ | ⟨-, -, -, -, a, -, -, rfl⟩⟩ := am_inst_inr h
    · exact ⟨fun r h => (by cases h), fun r h => (by cases h; rfl)⟩
    · exact ⟨fun r h => (by cases h), fun r h => (by cases h; rfl)⟩
    · exact ⟨fun r h => (by cases h), fun r h => (by cases h; rfl)⟩
  rcases h with ⟨k, -, h⟩ | ⟨k, -, h⟩ | ⟨k, -, h⟩ | ⟨x, -, -, -, rfl⟩ | ⟨x, -, -, -, rfl⟩ | ⟨-, -, -, rfl⟩
  · exact key _ _ h
  · exact key _ _ h
  · exact key _ _ h
  · exact ⟨fun r h => (by cases h; rfl), fun r h => (by cases h)⟩
  · exact ⟨fun r h => (by cases h; rfl), fun r h => (by cases h)⟩
  · exact ⟨fun r h => (by cases h; rfl), fun r h => (by cases h)⟩
end AMD
/-- a weaker end -/
theorem am_run_mono {call : am_MI → List Value → am_Mem → am_Post → Prop} (hcall : ∀ y a M (Q Q' : am_Post), (∀ v M', Q v M' → Q' v M') → call y a M Q → call y a M Q') (mi : am_MI) : ∀ (k pc : Nat) (L : am_Lo) (st : List Value) (M : am_Mem) (Q Q' : am_Post), (∀ v M', Q v M' → Q' v M') → am_run call mi k pc L st M Q → am_run call mi k pc L st M Q'
  | 0, _, _, _, _, _, _, _, h => h.elim
  | k + 1, pc, L, st, M, Q, Q', hq, h => by
    have ih := am_run_mono hcall mi k
    unfold am_run at h ⊢
    cases hs : am_stp mi pc L st M with
    | none => rw [hs] at h; exact h.elim
    | some q =>
      rw [hs] at h
      rcases q with q | q | q
      · exact ih _ _ _ _ _ _ hq h
      · exact hq _ _ h
      · exact hcall _ _ _ _ _ (fun v M' h9 => ih _ _ _ _ _ _ hq h9) h
theorem am_call_mono : ∀ (d : Nat) (y : am_MI) (a : List Value) (M : am_Mem) (Q Q' : am_Post), (∀ v M', Q v M' → Q' v M') → am_call d y a M Q → am_call d y a M Q'
  | 0, _, _, _, _, _, _, h => h.elim
  | d + 1, y, a, M, Q, Q', hq, ⟨h0, k, h⟩ => ⟨h0, k, am_run_mono (fun y a M Q Q' => am_call_mono d y a M Q Q') y k _ _ _ _ _ _ hq h⟩
/-- what a run ends with is one answer and one memory, and the run ends so for that alone -/
theorem am_run_pin {d : Nat} (hcall : ∀ (y : am_MI) (a : List Value) (M : am_Mem) (Q : am_Post), am_call d y a M Q → ∃ v M', Q v M' ∧ am_le M M' ∧ am_call d y a M (fun v' M'' => v' = v ∧ M'' = M')) (mi : am_MI) : ∀ (k pc : Nat) (L : am_Lo) (st : List Value) (M : am_Mem) (Q : am_Post), am_run (am_call d) mi k pc L st M Q → ∃ v M', Q v M' ∧ am_le M M' ∧ am_run (am_call d) mi k pc L st M (fun v' M'' => v' = v ∧ M'' = M')
  | 0, _, _, _, _, _, h => h.elim
  | k + 1, pc, L, st, M, Q, h => by
    have ih := am_run_pin hcall mi k
    unfold am_run at h ⊢
    cases hs : am_stp mi pc L st M with
    | none => rw [hs] at h; exact h.elim
    | some q =>
      rw [hs] at h
      rcases q with q | q | q
      · obtain ⟨v, M', h1, h2, h3⟩ := ih _ _ _ _ _ h
        exact ⟨v, M', h1, (le_stp hs).tr h2, h3⟩
      · exact ⟨q.1, q.2, h, by rw [(am_stp_inr hs).mem.1 q rfl]; exact am_le.rf _, rfl, rfl⟩
      · obtain ⟨v, M1, h1, h2, h3⟩ := hcall _ _ _ _ h
        obtain ⟨w, M', g1, g2, g3⟩ := ih _ _ _ _ _ h1
        rw [(am_stp_inr hs).mem.2 q rfl] at h2
        exact ⟨w, M', g1, h2.tr g2, am_call_mono d _ _ _ _ _ (fun v' M'' h9 => by obtain ⟨rfl, rfl⟩ := h9; exact g3) h3⟩
theorem am_call_pin : ∀ (d : Nat) (y : am_MI) (a : List Value) (M : am_Mem) (Q : am_Post), am_call d y a M Q → ∃ v M', Q v M' ∧ am_le M M' ∧ am_call d y a M (fun v' M'' => v' = v ∧ M'' = M')
  | 0, _, _, _, _, h => h.elim
  | d + 1, y, a, M, Q, ⟨h0, k, h⟩ => by
    obtain ⟨v, M', h1, h2, h3⟩ := am_run_pin (am_call_pin d) y k _ _ _ _ _ h
    exact ⟨v, M', h1, h2, h0, k, h3⟩
