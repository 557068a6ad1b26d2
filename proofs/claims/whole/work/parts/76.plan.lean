/-! plans: who is told which dawn; by codes -/
def am_W (ch U n : Nat) : Nat → Nat
  | 0 => 1
  | r + 1 => (if U.testBit (n - 1 - r) = true then ch else 1) * am_W ch U n r
/-- which of the dawns (K: none) a code tells a client -/
def am_dg (K U n x k : Nat) : Nat := if U.testBit k = true then (x / am_W (K + 1) U n (n - 1 - k)) % (K + 1) else K
/-- who is told one dawn, of those below a bound -/
def am_as (a : Nat → Nat) (j : Nat) : Nat → Nat
  | 0 => 0
  | k + 1 => am_as a j k ||| (if a k = j then 2 ^ k else 0)
/-- how many are told one of the first dawns -/
def am_ct (a : Nat → Nat) (K : Nat) : Nat → Nat
  | 0 => 0
  | k + 1 => am_ct a K k + if a k < K then 1 else 0
theorem as_tb {a : Nat → Nat} {j k : Nat} : ∀ m, (am_as a j m).testBit k = decide (k < m ∧ a k = j)
  | 0 => by
    show (0 : Nat).testBit k = _
    rw [Nat.zero_testBit]
    simp
  | m + 1 => by
    show (am_as a j m ||| (if a m = j then 2 ^ m else 0)).testBit k = _
    rw [Nat.testBit_or, as_tb m]
    by_cases e : a m = j
    · rw [if_pos e, Nat.testBit_two_pow]
      by_cases g : m = k
      · subst g; simp [e]
      · have h : k < m + 1 ↔ k < m := by omega
        simp [g, h]
    · rw [if_neg e, Nat.zero_testBit, Bool.or_false]
      by_cases g : k = m
      · subst g; simp [e]
      · have h : k < m + 1 ↔ k < m := by omega
        simp [h]
theorem as_lt {a : Nat → Nat} {j : Nat} : ∀ m, am_as a j m < 2 ^ m
  | 0 => by
    show 0 < 1
    decide
  | m + 1 => by
    have ih := as_lt (a := a) (j := j) m
    have h2 : 2 ^ (m + 1) = 2 * 2 ^ m := Nat.pow_succ'
    refine Nat.or_lt_two_pow (by omega) ?_
    split
    · omega
    · omega
theorem as_ext {a : Nat → Nat} {j s m : Nat} (hs : s < 2 ^ m) (h : ∀ k, k < m → s.testBit k = decide (a k = j)) : s = am_as a j m := by
  apply Nat.eq_of_testBit_eq
  intro k
  rw [as_tb]
  by_cases hk : k < m
  · rw [h k hk]; simp [hk]
  · rw [tb_ge hs (by omega)]; simp [hk]
theorem as_congr {a b : Nat → Nat} {i j : Nat} : ∀ m, (∀ k, k < m → (a k = i ↔ b k = j)) → am_as a i m = am_as b j m
  | 0, _ => rfl
  | m + 1, h => by
    show am_as a i m ||| (if a m = i then 2 ^ m else 0) = am_as b j m ||| (if b m = j then 2 ^ m else 0)
    rw [as_congr m (fun k hk => h k (by omega))]
    by_cases e : a m = i
    · rw [if_pos e, if_pos ((h m (by omega)).mp e)]
    · rw [if_neg e, if_neg (fun q => e ((h m (by omega)).mpr q))]
theorem pc_or {s c : Nat} (hs : s < 64) (hc : c < 6) (hb : s.testBit c = false) : am_pc (s ||| 2 ^ c) = am_pc s + 1 := by
  have key : ∀ s, s < 64 → ∀ c, c < 6 → s.testBit c = false → am_pc (s ||| 2 ^ c) = am_pc s + 1 := by decide +kernel
  exact key s hs c hc hb
theorem pc_as {a : Nat → Nat} {j m : Nat} (hm : m < 6) : am_pc (am_as a j (m + 1)) = am_pc (am_as a j m) + if a m = j then 1 else 0 := by
  have h1 := as_lt (a := a) (j := j) m
  have h2 : 2 ^ m ≤ 32 := pw6 hm
  show am_pc (am_as a j m ||| (if a m = j then 2 ^ m else 0)) = _
  by_cases e : a m = j
  · rw [if_pos e, if_pos e, pc_or (by omega) hm (by rw [as_tb]; simp)]
  · rw [if_neg e, if_neg e, Nat.or_zero, Nat.add_zero]
theorem ct_succ {a : Nat → Nat} {J : Nat} : ∀ m, m ≤ 6 → am_ct a (J + 1) m = am_ct a J m + am_pc (am_as a J m)
  | 0, _ => by
    show 0 = 0 + am_pc 0
    decide
  | m + 1, hm => by
    rw [pc_as (by omega)]
    show am_ct a (J + 1) m + (if a m < J + 1 then 1 else 0) = am_ct a J m + (if a m < J then 1 else 0) + (am_pc (am_as a J m) + _)
    rw [ct_succ m (by omega)]
    by_cases e : a m = J
    · subst e
      rw [if_pos (by omega), if_neg (by omega), if_pos rfl]
      omega
    · by_cases g : a m < J
      · rw [if_pos (by omega), if_pos g, if_neg e]
        omega
      · rw [if_neg (by omega), if_neg g, if_neg e]
        omega
theorem ct_0 {a : Nat → Nat} : ∀ m, am_ct a 0 m = 0
  | 0 => rfl
  | m + 1 => by
    show am_ct a 0 m + (if a m < 0 then 1 else 0) = 0
    rw [ct_0 m, if_neg (by omega)]
theorem ct_le {a : Nat → Nat} {K : Nat} : ∀ m, am_ct a K m ≤ m
  | 0 => Nat.le_refl _
  | m + 1 => by
    have := ct_le (a := a) (K := K) m
    show am_ct a K m + (if a m < K then 1 else 0) ≤ _
    split <;> omega
theorem ct_congr {a b : Nat → Nat} {K : Nat} : ∀ m, (∀ k, k < m → (a k < K ↔ b k < K)) → am_ct a K m = am_ct b K m
  | 0, _ => rfl
  | m + 1, h => by
    show am_ct a K m + (if a m < K then 1 else 0) = am_ct b K m + (if b m < K then 1 else 0)
    rw [ct_congr m (fun k hk => h k (by omega))]
    by_cases e : a m < K
    · rw [if_pos e, if_pos ((h m (by omega)).mp e)]
    · rw [if_neg e, if_neg (fun q => e ((h m (by omega)).mpr q))]
/-- the first dawn apart -/
theorem ct_first {a b : Nat → Nat} {K : Nat} : ∀ m, m ≤ 6 → (∀ k, k < m → (b k < K ↔ a k ≠ 0 ∧ a k < K + 1)) → am_ct a (K + 1) m = am_pc (am_as a 0 m) + am_ct b K m
  | 0, _, _ => by
    show 0 = am_pc 0 + 0
    decide
  | m + 1, hm, h => by
    have h1 := h m (by omega)
    rw [pc_as (by omega)]
    show am_ct a (K + 1) m + (if a m < K + 1 then 1 else 0) = am_pc (am_as a 0 m) + _ + (am_ct b K m + (if b m < K then 1 else 0))
    rw [ct_first m (by omega) (fun k hk => h k (by omega))]
    by_cases e : a m = 0
    · rw [if_pos (by omega), if_pos e, if_neg (fun q => (h1.mp q).1 e)]
      omega
    · by_cases g : a m < K + 1
      · rw [if_pos g, if_neg e, if_pos (h1.mpr ⟨e, g⟩)]
        omega
      · rw [if_neg g, if_neg e, if_neg (fun q => g (h1.mp q).2)]
        omega
section
variable {tn : Nat → Nat}
theorem can_0 (hO : ar_told tn) (e : Nat) : am_can tn e 0 = true := by
  have h : ∀ m, am_suA tn e 0 m = true := by
    intro m
    induction m with
    | zero => rfl
    | succ m ih =>
      show (am_suA tn e 0 m && (!(0 : Nat).testBit m || am_suN tn e m)) = true
      rw [ih, Nat.zero_testBit]
      rfl
  unfold am_can
  rw [h, sm_0, soon_0 hO]
  simp
theorem suA_wo {e s c : Nat} (hs : s < 64) (hc : c < 6) : ∀ m, m ≤ 6 → am_suA tn e s m = true → am_suA tn e (am_wo s c) m = true
  | 0, _, _ => rfl
  | m + 1, hm, h => by
    have h' : (am_suA tn e s m && (!s.testBit m || am_suN tn e m)) = true := h
    simp only [Bool.and_eq_true] at h'
    show (am_suA tn e (am_wo s c) m && (!(am_wo s c).testBit m || am_suN tn e m)) = true
    rw [suA_wo hs hc m (by omega) h'.1, wo_tb hs hc (by omega)]
    cases hb : s.testBit m
    · rfl
    · have := h'.2
      rw [hb] at this
      simp only [Bool.not_true, Bool.false_or] at this
      simp [this]
theorem can_wo {e s c : Nat} (hO : ar_told tn) (hs : s < 2 ^ tn 1) (hc : c < tn 1) (hb : s.testBit c = true) (h : am_can tn e s = true) : am_can tn e (am_wo s c) = true := by
  have o2 := hO.2.1
  have p6 := (pow2_6 o2).1
  unfold am_can at *
  simp only [Bool.and_eq_true, decide_eq_true_eq] at *
  have hw := sm_wo (f := fun c => tn (24 + c)) (show s < 64 by omega) (show c < 6 by omega) hb (tn 1) o2 hc
  have hso := soon_wo hO (s + 1) s (by omega) hs c hc hb
  exact ⟨suA_wo (by omega) (by omega) _ o2 h.1, by omega, by omega, by omega⟩
theorem can_sub {e : Nat} (hO : ar_told tn) : ∀ N s, s < N → s < 2 ^ tn 1 → am_can tn e s = true → ∀ s', (∀ k, s'.testBit k = true → s.testBit k = true) → am_can tn e s' = true
  | 0, s, h, _, _, _ => absurd h (by omega)
  | N + 1, s, h, hs, hc, s' => by
    intro hsub
    have o2 := hO.2.1
    have p6 := (pow2_6 o2).1
    by_cases he : s' = s
    · rw [he]; exact hc
    · have : ∃ k, s.testBit k = true ∧ s'.testBit k = false := by
        apply Classical.byContradiction
        intro hn
        apply he
        apply Nat.eq_of_testBit_eq
        intro k
        cases h1 : s'.testBit k with
        | true => rw [hsub k h1]
        | false =>
          cases h2 : s.testBit k with
          | false => rfl
          | true => exact absurd ⟨k, h2, h1⟩ hn
      obtain ⟨k, k1, k2⟩ := this
      have hk : k < tn 1 := by
        apply Classical.byContradiction
        intro hn
        rw [tb_ge hs (by omega)] at k1
        exact absurd k1 (by decide)
      have hw := wo_less (show s < 64 by omega) (show k < 6 by omega) k1
      refine can_sub hO N (am_wo s k) (by omega) (by omega) (can_wo hO hs hk k1 hc) s' (fun i hi => ?_)
      have hi6 : i < tn 1 := by
        apply Classical.byContradiction
        intro hn
        have := hsub i hi
        rw [tb_ge hs (by omega)] at this
        exact absurd this (by decide)
      rw [wo_tb (by omega) (by omega) (by omega), hsub i hi]
      have : ¬ i = k := by
        rintro rfl
        rw [k2] at hi
        exact absurd hi (by decide)
      simp [this]
theorem ms1_ge {nxt : Nat → Nat} {e s q : Nat} (hz : q &&& (63 - s) = 0) (hc : am_can tn e q = true) : ∀ Q, q < Q → am_pc q + nxt (s &&& (63 - q)) ≤ am_ms1 tn nxt e s Q
  | 0, h => absurd h (by omega)
  | Q + 1, h => by
    simp only [am_ms1]
    by_cases e1 : q = Q
    · subst e1
      rw [if_pos ⟨hz, hc⟩]
      omega
    · have ih := ms1_ge (nxt := nxt) hz hc Q (by omega)
      split <;> omega
theorem ms1_at {nxt : Nat → Nat} {e s : Nat} : ∀ Q, am_ms1 tn nxt e s Q = 0 ∨ ∃ q, q < Q ∧ q &&& (63 - s) = 0 ∧ am_can tn e q = true ∧ am_ms1 tn nxt e s Q = am_pc q + nxt (s &&& (63 - q))
  | 0 => Or.inl rfl
  | Q + 1 => by
    have ih := ms1_at (nxt := nxt) (e := e) (s := s) Q
    simp only [am_ms1]
    by_cases g : (Q &&& (63 - s)) = 0 ∧ am_can tn e Q = true
    · rw [if_pos g]
      rcases ih with ih | ⟨q, q1, q2, q3, q4⟩
      · exact Or.inr ⟨Q, by omega, g.1, g.2, by omega⟩
      · by_cases k : am_ms1 tn nxt e s Q ≤ am_pc Q + nxt (s &&& (63 - Q))
        · exact Or.inr ⟨Q, by omega, g.1, g.2, by omega⟩
        · exact Or.inr ⟨q, by omega, q2, q3, by omega⟩
    · rw [if_neg g]
      rcases ih with ih | ⟨q, q1, q2, q3, q4⟩
      · exact Or.inl ih
      · exact Or.inr ⟨q, by omega, q2, q3, q4⟩
theorem df_tb {s q k : Nat} (hs : s < 64) (hq : q < 64) (hk : k < 6) : (s &&& (63 - q)).testBit k = (s.testBit k && !q.testBit k) := by
  have key : ∀ q, q < 64 → ∀ k, k < 6 → (63 - q).testBit k = !q.testBit k := by decide +kernel
  rw [Nat.testBit_and, key q hq k hk]
theorem sub_df {s q : Nat} (hs : s < 64) (hq : q < 64) (h : ∀ k, k < 6 → q.testBit k = true → s.testBit k = true) : q &&& (63 - s) = 0 := by
  apply Nat.eq_of_testBit_eq
  intro k
  rw [Nat.zero_testBit]
  by_cases hk : k < 6
  · rw [df_tb hq hs hk]
    cases hb : q.testBit k with
    | false => rfl
    | true => rw [h k hk hb]; rfl
  · rw [Nat.testBit_and, tb_ge (m := 6) hq (by omega), Bool.false_and]
theorem sub_le {s q : Nat} (hs : s < 64) (hq : q < 64) (h : q &&& (63 - s) = 0) : q ≤ s := by
  have key : ∀ s, s < 64 → ∀ q, q < 64 → q &&& (63 - s) = 0 → q ≤ s := by decide +kernel
  exact key s hs q hq h
theorem sub_of {s q : Nat} (hs : s < 64) (hq : q < 64) (h : q &&& (63 - s) = 0) {k : Nat} (hb : q.testBit k = true) : s.testBit k = true := by
  have hk : k < 6 := by
    apply Classical.byContradiction
    intro hn
    rw [tb_ge (m := 6) hq (by omega)] at hb
    exact absurd hb (by decide)
  have := df_tb hq hs hk
  rw [h, Nat.zero_testBit, hb] at this
  cases hs2 : s.testBit k with
  | true => rfl
  | false => rw [hs2] at this; exact absurd this (by decide)
/-- no plan tells more -/
theorem most_up (hO : ar_told tn) : ∀ k, k ≤ tn 0 → ∀ (a : Nat → Nat) (V : Nat), V < 2 ^ tn 1 → (∀ i, i < tn 1 → a i < k → V.testBit i = true) → (∀ j, j < k → am_can tn (tn 0 - k + j) (am_as a j (tn 1)) = true) → am_ct a k (tn 1) ≤ am_msE tn k V
  | 0, _, a, V, _, _, _ => by rw [ct_0]; omega
  | k + 1, hk, a, V, hV, hsub, hcan => by
    have o2 := hO.2.1
    have p6 := (pow2_6 o2).1
    have hq := as_lt (a := a) (j := 0) (tn 1)
    have hz : am_as a 0 (tn 1) &&& (63 - V) = 0 := sub_df (by omega) (by omega) (fun i hi hb => by
      rw [as_tb] at hb
      simp only [decide_eq_true_eq] at hb
      exact hsub i hb.1 (by omega))
    have hle := sub_le (by omega) (by omega) hz
    have hc0 := hcan 0 (by omega)
    rw [Nat.add_zero] at hc0
    have hge := ms1_ge (nxt := am_msE tn k) hz hc0 (V + 1) (by omega)
    have hb : ∀ i, i < tn 1 → ((if a i = 0 then k else a i - 1) < k ↔ a i ≠ 0 ∧ a i < k + 1) := by
      intro i hi
      by_cases e : a i = 0
      · rw [if_pos e]; omega
      · rw [if_neg e]; omega
    have hV2 : V &&& (63 - am_as a 0 (tn 1)) ≤ V := Nat.and_le_left
    have ih := most_up hO k (by omega) (fun i => if a i = 0 then k else a i - 1) (V &&& (63 - am_as a 0 (tn 1))) (by omega) (fun i hi h => by
      have h2 := (hb i hi).mp h
      rw [df_tb (by omega) (by omega) (by omega), hsub i hi h2.2, as_tb]
      simp [h2.1]) (fun j hj => by
      have h2 := hcan (j + 1) (by omega)
      rw [show tn 0 - k + j = tn 0 - (k + 1) + (j + 1) by omega, as_congr (j := j + 1) (b := a) (tn 1) (fun i hi => ?_)]
      · exact h2
      · by_cases e : a i = 0
        · simp only [e, if_true]; omega
        · simp only [e, if_false]; omega)
    rw [ct_first (tn 1) o2 hb]
    show _ ≤ am_ms1 tn (am_msE tn k) (tn 0 - (k + 1)) V (V + 1)
    omega
/-- and one tells as many -/
theorem most_at (hO : ar_told tn) : ∀ k, k ≤ tn 0 → ∀ (V : Nat), V < 2 ^ tn 1 → ∃ a : Nat → Nat, (∀ i, i < tn 1 → a i < k → V.testBit i = true) ∧ (∀ j, j < k → am_can tn (tn 0 - k + j) (am_as a j (tn 1)) = true) ∧ am_ct a k (tn 1) = am_msE tn k V
  | 0, _, V, _ => ⟨fun _ => 0, fun i _ h => absurd h (by omega), fun j h => absurd h (by omega), ct_0 _⟩
  | k + 1, hk, V, hV => by
    have o2 := hO.2.1
    have p6 := (pow2_6 o2).1
    have hq : ∃ q, q < V + 1 ∧ q &&& (63 - V) = 0 ∧ am_can tn (tn 0 - (k + 1)) q = true ∧ am_msE tn (k + 1) V = am_pc q + am_msE tn k (V &&& (63 - q)) := by
      show ∃ q, q < V + 1 ∧ q &&& (63 - V) = 0 ∧ am_can tn (tn 0 - (k + 1)) q = true ∧ am_ms1 tn (am_msE tn k) (tn 0 - (k + 1)) V (V + 1) = _
      rcases ms1_at (tn := tn) (nxt := am_msE tn k) (e := tn 0 - (k + 1)) (s := V) (V + 1) with h | h
      · have hge := ms1_ge (tn := tn) (nxt := am_msE tn k) (e := tn 0 - (k + 1)) (s := V) (q := 0) (Nat.zero_and _) (can_0 hO _) (V + 1) (by omega)
        exact ⟨0, by omega, Nat.zero_and _, can_0 hO _, by omega⟩
      · exact h
    obtain ⟨q, q1, q2, q3, q4⟩ := hq
    have hV2 : V &&& (63 - q) ≤ V := Nat.and_le_left
    obtain ⟨b, b1, b2, b3⟩ := most_at hO k (by omega) (V &&& (63 - q)) (by omega)
    have e0 : q = am_as (fun i => if q.testBit i = true then 0 else b i + 1) 0 (tn 1) := as_ext (by omega) (fun i hi => by
      cases hb : q.testBit i <;> simp)
    have hb1 : ∀ i, i < tn 1 → b i < k → q.testBit i = false := by
      intro i hi h
      have := b1 i hi h
      rw [df_tb (by omega) (by omega) (by omega)] at this
      simpa using (Bool.and_eq_true_iff.mp this).2
    refine ⟨fun i => if q.testBit i = true then 0 else b i + 1, fun i hi h => ?_, fun j hj => ?_, ?_⟩
    · cases hb : q.testBit i with
      | true => exact sub_of (by omega) (by omega) q2 hb
      | false =>
        simp only [hb, Bool.false_eq_true, if_false] at h
        have := b1 i hi (by omega)
        rw [df_tb (by omega) (by omega) (by omega)] at this
        exact (Bool.and_eq_true_iff.mp this).1
    · cases j with
      | zero => rw [← e0, Nat.add_zero]; exact q3
      | succ j =>
        have := b2 j (by omega)
        rw [show tn 0 - k + j = tn 0 - (k + 1) + (j + 1) by omega] at this
        rw [as_congr (b := b) (j := j) (tn 1) (fun i hi => ?_)]
        · exact this
        · cases hb : q.testBit i with
          | true =>
            simp only [if_true]
            constructor
            · intro h; omega
            · intro h
              have := hb1 i hi (by omega)
              rw [hb] at this
              exact absurd this (by decide)
          | false => simp
    · rw [q4, ct_first (b := b) (tn 1) o2 (fun i hi => ?_), ← e0, b3]
      cases hb : q.testBit i with
      | true =>
        constructor
        · intro h
          have := hb1 i hi h
          rw [hb] at this
          exact absurd this (by decide)
        · intro h
          simp at h
      | false => simp
end
