/-! codes: what stands behind a beginning -/
theorem W_pos {ch U n : Nat} (h : 1 ≤ ch) : ∀ r, 1 ≤ am_W ch U n r
  | 0 => Nat.le_refl _
  | r + 1 => by
    have ih := W_pos (U := U) (n := n) h r
    show 1 ≤ (if U.testBit (n - 1 - r) = true then ch else 1) * am_W ch U n r
    split
    · exact Nat.mul_pos h ih
    · omega
theorem dg_le {K U n x k : Nat} : am_dg K U n x k ≤ K := by
  unfold am_dg
  split
  · have := Nat.mod_lt (x / am_W (K + 1) U n (n - 1 - k)) (show 0 < K + 1 by omega)
    omega
  · exact Nat.le_refl _
section
variable {K U n r c P : Nat}
theorem cd_out {x : Nat} (hc : c + (r + 1) = n) (hb : U.testBit c = true) (h : x / am_W (K + 1) U n (r + 1) = P) : x / am_W (K + 1) U n r = P * (K + 1) + am_dg K U n x c := by
  have e : n - 1 - c = r := by omega
  have e2 : n - 1 - r = c := by omega
  have hW : am_W (K + 1) U n (r + 1) = (K + 1) * am_W (K + 1) U n r := by
    show (if U.testBit (n - 1 - r) = true then K + 1 else 1) * _ = _
    rw [e2, if_pos hb]
  rw [hW, Nat.mul_comm, ← Nat.div_div_eq_div_mul] at h
  unfold am_dg
  rw [if_pos hb, e, ← h]
  have := Nat.div_add_mod (x / am_W (K + 1) U n r) (K + 1)
  rw [Nat.mul_comm] at this
  exact this.symm
theorem cd_in {x j : Nat} (hc : c + (r + 1) = n) (hb : U.testBit c = true) (hj : j ≤ K) (h : x / am_W (K + 1) U n r = P * (K + 1) + j) : x / am_W (K + 1) U n (r + 1) = P ∧ am_dg K U n x c = j := by
  have e : n - 1 - c = r := by omega
  have e2 : n - 1 - r = c := by omega
  have hW : am_W (K + 1) U n (r + 1) = (K + 1) * am_W (K + 1) U n r := by
    show (if U.testBit (n - 1 - r) = true then K + 1 else 1) * _ = _
    rw [e2, if_pos hb]
  constructor
  · rw [hW, Nat.mul_comm, ← Nat.div_div_eq_div_mul, h, Nat.mul_comm, Nat.mul_add_div (by omega), Nat.div_eq_of_lt (by omega), Nat.add_zero]
  · unfold am_dg
    rw [if_pos hb, e, h, Nat.mul_comm, Nat.mul_add_mod, Nat.mod_eq_of_lt (by omega)]
theorem cd_no {x : Nat} (hc : c + (r + 1) = n) (hb : U.testBit c = false) : am_W (K + 1) U n (r + 1) = am_W (K + 1) U n r ∧ am_dg K U n x c = K := by
  have e2 : n - 1 - r = c := by omega
  constructor
  · show (if U.testBit (n - 1 - r) = true then K + 1 else 1) * _ = _
    rw [e2, hb, if_neg (by decide), Nat.one_mul]
  · unfold am_dg
    rw [hb, if_neg (by decide)]
/-- each tail has a code -/
theorem code_of {b : Nat → Nat} (hb : ∀ k, k < n → b k ≤ K ∧ (U.testBit k = false → b k = K)) : ∀ r P, r ≤ n → ∃ x, x / am_W (K + 1) U n r = P ∧ ∀ k, n - r ≤ k → k < n → am_dg K U n x k = b k
  | 0, P, _ => ⟨P, Nat.div_one P, fun k h1 h2 => absurd h2 (by omega)⟩
  | r + 1, P, hr => by
    have hc : (n - 1 - r) + (r + 1) = n := by omega
    have h2 := hb (n - 1 - r) (by omega)
    cases hu : U.testBit (n - 1 - r) with
    | true =>
      obtain ⟨x, x1, x2⟩ := code_of hb r (P * (K + 1) + b (n - 1 - r)) (by omega)
      obtain ⟨y1, y2⟩ := cd_in hc hu h2.1 x1
      refine ⟨x, y1, fun k k1 k2 => ?_⟩
      by_cases e : k = n - 1 - r
      · rw [e]; exact y2
      · exact x2 k (by omega) k2
    | false =>
      obtain ⟨x, x1, x2⟩ := code_of hb r P (by omega)
      obtain ⟨y1, y2⟩ := cd_no (K := K) (x := x) hc hu
      refine ⟨x, by rw [y1]; exact x1, fun k k1 k2 => ?_⟩
      by_cases e : k = n - 1 - r
      · rw [e, y2]; exact (h2.2 hu).symm
      · exact x2 k (by omega) k2
end
def am_okc (tn : Nat → Nat) (F U x : Nat) : Prop := ∀ j, j < tn 0 - F → am_can tn (F + j) (am_as (am_dg (tn 0 - F) U (tn 1) x) j (tn 1)) = true
def am_mn (tn : Nat → Nat) (F U x : Nat) : Nat := am_ct (am_dg (tn 0 - F) U (tn 1) x) (tn 0 - F) (tn 1)
/-- a code that tells as many as can be -/
def am_oT (tn : Nat → Nat) (F U x : Nat) : Prop := am_okc tn F U x ∧ am_most tn F U ≤ am_mn tn F U x
section
variable {tn : Nat → Nat} {F U : Nat}
theorem dg_bit {K n x k : Nat} (h : am_dg K U n x k < K) : U.testBit k = true := by
  unfold am_dg at h
  cases hb : U.testBit k with
  | true => rfl
  | false => rw [hb, if_neg (by decide)] at h; omega
theorem mn_up {x : Nat} (hO : ar_told tn) (hF : F ≤ tn 0) (hU : U < 2 ^ tn 1) (h : am_okc tn F U x) : am_mn tn F U x ≤ am_most tn F U :=
  most_up hO (tn 0 - F) (by omega) _ U hU (fun i _ hi => dg_bit hi) (fun j hj => by rw [show tn 0 - (tn 0 - F) + j = F + j by omega]; exact h j hj)
theorem mn_at (hO : ar_told tn) (hF : F ≤ tn 0) (hU : U < 2 ^ tn 1) : ∃ x, x / am_W (tn 0 - F + 1) U (tn 1) (tn 1) = 0 ∧ am_okc tn F U x ∧ am_mn tn F U x = am_most tn F U := by
  obtain ⟨a, a1, a2, a3⟩ := most_at hO (tn 0 - F) (by omega) U hU
  obtain ⟨x, x1, x2⟩ := code_of (K := tn 0 - F) (U := U) (n := tn 1) (b := fun k => if a k < tn 0 - F then a k else tn 0 - F) (fun k hk => by
    by_cases e : a k < tn 0 - F
    · refine ⟨by simp only [e, if_true]; omega, fun hu => ?_⟩
      rw [a1 k hk e] at hu
      exact absurd hu (by decide)
    · exact ⟨by simp only [e, if_false]; omega, fun _ => if_neg e⟩) (tn 1) 0 (Nat.le_refl _)
  have hx : ∀ k, k < tn 1 → am_dg (tn 0 - F) U (tn 1) x k = if a k < tn 0 - F then a k else tn 0 - F := fun k hk => x2 k (by omega) hk
  refine ⟨x, x1, fun j hj => ?_, ?_⟩
  · rw [as_congr (b := a) (j := j) (tn 1) (fun k hk => ?_)]
    · have := a2 j hj
      rwa [show tn 0 - (tn 0 - F) + j = F + j by omega] at this
    · rw [hx k hk]
      split <;> omega
  · show am_ct _ _ _ = am_msE tn (tn 0 - F) U
    rw [← a3]
    refine ct_congr (tn 1) (fun k hk => ?_)
    rw [hx k hk]
    split <;> omega
theorem ct_split {g : Nat → Nat} {K c : Nat} : ∀ m, c < m → am_ct g K m = am_ct g K c + (if g c < K then 1 else 0) + am_ct (fun i => if i ≤ c then K else g i) K m
  | 0, h => absurd h (by omega)
  | m + 1, h => by
    show am_ct g K m + (if g m < K then 1 else 0) = _ + _ + (am_ct (fun i => if i ≤ c then K else g i) K m + (if (if m ≤ c then K else g m) < K then 1 else 0))
    by_cases e : c = m
    · subst e
      have : ∀ k, k ≤ c + 1 → am_ct (fun i => if i ≤ c then K else g i) K k = 0 := by
        intro k
        induction k with
        | zero => exact fun _ => rfl
        | succ k ih =>
          intro hk
          show am_ct (fun i => if i ≤ c then K else g i) K k + (if (if k ≤ c then K else g k) < K then 1 else 0) = 0
          rw [ih (by omega), if_pos (show k ≤ c by omega), if_neg (by omega)]
      rw [this c (by omega), if_pos (Nat.le_refl c), if_neg (show ¬ K < K by omega)]
      omega
    · rw [ct_split (g := g) (K := K) (c := c) m (by omega), if_neg (show ¬ m ≤ c by omega)]
      omega
/-- how it stands when the clients from c on are still to be told -/
def ar_tl (tn : Nat → Nat) (F U r c P : Nat) (a : Nat → Nat) : Prop := c + r = tn 1 ∧ (∀ x, x / am_W (tn 0 - F + 1) U (tn 1) r = P → ∀ k, k < c → am_dg (tn 0 - F) U (tn 1) x k = a k) ∧ (∀ k, k < c → a k < tn 0 - F → U.testBit k = true) ∧ ∀ j, j < tn 0 - F → am_can tn (F + j) (am_as a j c) = true
def am_sa (a : Nat → Nat) (c j : Nat) : Nat → Nat := fun k => if k = c then j else a k
theorem as_sa {a : Nat → Nat} {c j i : Nat} : am_as (am_sa a c j) i (c + 1) = am_as a i c ||| (if j = i then 2 ^ c else 0) := by
  show am_as (am_sa a c j) i c ||| (if am_sa a c j c = i then 2 ^ c else 0) = _
  rw [as_congr (b := a) (j := i) c (fun k hk => by
    have : ¬ k = c := by omega
    simp only [am_sa, this, if_false])]
  simp only [am_sa, if_true]
theorem ct_sa {a : Nat → Nat} {c j K : Nat} : am_ct (am_sa a c j) K (c + 1) = am_ct a K c + if j < K then 1 else 0 := by
  show am_ct (am_sa a c j) K c + (if am_sa a c j c < K then 1 else 0) = _
  rw [ct_congr (b := a) c (fun k hk => by
    have : ¬ k = c := by omega
    simp only [am_sa, this, if_false])]
  simp only [am_sa, if_true]
theorem tl_next {r c P P' j : Nat} {a : Nat → Nat} (h : ar_tl tn F U (r + 1) c P a) (hj : j ≤ tn 0 - F) (hu : (U.testBit c = true ∧ P' = P * (tn 0 - F + 1) + j) ∨ (U.testBit c = false ∧ P' = P ∧ j = tn 0 - F)) (hc : j < tn 0 - F → am_can tn (F + j) (am_as a j c ||| 2 ^ c) = true) : ar_tl tn F U r (c + 1) P' (am_sa a c j) := by
  obtain ⟨h1, h2, h3, h4⟩ := h
  refine ⟨by omega, fun x hx k hk => ?_, fun k hk hl => ?_, fun i hi => ?_⟩
  · have hx2 : x / am_W (tn 0 - F + 1) U (tn 1) (r + 1) = P ∧ am_dg (tn 0 - F) U (tn 1) x c = j := by
      rcases hu with ⟨u1, rfl⟩ | ⟨u1, rfl, rfl⟩
      · exact cd_in h1 u1 hj hx
      · obtain ⟨y1, y2⟩ := cd_no (K := tn 0 - F) (x := x) h1 u1
        exact ⟨by rw [y1]; exact hx, y2⟩
    by_cases e : k = c
    · subst e; simp only [am_sa, if_true]; exact hx2.2
    · simp only [am_sa, e, if_false]; exact h2 x hx2.1 k (by omega)
  · by_cases e : k = c
    · subst e
      simp only [am_sa, if_true] at hl
      rcases hu with ⟨u1, -⟩ | ⟨-, -, u3⟩
      · exact u1
      · omega
    · simp only [am_sa, e, if_false] at hl
      exact h3 k (by omega) hl
  · rw [as_sa]
    by_cases e : j = i
    · subst e; rw [if_pos rfl]; exact hc hi
    · rw [if_neg e, Nat.or_zero]; exact h4 i hi
/-- what can be told behind is no more than the table says -/
theorem tl_prune {r c P x V : Nat} {a : Nat → Nat} (hO : ar_told tn) (hF : F ≤ tn 0) (h : ar_tl tn F U (r + 1) c P a) (hx : x / am_W (tn 0 - F + 1) U (tn 1) (r + 1) = P) (hok : am_okc tn F U x) (hV : V < 2 ^ tn 1) (hVb : ∀ k, k < 6 → V.testBit k = (U.testBit k && decide (c < k))) : am_mn tn F U x ≤ am_ct a (tn 0 - F) c + (if am_dg (tn 0 - F) U (tn 1) x c < tn 0 - F then 1 else 0) + am_most tn F V := by
  obtain ⟨h1, h2, h3, h4⟩ := h
  have o2 := hO.2.1
  have hs := ct_split (g := am_dg (tn 0 - F) U (tn 1) x) (K := tn 0 - F) (c := c) (tn 1) (by omega)
  have e1 : am_ct (am_dg (tn 0 - F) U (tn 1) x) (tn 0 - F) c = am_ct a (tn 0 - F) c := ct_congr c (fun k hk => by rw [h2 x hx k hk])
  have hm := most_up hO (tn 0 - F) (by omega) (fun i => if i ≤ c then tn 0 - F else am_dg (tn 0 - F) U (tn 1) x i) V hV (fun i hi hl => by
    by_cases e : i ≤ c
    · simp only [e, if_true] at hl; omega
    · simp only [e, if_false] at hl
      rw [hVb i (by omega), dg_bit hl]
      simp; omega) (fun j hj => by
    rw [show tn 0 - (tn 0 - F) + j = F + j by omega]
    refine can_sub hO _ _ (Nat.lt_succ_self _) (as_lt (tn 1)) (hok j hj) _ (fun k hk => ?_)
    rw [as_tb] at hk ⊢
    simp only [decide_eq_true_eq] at hk ⊢
    refine ⟨hk.1, ?_⟩
    by_cases e : k ≤ c
    · simp only [e, if_true] at hk; omega
    · simp only [e, if_false] at hk; exact hk.2)
  unfold am_mn
  rw [hs, e1]
  show _ ≤ _ + _ + am_msE tn (tn 0 - F) V
  omega
/-- what is told fits in -/
theorem tl_fits {r c P : Nat} {a : Nat → Nat} (hO : ar_told tn) (hF : F ≤ tn 0) (hU : U < 2 ^ tn 1) (h : ar_tl tn F U r c P a) : am_ct a (tn 0 - F) c ≤ am_most tn F U := by
  obtain ⟨h1, h2, h3, h4⟩ := h
  have hm := most_up hO (tn 0 - F) (by omega) (fun i => if i < c then a i else tn 0 - F) U hU (fun i hi hl => by
    by_cases e : i < c
    · simp only [e, if_true] at hl; exact h3 i e hl
    · simp only [e, if_false] at hl; omega) (fun j hj => by
    rw [show tn 0 - (tn 0 - F) + j = F + j by omega]
    have : am_as (fun i => if i < c then a i else tn 0 - F) j (tn 1) = am_as a j c := by
      refine (as_ext (m := tn 1) (Nat.lt_of_lt_of_le (as_lt c) (Nat.pow_le_pow_right (by decide) (by omega))) (fun k hk => ?_)).symm
      rw [as_tb]
      by_cases e : k < c
      · simp [e]
      · simp only [e, if_false, false_and, decide_false]
        symm
        rw [decide_eq_false_iff_not]
        omega
    rw [this]
    exact h4 j hj)
  have : ∀ m, c + m = tn 1 ∨ c + m < tn 1 → am_ct (fun i => if i < c then a i else tn 0 - F) (tn 0 - F) (c + m) = am_ct a (tn 0 - F) c := by
    intro m
    induction m with
    | zero => exact fun _ => ct_congr c (fun k hk => by simp only [hk, if_true])
    | succ m ih =>
      intro hm
      show am_ct (fun i => if i < c then a i else tn 0 - F) (tn 0 - F) (c + m) + (if (if c + m < c then a (c + m) else tn 0 - F) < tn 0 - F then 1 else 0) = _
      rw [ih (by omega), if_neg (show ¬ c + m < c by omega), if_neg (by omega), Nat.add_zero]
  have e := this r (Or.inl h1)
  rw [h1] at e
  rw [← e]
  exact hm
/-- a dawn that can't clothe who is told it can't behind either -/
theorem tl_cant {r c P x j : Nat} {a : Nat → Nat} (hO : ar_told tn) (h : ar_tl tn F U (r + 1) c P a) (hx : x / am_W (tn 0 - F + 1) U (tn 1) (r + 1) = P) (hd : am_dg (tn 0 - F) U (tn 1) x c = j) (hj : j < tn 0 - F) (hc : am_can tn (F + j) (am_as a j c ||| 2 ^ c) = false) : ¬ am_okc tn F U x := by
  intro hok
  obtain ⟨h1, h2, h3, h4⟩ := h
  have := can_sub hO _ _ (Nat.lt_succ_self _) (as_lt (tn 1)) (hok j hj) (am_as a j c ||| 2 ^ c) (fun k hk => by
    rw [Nat.testBit_or, as_tb, Nat.testBit_two_pow] at hk
    rw [as_tb]
    simp only [Bool.or_eq_true, decide_eq_true_eq] at hk ⊢
    rcases hk with ⟨k1, k2⟩ | rfl
    · exact ⟨by omega, by rw [h2 x hx k k1]; exact k2⟩
    · exact ⟨by omega, hd⟩)
  rw [this] at hc
  exact absurd hc (by decide)
end
