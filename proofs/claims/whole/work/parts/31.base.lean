/-! base rows: booleans, bits, bounds -/
def am_bi (b : Bool) : Int32 := if b then nI 1 else nI 0
theorem bi_t : am_bi true = nI 1 := rfl
theorem bi_f : am_bi false = nI 0 := rfl
theorem bi_0 (b : Bool) : am_bi b = nI 0 ↔ b = false := by cases b <;> decide
theorem bi_1 (b : Bool) : am_bi b = nI 1 ↔ b = true := by cases b <;> decide
theorem bi_ret (b : Bool) : (decide (am_bi b = 0) || decide (am_bi b = 1)) = true := by cases b <;> decide
theorem ret_0 : (decide (nI 0 = 0) || decide (nI 0 = 1)) = true := by decide
theorem ret_1 : (decide (nI 1 = 0) || decide (nI 1 = 1)) = true := by decide
theorem bi_zo (b : Bool) : am_bi b = 0 ∨ am_bi b = 1 := by cases b <;> decide
theorem zo_0 : (nI 0 = 0 ∨ nI 0 = 1) ↔ True := by decide
theorem zo_1 : (nI 1 = 0 ∨ nI 1 = 1) ↔ True := by decide
theorem ite_bi {P : Prop} [Decidable P] {Q : am_Post} {M : am_Mem} : (if P then Q (some (.int (nI 1))) M else Q (some (.int (nI 0))) M) ↔ Q (some (.int (am_bi (decide P)))) M := by
  by_cases h : P <;> simp [h, am_bi]
theorem ite_bin {P : Prop} [Decidable P] {Q : am_Post} {M : am_Mem} : (if P then Q (some (.int (nI 0))) M else Q (some (.int (nI 1))) M) ↔ Q (some (.int (am_bi (!decide P)))) M := by
  by_cases h : P <;> simp [h, am_bi]
theorem ite_and {A B C : Prop} [Decidable A] [Decidable B] {X Y : Prop} : (if A then (if B then X else Y) else Y) ↔ (if A ∧ B then X else Y) := by
  by_cases h : A <;> by_cases g : B <;> simp [h, g]
theorem ite_or {A B : Prop} [Decidable A] [Decidable B] {X Y : Prop} : (if A then X else (if B then X else Y)) ↔ (if A ∨ B then X else Y) := by
  by_cases h : A <;> by_cases g : B <;> simp [h, g]
theorem ite_bi2 {b : Bool} {X Y : Prop} : (if am_bi b = nI 0 then X else Y) ↔ (if b = true then Y else X) := by
  simp only [bi_0]
  cases b <;> simp
theorem ite_bi1 {b : Bool} {X Y : Prop} : (if am_bi b = nI 1 then X else Y) ↔ (if b = true then X else Y) := by
  simp only [bi_1]
theorem bnd_of {x : Int32} {n : Nat} (h : am_bnd x n = true) (hn : n < 2147483648) : ∃ j, j < n ∧ x = nI j := by
  unfold am_bnd at h
  simp only [Bool.and_eq_true, Bool.not_eq_true', decide_eq_false_iff_not, decide_eq_true_eq] at h
  obtain ⟨j, hj, rfl⟩ := nI_of h.1
  exact ⟨j, by rw [nI_clamp hj] at h; exact h.2, rfl⟩
theorem bnd_no {x : Int32} {n : Nat} (h : am_bnd x n = false) (hn : n < 2147483648) : ∀ j, j < n → x ≠ nI j := by
  rintro j hj rfl
  rw [bnd_nI (by omega)] at h
  simp [hj] at h
theorem bnd_lo {x : Int32} {n : Nat} (hn : n < 2147483648) : (decide (x < nI 0) || decide (nI n ≤ x)) = !am_bnd x n := by
  by_cases h : x < 0
  · have h' : x < nI 0 := by rw [nI_0]; exact h
    simp [am_bnd, h, h']
  · obtain ⟨j, hj, rfl⟩ := nI_of h
    have h' : ¬ nI j < nI 0 := by rw [nI_0]; exact h
    rw [bnd_nI hj]
    by_cases g : j < n
    · have : ¬ nI n ≤ nI j := by rw [le_nI hn hj]; omega
      simp [h', g, this]
    · have : nI n ≤ nI j := by rw [le_nI hn hj]; omega
      simp [g, this]
theorem bnd_in {x : Int32} {n : Nat} (hn : n < 2147483648) : (decide (nI 0 ≤ x) && decide (x ≤ nI n - nI 1)) = am_bnd x n := by
  by_cases h : x < 0
  · have h' : ¬ nI 0 ≤ x := by rw [nI_0]; exact Int32.not_le.mpr h
    simp [am_bnd, h, h']
  · have h' : nI 0 ≤ x := by rw [nI_0]; exact Int32.not_lt.mp h
    obtain ⟨j, hj, rfl⟩ := nI_of h
    rw [bnd_nI hj]
    cases n with
    | zero =>
      have h2 : ¬ nI j ≤ nI 0 - nI 1 := by
        rw [Int32.le_iff_toInt_le, nI_toInt hj, show (nI 0 - nI 1).toInt = -1 by decide]
        omega
      simp [h2]
    | succ n =>
      rw [sub_nI (by omega), Nat.add_sub_cancel]
      by_cases g : j < n + 1
      · have : nI j ≤ nI n := by rw [le_nI hj (by omega)]; omega
        simp [h', g, this]
      · have : ¬ nI j ≤ nI n := by rw [le_nI hj (by omega)]; omega
        simp [g, this]
/-- bit c of a set -/
def am_isb (x : Int32) (c : Nat) : Bool := decide ((x >>> (nI c &&& 31)) &&& nI 1 = nI 1)
theorem and31 {c : Nat} (h : c < 32) : nI c &&& 31 = nI c := by
  have key : ∀ c, c < 32 → nI c &&& 31 = nI c := by decide +kernel
  exact key c h
theorem and_nI (a b : Nat) : nI a &&& nI b = nI (a &&& b) := by
  show Int32.ofNat a &&& Int32.ofNat b = Int32.ofNat (a &&& b)
  apply Int32.toBitVec_inj.mp
  show BitVec.ofNat 32 a &&& BitVec.ofNat 32 b = BitVec.ofNat 32 (a &&& b)
  apply BitVec.eq_of_toNat_eq
  rw [BitVec.toNat_and, BitVec.toNat_ofNat, BitVec.toNat_ofNat, BitVec.toNat_ofNat]
  exact (Nat.and_mod_two_pow).symm
theorem or_nI (a b : Nat) : nI a ||| nI b = nI (a ||| b) := by
  show Int32.ofNat a ||| Int32.ofNat b = Int32.ofNat (a ||| b)
  apply Int32.toBitVec_inj.mp
  show BitVec.ofNat 32 a ||| BitVec.ofNat 32 b = BitVec.ofNat 32 (a ||| b)
  apply BitVec.eq_of_toNat_eq
  rw [BitVec.toNat_or, BitVec.toNat_ofNat, BitVec.toNat_ofNat, BitVec.toNat_ofNat]
  exact (Nat.or_mod_two_pow).symm
theorem smod31 {c : Nat} (h : c < 32) : ((nI c).toBitVec.smod 32).toNat = c := by
  have key : ∀ c, c < 32 → ((nI c).toBitVec.smod 32).toNat = c := by decide +kernel
  exact key c h
theorem shl_nI {a c : Nat} (hc : c < 32) (h : a * 2 ^ c < 4294967296) : nI a <<< (nI c &&& 31) = nI (a * 2 ^ c) := by
  rw [and31 hc]
  exact pk_shlN _ c (smod31 hc) h
theorem shr_nI {a c : Nat} (hc : c < 32) (h : a < 2147483648) : nI a >>> (nI c &&& 31) = nI (a / 2 ^ c) := by
  rw [and31 hc]
  exact pk_shrN h _ c (smod31 hc)
theorem isb_nI {a c : Nat} (hc : c < 32) (h : a < 2147483648) : am_isb (nI a) c = a.testBit c := by
  unfold am_isb
  rw [shr_nI hc h, and_nI, Nat.and_one_is_mod, Nat.testBit_eq_decide_div_mod_eq]
  exact decide_eq_decide.mpr (eq_nI (Nat.lt_of_lt_of_le (Nat.mod_lt _ (by decide)) (by decide)) (by decide))
/-- how many of six bits -/
def am_pc (k : Nat) : Nat := k % 2 + k / 2 % 2 + k / 4 % 2 + k / 8 % 2 + k / 16 % 2 + k / 32 % 2
theorem cJ6_bitCount {k d : Nat} {M : am_Mem} {Q : am_Post} (hk : k < 64) : am_call (d + 1) mJ6_bitCount [.int (nI k)] M Q ↔ Q (some (.int (nI (am_pc k)))) M := by
  simp (disch := omega) only [eJ6_bitCount, sJ6_bitCount_0, sJ6_bitCount_1, sJ6_bitCount_2, sJ6_bitCount_3, sJ6_bitCount_4, sJ6_bitCount_7, sJ6_bitCount_8, sJ6_bitCount_9, sJ6_bitCount_10, sJ6_bitCount_11, sJ6_bitCount_14, sJ6_bitCount_15, sJ6_bitCount_16, sJ6_bitCount_17, sJ6_bitCount_18, sJ6_bitCount_21, sJ6_bitCount_22, sJ6_bitCount_23, sJ6_bitCount_24, sJ6_bitCount_25, sJ6_bitCount_26, sJ6_bitCount_27, sJ6_bitCount_28, sJ6_bitCount_29, sJ6_bitCount_32, sJ6_bitCount_33, sJ6_bitCount_34, sJ6_bitCount_35, sJ6_bitCount_36, sJ6_bitCount_38, sJ6_bitCount_39, sJ6_bitCount_40, sJ6_bitCount_41, sJ6_bitCount_42, sJ6_bitCount_43, sJ6_bitCount_45, sJ6_bitCount_46, sJ6_bitCount_47, sJ6_bitCount_48, sJ6_bitCount_49, sJ6_bitCount_51, sJ6_bitCount_52, am_k1_int, am_k1_ref, am_k1_none, am_cats_nil, am_cats_int, am_cats_ref, am_cats_long, Option.toList_some, Option.toList_none, List.singleton_append, List.nil_append, List.cons_append, true_and, and_true, if_true, if_false, va_rf]
  have key : ∀ k, k < 64 → (fun x : Int32 => (fun x : Int32 => (fun x : Int32 => (fun x : Int32 => (fun x : Int32 => (fun x : Int32 => x &&& nI 63) (x + (x.toUInt32 >>> ((nI 16).toUInt32 &&& Int32.toUInt32 31)).toInt32)) (x + (x.toUInt32 >>> ((nI 8).toUInt32 &&& Int32.toUInt32 31)).toInt32)) (x + (x.toUInt32 >>> ((nI 4).toUInt32 &&& Int32.toUInt32 31)).toInt32 &&& nI 252645135)) ((x &&& nI 858993459) + ((x.toUInt32 >>> ((nI 2).toUInt32 &&& Int32.toUInt32 31)).toInt32 &&& nI 858993459))) (x - ((x.toUInt32 >>> ((nI 1).toUInt32 &&& Int32.toUInt32 31)).toInt32 &&& nI 1431655765))) (nI k) = nI (am_pc k) := by decide +kernel
  have h := key k hk
  simp only at h
  rw [h]
theorem cJ9_max {a b d : Nat} {M : am_Mem} {Q : am_Post} (ha : a < 2147483648) (hb : b < 2147483648) : am_call (d + 1) mJ9_max [.int (nI a), .int (nI b)] M Q ↔ Q (some (.int (nI (max a b)))) M := by
  simp (disch := omega) only [eJ9_max, sJ9_max_0, sJ9_max_1, sJ9_max_2, sJ9_max_5, sJ9_max_6, sJ9_max_9, sJ9_max_10, am_k1_int, am_k1_ref, am_k1_none, am_cats_nil, am_cats_int, am_cats_ref, am_cats_long, Option.toList_some, Option.toList_none, List.singleton_append, List.nil_append, List.cons_append, true_and, and_true, if_true, if_false, va_rf, ↓reduceIte, Nat.reduceAdd, Nat.reduceMul, Nat.reduceSub, Nat.reduceLT, Nat.reduceLeDiff, Nat.reduceEqDiff, Nat.zero_le, Nat.add_zero, Nat.le_refl, nI_add, mul_nI, lt_nI, le_nI, eq_nI, bnd_nI, ci_nI, decide_eq_true_eq, decide_true, decide_false, Bool.true_or, Bool.or_true, Bool.or_false, Bool.false_or, not_true_eq_false, not_false_eq_true, Bool.false_eq_true, false_and, and_false, and_self]
  by_cases h : a < b
  · rw [if_pos h, Nat.max_eq_right (by omega)]
  · rw [if_neg h, Nat.max_eq_left (by omega)]
theorem cJ9_min {a b d : Nat} {M : am_Mem} {Q : am_Post} (ha : a < 2147483648) (hb : b < 2147483648) : am_call (d + 1) mJ9_min [.int (nI a), .int (nI b)] M Q ↔ Q (some (.int (nI (min a b)))) M := by
  simp (disch := omega) only [eJ9_min, sJ9_min_0, sJ9_min_1, sJ9_min_2, sJ9_min_5, sJ9_min_6, sJ9_min_9, sJ9_min_10, am_k1_int, am_k1_ref, am_k1_none, am_cats_nil, am_cats_int, am_cats_ref, am_cats_long, Option.toList_some, Option.toList_none, List.singleton_append, List.nil_append, List.cons_append, true_and, and_true, if_true, if_false, va_rf, ↓reduceIte, Nat.reduceAdd, Nat.reduceMul, Nat.reduceSub, Nat.reduceLT, Nat.reduceLeDiff, Nat.reduceEqDiff, Nat.zero_le, Nat.add_zero, Nat.le_refl, nI_add, mul_nI, lt_nI, le_nI, eq_nI, bnd_nI, ci_nI, decide_eq_true_eq, decide_true, decide_false, Bool.true_or, Bool.or_true, Bool.or_false, Bool.false_or, not_true_eq_false, not_false_eq_true, Bool.false_eq_true, false_and, and_false, and_self]
  by_cases h : b < a
  · rw [if_pos h, Nat.min_eq_right (by omega)]
  · rw [if_neg h, Nat.min_eq_left (by omega)]
