/-! bits of longs -/
theorem lsm {s : Nat} (hs : s < 64) : ((((nI s).toInt64 &&& 63) : Int64).toBitVec.smod 64).toNat = s := by
  have key : ∀ s, s < 64 → ((((nI s).toInt64 &&& 63) : Int64).toBitVec.smod 64).toNat = s := by decide +kernel
  exact key s hs
theorem lbit {k s : Nat} (hs : s < 64) : ((lN k >>> ((nI s).toInt64 &&& 63)) &&& lN 1) = if k.testBit s = true then lN 1 else lN 0 := by
  apply Int64.toBitVec_inj.mp
  have h1 : (lN k >>> ((nI s).toInt64 &&& 63)).toBitVec = (BitVec.ofNat 64 k).sshiftRight s := by
    show (BitVec.ofNat 64 k).sshiftRight' _ = _
    rw [BitVec.sshiftRight', lsm hs]
  rw [Int64.toBitVec_and, h1]
  show (BitVec.ofNat 64 k).sshiftRight s &&& 1#64 = _
  apply BitVec.eq_of_getLsbD_eq
  intro i hi
  rw [BitVec.getLsbD_and, BitVec.getLsbD_sshiftRight]
  by_cases h0 : i = 0
  · subst h0
    rw [BitVec.getLsbD_ofNat]
    cases hk : k.testBit s
    · simp [hs, hk]
      rfl
    · simp [hs, hk]
      rfl
  · have : (1#64).getLsbD i = false := by
      rw [BitVec.getLsbD_one]
      simp [h0]
    rw [this, Bool.and_false]
    split
    · exact this.symm
    · show false = (0#64).getLsbD i
      simp
theorem lshl {s : Nat} (hs : s < 64) : lN 1 <<< ((nI s).toInt64 &&& 63) = lN (2 ^ s) := by
  have key : ∀ s, s < 64 → lN 1 <<< ((nI s).toInt64 &&& 63) = lN (2 ^ s) := by decide +kernel
  exact key s hs
theorem lor_lN (a b : Nat) : lN a ||| lN b = lN (a ||| b) := by
  apply Int64.toBitVec_inj.mp
  show BitVec.ofNat 64 a ||| BitVec.ofNat 64 b = BitVec.ofNat 64 (a ||| b)
  apply BitVec.eq_of_toNat_eq
  rw [BitVec.toNat_or, BitVec.toNat_ofNat, BitVec.toNat_ofNat, BitVec.toNat_ofNat]
  exact (Nat.or_mod_two_pow).symm
theorem or_add {a s : Nat} (h : a < 2 ^ s) : a ||| 2 ^ s = a + 2 ^ s := by
  have := Nat.two_pow_add_eq_or_of_lt h 1
  rw [Nat.mul_one] at this
  rw [Nat.or_comm, ← this, Nat.add_comm]
section
variable {tn : Nat → Nat} {e : Nat}
theorem clo_lt : ∀ S, am_clo tn e S < 2 ^ S
  | 0 => by
    show 0 < 1
    decide
  | S + 1 => by
    have := clo_lt S
    have h2 : 2 ^ (S + 1) = 2 * 2 ^ S := Nat.pow_succ'
    show am_clo tn e S + (if am_can tn e S = true then 2 ^ S else 0) < _
    split <;> omega
theorem clo_bit {s : Nat} : ∀ S, s < S → (am_clo tn e S).testBit s = am_can tn e s
  | 0, h => absurd h (by omega)
  | S + 1, h => by
    have hl := clo_lt (tn := tn) (e := e) S
    show (am_clo tn e S + (if am_can tn e S = true then 2 ^ S else 0)).testBit s = _
    by_cases hs : s = S
    · subst hs
      by_cases hc : am_can tn e s = true
      · rw [if_pos hc, Nat.add_comm, Nat.testBit_two_pow_add_eq, Nat.testBit_lt_two_pow hl, hc]
        rfl
      · rw [if_neg hc, Nat.add_zero, Nat.testBit_lt_two_pow hl]
        simpa using hc
    · by_cases hc : am_can tn e S = true
      · rw [if_pos hc, Nat.add_comm, Nat.testBit_two_pow_add_gt (by omega)]
        exact clo_bit S (by omega)
      · rw [if_neg hc, Nat.add_zero]
        exact clo_bit S (by omega)
end
section
variable {n d : Nat} {tn : Nat → Nat} {I : Nat → Nat → Int32} {J : Nat → Nat → Int64} {sw : Bool} {Q : am_Post}
theorem c0_clothes_ {e s k : Nat} (he : e < 4) (hs : s < 64) (hJ : J 62 e = lN k) : am_call (d + 1) m0_clothes [.ref 60, .int (nI e), .int (nI s)] (am_sh n, I, J, am_Rf sw) Q ↔ Q (some (.int (am_bi (k.testBit s)))) (am_sh n, I, J, am_Rf sw) := by
  have c1 : lg_cmp (lN 1) (lN 1) = nI 0 := by decide +kernel
  have c0 : ¬ lg_cmp (lN 0) (lN 1) = nI 0 := by decide +kernel
  have hb := lbit (k := k) hs
  cases hd : k.testBit s with
  | true =>
    rw [hd] at hb
    simp only [if_true] at hb
    simp (disch := omega) only [e0_clothes, s0_clothes_0, s0_clothes_1, s0_clothes_4, s0_clothes_5, s0_clothes_6, s0_clothes_7, s0_clothes_8, s0_clothes_9, s0_clothes_10, s0_clothes_11, s0_clothes_12, s0_clothes_15, s0_clothes_16, s0_clothes_19, s0_clothes_20, am_k1_int, am_k1_ref, am_k1_none, am_cats_nil, am_cats_int, am_cats_ref, am_cats_long, Option.toList_some, Option.toList_none, List.singleton_append, List.nil_append, List.cons_append, true_and, and_true, if_true, if_false, va_rf, ↓reduceIte, Nat.reduceAdd, Nat.reduceMul, Nat.reduceSub, Nat.reduceLT, Nat.reduceLeDiff, Nat.reduceEqDiff, Nat.zero_le, Nat.add_zero, Nat.le_refl, nI_add, mul_nI, lt_nI, le_nI, eq_nI, bnd_nI, ci_nI, decide_eq_true_eq, decide_true, decide_false, Bool.true_or, Bool.or_true, Bool.or_false, Bool.false_or, not_true_eq_false, not_false_eq_true, Bool.false_eq_true, Bool.false_and, Bool.true_and, Bool.and_true, Bool.and_false, Bool.not_true, Bool.not_false, false_and, and_false, and_self, ob_60, rf_60_2, rf_60_3, rf_60_4, rf_60_5, rf_60_6, ib_62, he, hJ, hb, c1, bi_t, ret_0, ret_1]
  | false =>
    rw [hd] at hb
    simp only [Bool.false_eq_true, if_false] at hb
    simp (disch := omega) only [e0_clothes, s0_clothes_0, s0_clothes_1, s0_clothes_4, s0_clothes_5, s0_clothes_6, s0_clothes_7, s0_clothes_8, s0_clothes_9, s0_clothes_10, s0_clothes_11, s0_clothes_12, s0_clothes_15, s0_clothes_16, s0_clothes_19, s0_clothes_20, am_k1_int, am_k1_ref, am_k1_none, am_cats_nil, am_cats_int, am_cats_ref, am_cats_long, Option.toList_some, Option.toList_none, List.singleton_append, List.nil_append, List.cons_append, true_and, and_true, if_true, if_false, va_rf, ↓reduceIte, Nat.reduceAdd, Nat.reduceMul, Nat.reduceSub, Nat.reduceLT, Nat.reduceLeDiff, Nat.reduceEqDiff, Nat.zero_le, Nat.add_zero, Nat.le_refl, nI_add, mul_nI, lt_nI, le_nI, eq_nI, bnd_nI, ci_nI, decide_eq_true_eq, decide_true, decide_false, Bool.true_or, Bool.or_true, Bool.or_false, Bool.false_or, not_true_eq_false, not_false_eq_true, Bool.false_eq_true, Bool.false_and, Bool.true_and, Bool.and_true, Bool.and_false, Bool.not_true, Bool.not_false, false_and, and_false, and_self, ob_60, rf_60_2, rf_60_3, rf_60_4, rf_60_5, rf_60_6, ib_62, he, hJ, hb, c0, bi_f, ret_0, ret_1]
theorem c0_clothes {e s : Nat} (hO : ar_told tn) (hC : ar_C tn I J) (he : e < tn 0) (hs : s < 2 ^ tn 1) : am_call (d + 1) m0_clothes [.ref 60, .int (nI e), .int (nI s)] (am_sh n, I, J, am_Rf sw) Q ↔ Q (some (.int (am_bi (am_can tn e s)))) (am_sh n, I, J, am_Rf sw) := by
  have o1 := hO.1
  have p6 := (pow2_6 hO.2.1).1
  rw [c0_clothes_ (by omega) (by omega) (hC.2.2.2.1 e he), clo_bit _ hs]
end
