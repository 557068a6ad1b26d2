/-! the constructors: cells and references as they come (by program) -/
def am_sK (n k : Nat) : am_Sh := (am_sh n).take k
def am_Wl : List (Nat × Nat × Nat) := [(2, 0, 3), (1, 0, 2), (4, 1, 5), (4, 2, 6), (4, 3, 7), (4, 5, 8), (4, 6, 9), (4, 7, 10), (4, 8, 11), (1, 1, 4), (12, 1, 13), (12, 2, 14), (12, 3, 15), (12, 5, 16), (12, 6, 17), (12, 7, 18), (12, 8, 19), (1, 2, 12), (20, 3, 21), (20, 4, 22), (1, 3, 20), (23, 0, 24), (25, 3, 26), (25, 4, 27), (24, 0, 25), (28, 3, 29), (28, 4, 30), (24, 1, 28), (31, 3, 32), (31, 4, 33), (24, 2, 31), (34, 3, 35), (34, 4, 36), (24, 3, 34), (37, 3, 38), (37, 4, 39), (24, 4, 37), (40, 3, 41), (40, 4, 42), (24, 5, 40), (43, 3, 44), (43, 4, 45), (24, 6, 43), (46, 3, 47), (46, 4, 48), (24, 7, 46), (49, 3, 50), (49, 4, 51), (24, 8, 49), (52, 3, 53), (52, 4, 54), (24, 9, 52), (1, 4, 23), (1, 5, 55), (1, 6, 56), (57, 0, 58), (57, 1, 59), (1, 7, 57), (60, 2, 61), (60, 3, 62), (63, 0, 64), (63, 1, 65), (63, 2, 66), (63, 3, 67), (63, 4, 68), (60, 4, 63), (60, 5, 69), (60, 6, 70), (1, 8, 60), (71, 3, 72), (71, 4, 73), (55, 0, 71), (74, 3, 75), (74, 4, 76), (55, 1, 74), (77, 1, 78), (77, 3, 79), (77, 4, 80), (77, 5, 81), (77, 6, 82), (77, 8, 83), (77, 9, 84), (77, 10, 85), (77, 16, 86), (77, 17, 87), (77, 18, 88), (77, 19, 89), (77, 20, 90)]
def am_RS : Nat → Nat → Nat → Option Nat
  | 0 => fun _ _ => none
  | i + 1 => am_up (am_RS i) (am_Wl.getD i (0, 0, 0)).1 (am_Wl.getD i (0, 0, 0)).2.1 (some (am_Wl.getD i (0, 0, 0)).2.2)
def am_RSb (k : Nat) : Nat → Bool
  | 0 => true
  | i + 1 => am_RSb k i && decide ((am_Wl.getD i (0, 0, 0)).1 < k)
theorem cutRS {k : Nat} : ∀ i, am_RSb k i = true → am_cut (am_RS i) k none = am_RS i
  | 0, _ => by
    funext a j
    show (if a < k then none else none) = none
    split <;> rfl
  | i + 1, h => by
    have h' : (am_RSb k i && decide ((am_Wl.getD i (0, 0, 0)).1 < k)) = true := h
    simp only [Bool.and_eq_true, decide_eq_true_eq] at h'
    have ih := cutRS i h'.1
    funext a j
    have e := congrFun (congrFun ih a) j
    show (if a < k then (if a = _ ∧ j = _ then _ else am_RS i a j) else none) = (if a = _ ∧ j = _ then _ else am_RS i a j)
    by_cases g : a = (am_Wl.getD i (0, 0, 0)).1 ∧ j = (am_Wl.getD i (0, 0, 0)).2.1
    · rw [if_pos g, if_pos (by omega)]
    · rw [if_neg g]
      exact e
def am_RSc (k : Nat) : Nat → Bool
  | 0 => true
  | i + 1 => am_RSc k i && decide ((am_Wl.getD i (0, 0, 0)).1 ≠ k)
theorem am_RSn {k : Nat} : ∀ i, am_RSc k i = true → ∀ j, am_RS i k j = none
  | 0, _, _ => rfl
  | i + 1, h, j => by
    have h' : (am_RSc k i && decide ((am_Wl.getD i (0, 0, 0)).1 ≠ k)) = true := h
    simp only [Bool.and_eq_true, decide_eq_true_eq] at h'
    show (if k = (am_Wl.getD i (0, 0, 0)).1 ∧ j = _ then _ else am_RS i k j) = none
    rw [if_neg (fun q => h'.2 q.1.symm)]
    exact am_RSn i h'.1 j
def am_RSd : Nat → Bool
  | 0 => true
  | i + 1 => am_RSd i && decide ((am_Wl.getD i (0, 0, 0)).1 < 91 ∧ (am_Wl.getD i (0, 0, 0)).2.1 < 21)
theorem am_RSo {a j : Nat} (h : 91 ≤ a ∨ 21 ≤ j) : ∀ i, am_RSd i = true → am_RS i a j = none
  | 0, _ => rfl
  | i + 1, h9 => by
    have h' : (am_RSd i && decide ((am_Wl.getD i (0, 0, 0)).1 < 91 ∧ (am_Wl.getD i (0, 0, 0)).2.1 < 21)) = true := h9
    simp only [Bool.and_eq_true, decide_eq_true_eq] at h'
    show (if a = (am_Wl.getD i (0, 0, 0)).1 ∧ j = (am_Wl.getD i (0, 0, 0)).2.1 then _ else am_RS i a j) = none
    rw [if_neg (by omega)]
    exact am_RSo h i h'.1
theorem tkK {n k a : Nat} (h : a < k) : (am_sK n k)[a]? = (am_sh n)[a]? := List.getElem?_take_of_lt h
theorem lnK {n k : Nat} (h : k ≤ 91) : (am_sK n k).length = k := by
  have e : (am_sh n).length = 91 := rfl
  unfold am_sK
  rw [List.length_take, e]
  omega
theorem obK {n k a ci : Nat} (h : a < k) : am_isob (am_sK n k) a ci = am_isob (am_sh n) a ci := by
  unfold am_isob
  rw [tkK h]
theorem leK {n k a kd : Nat} (h : a < k) : am_len (am_sK n k) a kd = am_len (am_sh n) a kd := by
  unfold am_len
  rw [tkK h]
theorem ibK {n k a kd : Nat} {j : Int32} (h : a < k) : am_inb (am_sK n k) a kd j = am_inb (am_sh n) a kd j := by
  unfold am_inb
  rw [leK h]
theorem rdK {n k a : Nat} {j : Int32} (h : a < k) (h0 : 0 < k) : am_rd (am_sK n k) a j = am_rd (am_sh n) a j := by
  unfold am_rd
  rw [ibK h, ibK h0]
theorem fsK {n k a : Nat} (h : a < k) : ((am_sK n k)[a]?).map Prod.fst = ((am_sh n)[a]?).map Prod.fst := by
  rw [tkK h]
theorem ap_1 (n : Nat) : am_sK n 1 ++ [(6, 0)] = am_sK n 2 := rfl
theorem cr_1 : am_cut (am_RS 0) 1 none = am_RS 0 := cutRS 0 (by decide +kernel)
theorem ap_2 (n : Nat) : am_sK n 2 ++ [(4, 0)] = am_sK n 3 := rfl
theorem cr_2 : am_cut (am_RS 0) 2 none = am_RS 0 := cutRS 0 (by decide +kernel)
theorem ap_3 (n : Nat) : am_sK n 3 ++ [(8, 120)] = am_sK n 4 := rfl
theorem cr_3 : am_cut (am_RS 0) 3 none = am_RS 0 := cutRS 0 (by decide +kernel)
theorem us_0 : am_up (am_RS 0) 2 0 (some 3) = am_RS 1 := rfl
theorem us_1 : am_up (am_RS 1) 1 0 (some 2) = am_RS 2 := rfl
theorem ap_4 (n : Nat) : am_sK n 4 ++ [(5, 0)] = am_sK n 5 := rfl
theorem cr_4 : am_cut (am_RS 2) 4 none = am_RS 2 := cutRS 2 (by decide +kernel)
theorem ap_5 (n : Nat) : am_sK n 5 ++ [(8, 4)] = am_sK n 6 := rfl
theorem cr_5 : am_cut (am_RS 2) 5 none = am_RS 2 := cutRS 2 (by decide +kernel)
theorem us_2 : am_up (am_RS 2) 4 1 (some 5) = am_RS 3 := rfl
theorem ap_6 (n : Nat) : am_sK n 6 ++ [(8, 4)] = am_sK n 7 := rfl
theorem cr_6 : am_cut (am_RS 3) 6 none = am_RS 3 := cutRS 3 (by decide +kernel)
theorem us_3 : am_up (am_RS 3) 4 2 (some 6) = am_RS 4 := rfl
theorem ap_7 (n : Nat) : am_sK n 7 ++ [(8, 4)] = am_sK n 8 := rfl
theorem cr_7 : am_cut (am_RS 4) 7 none = am_RS 4 := cutRS 4 (by decide +kernel)
theorem us_4 : am_up (am_RS 4) 4 3 (some 7) = am_RS 5 := rfl
theorem ap_8 (n : Nat) : am_sK n 8 ++ [(8, 6)] = am_sK n 9 := rfl
theorem cr_8 : am_cut (am_RS 5) 8 none = am_RS 5 := cutRS 5 (by decide +kernel)
theorem us_5 : am_up (am_RS 5) 4 5 (some 8) = am_RS 6 := rfl
theorem ap_9 (n : Nat) : am_sK n 9 ++ [(8, 6)] = am_sK n 10 := rfl
theorem cr_9 : am_cut (am_RS 6) 9 none = am_RS 6 := cutRS 6 (by decide +kernel)
theorem us_6 : am_up (am_RS 6) 4 6 (some 9) = am_RS 7 := rfl
theorem ap_10 (n : Nat) : am_sK n 10 ++ [(8, 6)] = am_sK n 11 := rfl
theorem cr_10 : am_cut (am_RS 7) 10 none = am_RS 7 := cutRS 7 (by decide +kernel)
theorem us_7 : am_up (am_RS 7) 4 7 (some 10) = am_RS 8 := rfl
theorem ap_11 (n : Nat) : am_sK n 11 ++ [(8, 6)] = am_sK n 12 := rfl
theorem cr_11 : am_cut (am_RS 8) 11 none = am_RS 8 := cutRS 8 (by decide +kernel)
theorem us_8 : am_up (am_RS 8) 4 8 (some 11) = am_RS 9 := rfl
theorem us_9 : am_up (am_RS 9) 1 1 (some 4) = am_RS 10 := rfl
theorem ap_12 (n : Nat) : am_sK n 12 ++ [(5, 0)] = am_sK n 13 := rfl
theorem cr_12 : am_cut (am_RS 10) 12 none = am_RS 10 := cutRS 10 (by decide +kernel)
theorem ap_13 (n : Nat) : am_sK n 13 ++ [(8, 4)] = am_sK n 14 := rfl
theorem cr_13 : am_cut (am_RS 10) 13 none = am_RS 10 := cutRS 10 (by decide +kernel)
theorem us_10 : am_up (am_RS 10) 12 1 (some 13) = am_RS 11 := rfl
theorem ap_14 (n : Nat) : am_sK n 14 ++ [(8, 4)] = am_sK n 15 := rfl
theorem cr_14 : am_cut (am_RS 11) 14 none = am_RS 11 := cutRS 11 (by decide +kernel)
theorem us_11 : am_up (am_RS 11) 12 2 (some 14) = am_RS 12 := rfl
theorem ap_15 (n : Nat) : am_sK n 15 ++ [(8, 4)] = am_sK n 16 := rfl
theorem cr_15 : am_cut (am_RS 12) 15 none = am_RS 12 := cutRS 12 (by decide +kernel)
theorem us_12 : am_up (am_RS 12) 12 3 (some 15) = am_RS 13 := rfl
theorem ap_16 (n : Nat) : am_sK n 16 ++ [(8, 6)] = am_sK n 17 := rfl
theorem cr_16 : am_cut (am_RS 13) 16 none = am_RS 13 := cutRS 13 (by decide +kernel)
theorem us_13 : am_up (am_RS 13) 12 5 (some 16) = am_RS 14 := rfl
theorem ap_17 (n : Nat) : am_sK n 17 ++ [(8, 6)] = am_sK n 18 := rfl
theorem cr_17 : am_cut (am_RS 14) 17 none = am_RS 14 := cutRS 14 (by decide +kernel)
theorem us_14 : am_up (am_RS 14) 12 6 (some 17) = am_RS 15 := rfl
theorem ap_18 (n : Nat) : am_sK n 18 ++ [(8, 6)] = am_sK n 19 := rfl
theorem cr_18 : am_cut (am_RS 15) 18 none = am_RS 15 := cutRS 15 (by decide +kernel)
theorem us_15 : am_up (am_RS 15) 12 7 (some 18) = am_RS 16 := rfl
theorem ap_19 (n : Nat) : am_sK n 19 ++ [(8, 6)] = am_sK n 20 := rfl
theorem cr_19 : am_cut (am_RS 16) 19 none = am_RS 16 := cutRS 16 (by decide +kernel)
theorem us_16 : am_up (am_RS 16) 12 8 (some 19) = am_RS 17 := rfl
theorem us_17 : am_up (am_RS 17) 1 2 (some 12) = am_RS 18 := rfl
theorem ap_20 (n : Nat) : am_sK n 20 ++ [(3, 0)] = am_sK n 21 := rfl
theorem cr_20 : am_cut (am_RS 18) 20 none = am_RS 18 := cutRS 18 (by decide +kernel)
theorem ap_21 (n : Nat) : am_sK n 21 ++ [(8, 4)] = am_sK n 22 := rfl
theorem cr_21 : am_cut (am_RS 18) 21 none = am_RS 18 := cutRS 18 (by decide +kernel)
theorem us_18 : am_up (am_RS 18) 20 3 (some 21) = am_RS 19 := rfl
theorem ap_22 (n : Nat) : am_sK n 22 ++ [(8, 24)] = am_sK n 23 := rfl
theorem cr_22 : am_cut (am_RS 19) 22 none = am_RS 19 := cutRS 19 (by decide +kernel)
theorem us_19 : am_up (am_RS 19) 20 4 (some 22) = am_RS 20 := rfl
theorem us_20 : am_up (am_RS 20) 1 3 (some 20) = am_RS 21 := rfl
theorem ap_23 (n : Nat) : am_sK n 23 ++ [(1, 0)] = am_sK n 24 := rfl
theorem cr_23 : am_cut (am_RS 21) 23 none = am_RS 21 := cutRS 21 (by decide +kernel)
theorem ap_24 (n : Nat) : am_sK n 24 ++ [(11, 10)] = am_sK n 25 := rfl
theorem cr_24 : am_cut (am_RS 21) 24 none = am_RS 21 := cutRS 21 (by decide +kernel)
theorem us_21 : am_up (am_RS 21) 23 0 (some 24) = am_RS 22 := rfl
theorem ap_25 (n : Nat) : am_sK n 25 ++ [(3, 0)] = am_sK n 26 := rfl
theorem cr_25 : am_cut (am_RS 22) 25 none = am_RS 22 := cutRS 22 (by decide +kernel)
theorem ap_26 (n : Nat) : am_sK n 26 ++ [(8, 4)] = am_sK n 27 := rfl
theorem cr_26 : am_cut (am_RS 22) 26 none = am_RS 22 := cutRS 22 (by decide +kernel)
theorem us_22 : am_up (am_RS 22) 25 3 (some 26) = am_RS 23 := rfl
theorem ap_27 (n : Nat) : am_sK n 27 ++ [(8, 24)] = am_sK n 28 := rfl
theorem cr_27 : am_cut (am_RS 23) 27 none = am_RS 23 := cutRS 23 (by decide +kernel)
theorem us_23 : am_up (am_RS 23) 25 4 (some 27) = am_RS 24 := rfl
theorem us_24 : am_up (am_RS 24) 24 0 (some 25) = am_RS 25 := rfl
theorem ap_28 (n : Nat) : am_sK n 28 ++ [(3, 0)] = am_sK n 29 := rfl
theorem cr_28 : am_cut (am_RS 25) 28 none = am_RS 25 := cutRS 25 (by decide +kernel)
theorem ap_29 (n : Nat) : am_sK n 29 ++ [(8, 4)] = am_sK n 30 := rfl
theorem cr_29 : am_cut (am_RS 25) 29 none = am_RS 25 := cutRS 25 (by decide +kernel)
theorem us_25 : am_up (am_RS 25) 28 3 (some 29) = am_RS 26 := rfl
theorem ap_30 (n : Nat) : am_sK n 30 ++ [(8, 24)] = am_sK n 31 := rfl
theorem cr_30 : am_cut (am_RS 26) 30 none = am_RS 26 := cutRS 26 (by decide +kernel)
theorem us_26 : am_up (am_RS 26) 28 4 (some 30) = am_RS 27 := rfl
theorem us_27 : am_up (am_RS 27) 24 1 (some 28) = am_RS 28 := rfl
theorem ap_31 (n : Nat) : am_sK n 31 ++ [(3, 0)] = am_sK n 32 := rfl
theorem cr_31 : am_cut (am_RS 28) 31 none = am_RS 28 := cutRS 28 (by decide +kernel)
theorem ap_32 (n : Nat) : am_sK n 32 ++ [(8, 4)] = am_sK n 33 := rfl
theorem cr_32 : am_cut (am_RS 28) 32 none = am_RS 28 := cutRS 28 (by decide +kernel)
theorem us_28 : am_up (am_RS 28) 31 3 (some 32) = am_RS 29 := rfl
theorem ap_33 (n : Nat) : am_sK n 33 ++ [(8, 24)] = am_sK n 34 := rfl
theorem cr_33 : am_cut (am_RS 29) 33 none = am_RS 29 := cutRS 29 (by decide +kernel)
theorem us_29 : am_up (am_RS 29) 31 4 (some 33) = am_RS 30 := rfl
theorem us_30 : am_up (am_RS 30) 24 2 (some 31) = am_RS 31 := rfl
theorem ap_34 (n : Nat) : am_sK n 34 ++ [(3, 0)] = am_sK n 35 := rfl
theorem cr_34 : am_cut (am_RS 31) 34 none = am_RS 31 := cutRS 31 (by decide +kernel)
theorem ap_35 (n : Nat) : am_sK n 35 ++ [(8, 4)] = am_sK n 36 := rfl
theorem cr_35 : am_cut (am_RS 31) 35 none = am_RS 31 := cutRS 31 (by decide +kernel)
theorem us_31 : am_up (am_RS 31) 34 3 (some 35) = am_RS 32 := rfl
theorem ap_36 (n : Nat) : am_sK n 36 ++ [(8, 24)] = am_sK n 37 := rfl
theorem cr_36 : am_cut (am_RS 32) 36 none = am_RS 32 := cutRS 32 (by decide +kernel)
theorem us_32 : am_up (am_RS 32) 34 4 (some 36) = am_RS 33 := rfl
theorem us_33 : am_up (am_RS 33) 24 3 (some 34) = am_RS 34 := rfl
theorem ap_37 (n : Nat) : am_sK n 37 ++ [(3, 0)] = am_sK n 38 := rfl
theorem cr_37 : am_cut (am_RS 34) 37 none = am_RS 34 := cutRS 34 (by decide +kernel)
theorem ap_38 (n : Nat) : am_sK n 38 ++ [(8, 4)] = am_sK n 39 := rfl
theorem cr_38 : am_cut (am_RS 34) 38 none = am_RS 34 := cutRS 34 (by decide +kernel)
theorem us_34 : am_up (am_RS 34) 37 3 (some 38) = am_RS 35 := rfl
theorem ap_39 (n : Nat) : am_sK n 39 ++ [(8, 24)] = am_sK n 40 := rfl
theorem cr_39 : am_cut (am_RS 35) 39 none = am_RS 35 := cutRS 35 (by decide +kernel)
theorem us_35 : am_up (am_RS 35) 37 4 (some 39) = am_RS 36 := rfl
theorem us_36 : am_up (am_RS 36) 24 4 (some 37) = am_RS 37 := rfl
theorem ap_40 (n : Nat) : am_sK n 40 ++ [(3, 0)] = am_sK n 41 := rfl
theorem cr_40 : am_cut (am_RS 37) 40 none = am_RS 37 := cutRS 37 (by decide +kernel)
theorem ap_41 (n : Nat) : am_sK n 41 ++ [(8, 4)] = am_sK n 42 := rfl
theorem cr_41 : am_cut (am_RS 37) 41 none = am_RS 37 := cutRS 37 (by decide +kernel)
theorem us_37 : am_up (am_RS 37) 40 3 (some 41) = am_RS 38 := rfl
theorem ap_42 (n : Nat) : am_sK n 42 ++ [(8, 24)] = am_sK n 43 := rfl
theorem cr_42 : am_cut (am_RS 38) 42 none = am_RS 38 := cutRS 38 (by decide +kernel)
theorem us_38 : am_up (am_RS 38) 40 4 (some 42) = am_RS 39 := rfl
theorem us_39 : am_up (am_RS 39) 24 5 (some 40) = am_RS 40 := rfl
theorem ap_43 (n : Nat) : am_sK n 43 ++ [(3, 0)] = am_sK n 44 := rfl
theorem cr_43 : am_cut (am_RS 40) 43 none = am_RS 40 := cutRS 40 (by decide +kernel)
theorem ap_44 (n : Nat) : am_sK n 44 ++ [(8, 4)] = am_sK n 45 := rfl
theorem cr_44 : am_cut (am_RS 40) 44 none = am_RS 40 := cutRS 40 (by decide +kernel)
theorem us_40 : am_up (am_RS 40) 43 3 (some 44) = am_RS 41 := rfl
theorem ap_45 (n : Nat) : am_sK n 45 ++ [(8, 24)] = am_sK n 46 := rfl
theorem cr_45 : am_cut (am_RS 41) 45 none = am_RS 41 := cutRS 41 (by decide +kernel)
theorem us_41 : am_up (am_RS 41) 43 4 (some 45) = am_RS 42 := rfl
theorem us_42 : am_up (am_RS 42) 24 6 (some 43) = am_RS 43 := rfl
theorem ap_46 (n : Nat) : am_sK n 46 ++ [(3, 0)] = am_sK n 47 := rfl
theorem cr_46 : am_cut (am_RS 43) 46 none = am_RS 43 := cutRS 43 (by decide +kernel)
theorem ap_47 (n : Nat) : am_sK n 47 ++ [(8, 4)] = am_sK n 48 := rfl
theorem cr_47 : am_cut (am_RS 43) 47 none = am_RS 43 := cutRS 43 (by decide +kernel)
theorem us_43 : am_up (am_RS 43) 46 3 (some 47) = am_RS 44 := rfl
theorem ap_48 (n : Nat) : am_sK n 48 ++ [(8, 24)] = am_sK n 49 := rfl
theorem cr_48 : am_cut (am_RS 44) 48 none = am_RS 44 := cutRS 44 (by decide +kernel)
theorem us_44 : am_up (am_RS 44) 46 4 (some 48) = am_RS 45 := rfl
theorem us_45 : am_up (am_RS 45) 24 7 (some 46) = am_RS 46 := rfl
theorem ap_49 (n : Nat) : am_sK n 49 ++ [(3, 0)] = am_sK n 50 := rfl
theorem cr_49 : am_cut (am_RS 46) 49 none = am_RS 46 := cutRS 46 (by decide +kernel)
theorem ap_50 (n : Nat) : am_sK n 50 ++ [(8, 4)] = am_sK n 51 := rfl
theorem cr_50 : am_cut (am_RS 46) 50 none = am_RS 46 := cutRS 46 (by decide +kernel)
theorem us_46 : am_up (am_RS 46) 49 3 (some 50) = am_RS 47 := rfl
theorem ap_51 (n : Nat) : am_sK n 51 ++ [(8, 24)] = am_sK n 52 := rfl
theorem cr_51 : am_cut (am_RS 47) 51 none = am_RS 47 := cutRS 47 (by decide +kernel)
theorem us_47 : am_up (am_RS 47) 49 4 (some 51) = am_RS 48 := rfl
theorem us_48 : am_up (am_RS 48) 24 8 (some 49) = am_RS 49 := rfl
theorem ap_52 (n : Nat) : am_sK n 52 ++ [(3, 0)] = am_sK n 53 := rfl
theorem cr_52 : am_cut (am_RS 49) 52 none = am_RS 49 := cutRS 49 (by decide +kernel)
theorem ap_53 (n : Nat) : am_sK n 53 ++ [(8, 4)] = am_sK n 54 := rfl
theorem cr_53 : am_cut (am_RS 49) 53 none = am_RS 49 := cutRS 49 (by decide +kernel)
theorem us_49 : am_up (am_RS 49) 52 3 (some 53) = am_RS 50 := rfl
theorem ap_54 (n : Nat) : am_sK n 54 ++ [(8, 24)] = am_sK n 55 := rfl
theorem cr_54 : am_cut (am_RS 50) 54 none = am_RS 50 := cutRS 50 (by decide +kernel)
theorem us_50 : am_up (am_RS 50) 52 4 (some 54) = am_RS 51 := rfl
theorem us_51 : am_up (am_RS 51) 24 9 (some 52) = am_RS 52 := rfl
theorem us_52 : am_up (am_RS 52) 1 4 (some 23) = am_RS 53 := rfl
theorem ap_55 (n : Nat) : am_sK n 55 ++ [(11, 2)] = am_sK n 56 := rfl
theorem cr_55 : am_cut (am_RS 53) 55 none = am_RS 53 := cutRS 53 (by decide +kernel)
theorem us_53 : am_up (am_RS 53) 1 5 (some 55) = am_RS 54 := rfl
theorem ap_56 (n : Nat) : am_sK n 56 ++ [(10, 2)] = am_sK n 57 := rfl
theorem cr_56 : am_cut (am_RS 54) 56 none = am_RS 54 := cutRS 54 (by decide +kernel)
theorem us_54 : am_up (am_RS 54) 1 6 (some 56) = am_RS 55 := rfl
theorem ap_57 (n : Nat) : am_sK n 57 ++ [(2, 0)] = am_sK n 58 := rfl
theorem cr_57 : am_cut (am_RS 55) 57 none = am_RS 55 := cutRS 55 (by decide +kernel)
theorem ap_58 (n : Nat) : am_sK n 58 ++ [(8, 6)] = am_sK n 59 := rfl
theorem cr_58 : am_cut (am_RS 55) 58 none = am_RS 55 := cutRS 55 (by decide +kernel)
theorem us_55 : am_up (am_RS 55) 57 0 (some 58) = am_RS 56 := rfl
theorem ap_59 (n : Nat) : am_sK n 59 ++ [(10, 6)] = am_sK n 60 := rfl
theorem cr_59 : am_cut (am_RS 56) 59 none = am_RS 56 := cutRS 56 (by decide +kernel)
theorem us_56 : am_up (am_RS 56) 57 1 (some 59) = am_RS 57 := rfl
theorem us_57 : am_up (am_RS 57) 1 7 (some 57) = am_RS 58 := rfl
theorem ap_60 (n : Nat) : am_sK n 60 ++ [(0, 0)] = am_sK n 61 := rfl
theorem cr_60 : am_cut (am_RS 58) 60 none = am_RS 58 := cutRS 58 (by decide +kernel)
theorem ap_61 (n : Nat) : am_sK n 61 ++ [(8, 64)] = am_sK n 62 := rfl
theorem cr_61 : am_cut (am_RS 58) 61 none = am_RS 58 := cutRS 58 (by decide +kernel)
theorem us_58 : am_up (am_RS 58) 60 2 (some 61) = am_RS 59 := rfl
theorem ap_62 (n : Nat) : am_sK n 62 ++ [(9, 4)] = am_sK n 63 := rfl
theorem cr_62 : am_cut (am_RS 59) 62 none = am_RS 59 := cutRS 59 (by decide +kernel)
theorem us_59 : am_up (am_RS 59) 60 3 (some 62) = am_RS 60 := rfl
theorem ap_63 (n : Nat) : am_sK n 63 ++ (12, 5) :: List.replicate 5 (8, 64) = am_sK n 69 := rfl
theorem cr_63 : am_cut (am_RS 60) 63 none = am_RS 60 := cutRS 60 (by decide +kernel)
theorem mr_63 : am_row (am_RS 60) 63 (fun i => if i < 5 then some (64 + i) else none) = am_RS 65 := by
  have h0 : ∀ j, am_RS 60 63 j = none := am_RSn 60 (by decide +kernel)
  funext a j
  have hx : am_RS 65 a j = if a = 63 ∧ j = 4 then some 68 else if a = 63 ∧ j = 3 then some 67 else if a = 63 ∧ j = 2 then some 66 else if a = 63 ∧ j = 1 then some 65 else if a = 63 ∧ j = 0 then some 64 else am_RS 60 a j := rfl
  rw [hx]
  unfold am_row
  by_cases h : a = 63
  · subst h
    rw [if_pos rfl, h0 j]
    by_cases g : j < 5
    · rcases (show j = 0 ∨ j = 1 ∨ j = 2 ∨ j = 3 ∨ j = 4 by omega) with rfl | rfl | rfl | rfl | rfl <;> rfl
    · show (if j < 5 then some (64 + j) else none) = _
      rw [if_neg g, if_neg (by omega), if_neg (by omega), if_neg (by omega), if_neg (by omega), if_neg (by omega)]
  · rw [if_neg h, if_neg (by omega), if_neg (by omega), if_neg (by omega), if_neg (by omega), if_neg (by omega)]
theorem us_65 : am_up (am_RS 65) 60 4 (some 63) = am_RS 66 := rfl
theorem ap_69 (n : Nat) : am_sK n 69 ++ [(8, 4)] = am_sK n 70 := rfl
theorem cr_69 : am_cut (am_RS 66) 69 none = am_RS 66 := cutRS 66 (by decide +kernel)
theorem us_66 : am_up (am_RS 66) 60 5 (some 69) = am_RS 67 := rfl
theorem ap_70 (n : Nat) : am_sK n 70 ++ [(8, 6)] = am_sK n 71 := rfl
theorem cr_70 : am_cut (am_RS 67) 70 none = am_RS 67 := cutRS 67 (by decide +kernel)
theorem us_67 : am_up (am_RS 67) 60 6 (some 70) = am_RS 68 := rfl
theorem us_68 : am_up (am_RS 68) 1 8 (some 60) = am_RS 69 := rfl
theorem ap_71 (n : Nat) : am_sK n 71 ++ [(3, 0)] = am_sK n 72 := rfl
theorem cr_71 : am_cut (am_RS 69) 71 none = am_RS 69 := cutRS 69 (by decide +kernel)
theorem ap_72 (n : Nat) : am_sK n 72 ++ [(8, 4)] = am_sK n 73 := rfl
theorem cr_72 : am_cut (am_RS 69) 72 none = am_RS 69 := cutRS 69 (by decide +kernel)
theorem us_69 : am_up (am_RS 69) 71 3 (some 72) = am_RS 70 := rfl
theorem ap_73 (n : Nat) : am_sK n 73 ++ [(8, 24)] = am_sK n 74 := rfl
theorem cr_73 : am_cut (am_RS 70) 73 none = am_RS 70 := cutRS 70 (by decide +kernel)
theorem us_70 : am_up (am_RS 70) 71 4 (some 73) = am_RS 71 := rfl
theorem us_71 : am_up (am_RS 71) 55 0 (some 71) = am_RS 72 := rfl
theorem ap_74 (n : Nat) : am_sK n 74 ++ [(3, 0)] = am_sK n 75 := rfl
theorem cr_74 : am_cut (am_RS 72) 74 none = am_RS 72 := cutRS 72 (by decide +kernel)
theorem ap_75 (n : Nat) : am_sK n 75 ++ [(8, 4)] = am_sK n 76 := rfl
theorem cr_75 : am_cut (am_RS 72) 75 none = am_RS 72 := cutRS 72 (by decide +kernel)
theorem us_72 : am_up (am_RS 72) 74 3 (some 75) = am_RS 73 := rfl
theorem ap_76 (n : Nat) : am_sK n 76 ++ [(8, 24)] = am_sK n 77 := rfl
theorem cr_76 : am_cut (am_RS 73) 76 none = am_RS 73 := cutRS 73 (by decide +kernel)
theorem us_73 : am_up (am_RS 73) 74 4 (some 76) = am_RS 74 := rfl
theorem us_74 : am_up (am_RS 74) 55 1 (some 74) = am_RS 75 := rfl
theorem ap_77 (n : Nat) : am_sK n 77 ++ [(7, 0)] = am_sK n 78 := rfl
theorem cr_77 : am_cut (am_RS 75) 77 none = am_RS 75 := cutRS 75 (by decide +kernel)
theorem ap_78 (n : Nat) : am_sK n 78 ++ [(8, 120)] = am_sK n 79 := rfl
theorem cr_78 : am_cut (am_RS 75) 78 none = am_RS 75 := cutRS 75 (by decide +kernel)
theorem us_75 : am_up (am_RS 75) 77 1 (some 78) = am_RS 76 := rfl
theorem ap_79 (n : Nat) : am_sK n 79 ++ [(8, 42)] = am_sK n 80 := rfl
theorem cr_79 : am_cut (am_RS 76) 79 none = am_RS 76 := cutRS 76 (by decide +kernel)
theorem us_76 : am_up (am_RS 76) 77 3 (some 79) = am_RS 77 := rfl
theorem ap_80 (n : Nat) : am_sK n 80 ++ [(8, 42)] = am_sK n 81 := rfl
theorem cr_80 : am_cut (am_RS 77) 80 none = am_RS 77 := cutRS 77 (by decide +kernel)
theorem us_77 : am_up (am_RS 77) 77 4 (some 80) = am_RS 78 := rfl
theorem ap_81 (n : Nat) : am_sK n 81 ++ [(8, 31)] = am_sK n 82 := rfl
theorem cr_81 : am_cut (am_RS 78) 81 none = am_RS 78 := cutRS 78 (by decide +kernel)
theorem us_78 : am_up (am_RS 78) 77 5 (some 81) = am_RS 79 := rfl
theorem ap_82 (n : Nat) : am_sK n 82 ++ [(8, 310)] = am_sK n 83 := rfl
theorem cr_82 : am_cut (am_RS 79) 82 none = am_RS 79 := cutRS 79 (by decide +kernel)
theorem us_79 : am_up (am_RS 79) 77 6 (some 82) = am_RS 80 := rfl
theorem ap_83 (n : Nat) : am_sK n 83 ++ [(8, 62)] = am_sK n 84 := rfl
theorem cr_83 : am_cut (am_RS 80) 83 none = am_RS 80 := cutRS 80 (by decide +kernel)
theorem us_80 : am_up (am_RS 80) 77 8 (some 83) = am_RS 81 := rfl
theorem ap_84 (n : Nat) : am_sK n 84 ++ [(10, 2)] = am_sK n 85 := rfl
theorem cr_84 : am_cut (am_RS 81) 84 none = am_RS 81 := cutRS 81 (by decide +kernel)
theorem us_81 : am_up (am_RS 81) 77 9 (some 84) = am_RS 82 := rfl
theorem ap_85 (n : Nat) : am_sK n 85 ++ [(8, 6)] = am_sK n 86 := rfl
theorem cr_85 : am_cut (am_RS 82) 85 none = am_RS 82 := cutRS 82 (by decide +kernel)
theorem us_82 : am_up (am_RS 82) 77 10 (some 85) = am_RS 83 := rfl
theorem ap_86 (n : Nat) : am_sK n 86 ++ [(8, 64)] = am_sK n 87 := rfl
theorem cr_86 : am_cut (am_RS 83) 86 none = am_RS 83 := cutRS 83 (by decide +kernel)
theorem us_83 : am_up (am_RS 83) 77 16 (some 86) = am_RS 84 := rfl
theorem ap_87 (n : Nat) : am_sK n 87 ++ [(8, 64)] = am_sK n 88 := rfl
theorem cr_87 : am_cut (am_RS 84) 87 none = am_RS 84 := cutRS 84 (by decide +kernel)
theorem us_84 : am_up (am_RS 84) 77 17 (some 87) = am_RS 85 := rfl
theorem ap_88 (n : Nat) : am_sK n 88 ++ [(9, 4)] = am_sK n 89 := rfl
theorem cr_88 : am_cut (am_RS 85) 88 none = am_RS 85 := cutRS 85 (by decide +kernel)
theorem us_85 : am_up (am_RS 85) 77 18 (some 88) = am_RS 86 := rfl
theorem ap_89 (n : Nat) : am_sK n 89 ++ [(8, 5)] = am_sK n 90 := rfl
theorem cr_89 : am_cut (am_RS 86) 89 none = am_RS 86 := cutRS 86 (by decide +kernel)
theorem us_86 : am_up (am_RS 86) 77 19 (some 89) = am_RS 87 := rfl
theorem ap_90 (n : Nat) : am_sK n 90 ++ [(8, 65)] = am_sK n 91 := rfl
theorem cr_90 : am_cut (am_RS 87) 90 none = am_RS 87 := cutRS 87 (by decide +kernel)
theorem us_87 : am_up (am_RS 87) 77 20 (some 90) = am_RS 88 := rfl
theorem rr_0 : am_RS 22 23 0 = some 24 := by decide +kernel
theorem rr_1 : am_RS 25 23 0 = some 24 := by decide +kernel
theorem rr_2 : am_RS 28 23 0 = some 24 := by decide +kernel
theorem rr_3 : am_RS 31 23 0 = some 24 := by decide +kernel
theorem rr_4 : am_RS 34 23 0 = some 24 := by decide +kernel
theorem rr_5 : am_RS 37 23 0 = some 24 := by decide +kernel
theorem rr_6 : am_RS 40 23 0 = some 24 := by decide +kernel
theorem rr_7 : am_RS 43 23 0 = some 24 := by decide +kernel
theorem rr_8 : am_RS 46 23 0 = some 24 := by decide +kernel
theorem rr_9 : am_RS 49 23 0 = some 24 := by decide +kernel
theorem rr_10 : am_RS 69 1 5 = some 55 := by decide +kernel
theorem rr_11 : am_RS 72 1 5 = some 55 := by decide +kernel
theorem rr_12 : am_RS 75 1 1 = some 4 := by decide +kernel
theorem rr_13 : am_RS 75 1 3 = some 20 := by decide +kernel
theorem rr_14 : am_RS 75 1 4 = some 23 := by decide +kernel
theorem rr_15 : am_RS 75 1 6 = some 56 := by decide +kernel
theorem rr_16 : am_RS 75 1 7 = some 57 := by decide +kernel
theorem rr_17 : am_RS 75 1 8 = some 60 := by decide +kernel
theorem rr_18 : am_RS 75 4 1 = some 5 := by decide +kernel
theorem rr_19 : am_RS 75 4 6 = some 9 := by decide +kernel
theorem rr_20 : am_RS 75 20 3 = some 21 := by decide +kernel
theorem rr_21 : am_RS 75 20 4 = some 22 := by decide +kernel
theorem rr_22 : am_RS 75 60 2 = some 61 := by decide +kernel
theorem rr_23 : am_RS 75 60 4 = some 63 := by decide +kernel
theorem rr_24 : am_RS 75 63 0 = some 64 := by decide +kernel
theorem RS_out {a j : Nat} (h : 91 ≤ a ∨ 21 ≤ j) : am_RS 88 a j = none := am_RSo h 88 (by decide +kernel)
theorem RS_end : am_RS 88 = am_Rf false := by
  funext a j
  by_cases h : 91 ≤ a ∨ 21 ≤ j
  · rw [RS_out h]
    have key : ∀ a, a < 91 → (am_RT false a).length ≤ 21 := by decide +kernel
    show none = (am_RT false a).getD j none
    by_cases h2 : 91 ≤ a
    · have e : am_RT false a = [] := by
        unfold am_RT
        split <;> first | omega | rfl
      rw [e]
      rfl
    · have := key a (by omega)
      rw [List.getD_eq_getElem?_getD, List.getElem?_eq_none (by omega)]
      rfl
  · have key : ∀ a, a < 91 → ∀ j, j < 21 → am_RS 88 a j = am_Rf false a j := by decide +kernel
    exact key a (by omega) j (by omega)
theorem sK_end (n : Nat) : am_sK n 91 = am_sh n := rfl
