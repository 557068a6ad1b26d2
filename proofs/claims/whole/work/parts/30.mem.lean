/-! the cells behind the constructors: their kinds, and the references in them (by program) -/
def am_shT : am_Sh := [(6, 0), (4, 0), (8, 120), (5, 0), (8, 4), (8, 4), (8, 4), (8, 6), (8, 6), (8, 6), (8, 6), (5, 0), (8, 4), (8, 4), (8, 4), (8, 6), (8, 6), (8, 6), (8, 6), (3, 0), (8, 4), (8, 24), (1, 0), (11, 10), (3, 0), (8, 4), (8, 24), (3, 0), (8, 4), (8, 24), (3, 0), (8, 4), (8, 24), (3, 0), (8, 4), (8, 24), (3, 0), (8, 4), (8, 24), (3, 0), (8, 4), (8, 24), (3, 0), (8, 4), (8, 24), (3, 0), (8, 4), (8, 24), (3, 0), (8, 4), (8, 24), (3, 0), (8, 4), (8, 24), (11, 2), (10, 2), (2, 0), (8, 6), (10, 6), (0, 0), (8, 64), (9, 4), (12, 5), (8, 64), (8, 64), (8, 64), (8, 64), (8, 64), (8, 4), (8, 6), (3, 0), (8, 4), (8, 24), (3, 0), (8, 4), (8, 24), (7, 0), (8, 120), (8, 42), (8, 42), (8, 31), (8, 310), (8, 62), (10, 2), (8, 6), (8, 64), (8, 64), (9, 4), (8, 5), (8, 65)]
def am_sh (n : Nat) : am_Sh := (13, n) :: am_shT
/-- where what was told lies, and where what is read is put -/
def am_tb (sw : Bool) : Nat := if sw then 12 else 4
def am_RT (sw : Bool) : Nat → List (Option Nat) := fun a => match a with
  | 1 => [some 2, some (am_tb sw), some (am_tb (!sw)), some 20, some 23, some 55, some 56, some 57, some 60]
  | 2 => [some 3]
  | 4 => [none, some 5, some 6, some 7, none, some 8, some 9, some 10, some 11]
  | 12 => [none, some 13, some 14, some 15, none, some 16, some 17, some 18, some 19]
  | 20 => [none, none, none, some 21, some 22]
  | 23 => [some 24]
  | 24 => [some 25, some 28, some 31, some 34, some 37, some 40, some 43, some 46, some 49, some 52]
  | 25 => [none, none, none, some 26, some 27]
  | 28 => [none, none, none, some 29, some 30]
  | 31 => [none, none, none, some 32, some 33]
  | 34 => [none, none, none, some 35, some 36]
  | 37 => [none, none, none, some 38, some 39]
  | 40 => [none, none, none, some 41, some 42]
  | 43 => [none, none, none, some 44, some 45]
  | 46 => [none, none, none, some 47, some 48]
  | 49 => [none, none, none, some 50, some 51]
  | 52 => [none, none, none, some 53, some 54]
  | 55 => [some 71, some 74]
  | 57 => [some 58, some 59]
  | 60 => [none, none, some 61, some 62, some 63, some 69, some 70]
  | 63 => [some 64, some 65, some 66, some 67, some 68]
  | 71 => [none, none, none, some 72, some 73]
  | 74 => [none, none, none, some 75, some 76]
  | 77 => [none, some 78, none, some 79, some 80, some 81, some 82, none, some 83, some 84, some 85, none, none, none, none, none, some 86, some 87, some 88, some 89, some 90]
  | _ => []
def am_Rf (sw : Bool) : Nat → Nat → Option Nat := fun a j => (am_RT sw a).getD j none
def am_bnd (j : Int32) (n : Nat) : Bool := !(decide (j < 0)) && decide (j.toNatClampNeg < n)
theorem bnd_nI {j n : Nat} (h : j < 2147483648) : am_bnd (nI j) n = decide (j < n) := by
  unfold am_bnd
  rw [nI_clamp h]
  simp [nI_pos h]
theorem ci_nI {j : Nat} (h : j < 2147483648) : (nI j).toNatClampNeg = j := nI_clamp h
theorem lt_nI {a b : Nat} (ha : a < 2147483648) (hb : b < 2147483648) : nI a < nI b ↔ a < b := nI_ltI ha hb
theorem le_nI {a b : Nat} (ha : a < 2147483648) (hb : b < 2147483648) : nI a ≤ nI b ↔ a ≤ b := nI_leI ha hb
theorem eq_nI {a b : Nat} (ha : a < 2147483648) (hb : b < 2147483648) : nI a = nI b ↔ a = b := nI_eq ha hb
theorem mul_nI (a b : Nat) : nI a * nI b = nI (a * b) := pk_mul a b
theorem sub_nI {a b : Nat} (h : b ≤ a) : nI a - nI b = nI (a - b) := pk_sub h
theorem ob_1 (n : Nat) : am_isob (am_sh n) 1 6 = true := rfl
theorem ob_2 (n : Nat) : am_isob (am_sh n) 2 4 = true := rfl
theorem ib_3 (n : Nat) (j : Int32) : am_inb (am_sh n) 3 8 j = am_bnd j 120 := rfl
theorem rd_3 (n : Nat) (j : Int32) : am_rd (am_sh n) 3 j = am_bnd j 120 := Bool.or_false _
theorem al_3 (n : Nat) : am_len (am_sh n) 3 8 = 120 := rfl
theorem fs_3 (n : Nat) : ((am_sh n)[3]?).map Prod.fst = some 8 := rfl
theorem ob_4 (n : Nat) : am_isob (am_sh n) 4 5 = true := rfl
theorem ib_5 (n : Nat) (j : Int32) : am_inb (am_sh n) 5 8 j = am_bnd j 4 := rfl
theorem rd_5 (n : Nat) (j : Int32) : am_rd (am_sh n) 5 j = am_bnd j 4 := Bool.or_false _
theorem al_5 (n : Nat) : am_len (am_sh n) 5 8 = 4 := rfl
theorem fs_5 (n : Nat) : ((am_sh n)[5]?).map Prod.fst = some 8 := rfl
theorem ib_6 (n : Nat) (j : Int32) : am_inb (am_sh n) 6 8 j = am_bnd j 4 := rfl
theorem rd_6 (n : Nat) (j : Int32) : am_rd (am_sh n) 6 j = am_bnd j 4 := Bool.or_false _
theorem al_6 (n : Nat) : am_len (am_sh n) 6 8 = 4 := rfl
theorem fs_6 (n : Nat) : ((am_sh n)[6]?).map Prod.fst = some 8 := rfl
theorem ib_7 (n : Nat) (j : Int32) : am_inb (am_sh n) 7 8 j = am_bnd j 4 := rfl
theorem rd_7 (n : Nat) (j : Int32) : am_rd (am_sh n) 7 j = am_bnd j 4 := Bool.or_false _
theorem al_7 (n : Nat) : am_len (am_sh n) 7 8 = 4 := rfl
theorem fs_7 (n : Nat) : ((am_sh n)[7]?).map Prod.fst = some 8 := rfl
theorem ib_8 (n : Nat) (j : Int32) : am_inb (am_sh n) 8 8 j = am_bnd j 6 := rfl
theorem rd_8 (n : Nat) (j : Int32) : am_rd (am_sh n) 8 j = am_bnd j 6 := Bool.or_false _
theorem al_8 (n : Nat) : am_len (am_sh n) 8 8 = 6 := rfl
theorem fs_8 (n : Nat) : ((am_sh n)[8]?).map Prod.fst = some 8 := rfl
theorem ib_9 (n : Nat) (j : Int32) : am_inb (am_sh n) 9 8 j = am_bnd j 6 := rfl
theorem rd_9 (n : Nat) (j : Int32) : am_rd (am_sh n) 9 j = am_bnd j 6 := Bool.or_false _
theorem al_9 (n : Nat) : am_len (am_sh n) 9 8 = 6 := rfl
theorem fs_9 (n : Nat) : ((am_sh n)[9]?).map Prod.fst = some 8 := rfl
theorem ib_10 (n : Nat) (j : Int32) : am_inb (am_sh n) 10 8 j = am_bnd j 6 := rfl
theorem rd_10 (n : Nat) (j : Int32) : am_rd (am_sh n) 10 j = am_bnd j 6 := Bool.or_false _
theorem al_10 (n : Nat) : am_len (am_sh n) 10 8 = 6 := rfl
theorem fs_10 (n : Nat) : ((am_sh n)[10]?).map Prod.fst = some 8 := rfl
theorem ib_11 (n : Nat) (j : Int32) : am_inb (am_sh n) 11 8 j = am_bnd j 6 := rfl
theorem rd_11 (n : Nat) (j : Int32) : am_rd (am_sh n) 11 j = am_bnd j 6 := Bool.or_false _
theorem al_11 (n : Nat) : am_len (am_sh n) 11 8 = 6 := rfl
theorem fs_11 (n : Nat) : ((am_sh n)[11]?).map Prod.fst = some 8 := rfl
theorem ob_12 (n : Nat) : am_isob (am_sh n) 12 5 = true := rfl
theorem ib_13 (n : Nat) (j : Int32) : am_inb (am_sh n) 13 8 j = am_bnd j 4 := rfl
theorem rd_13 (n : Nat) (j : Int32) : am_rd (am_sh n) 13 j = am_bnd j 4 := Bool.or_false _
theorem al_13 (n : Nat) : am_len (am_sh n) 13 8 = 4 := rfl
theorem fs_13 (n : Nat) : ((am_sh n)[13]?).map Prod.fst = some 8 := rfl
theorem ib_14 (n : Nat) (j : Int32) : am_inb (am_sh n) 14 8 j = am_bnd j 4 := rfl
theorem rd_14 (n : Nat) (j : Int32) : am_rd (am_sh n) 14 j = am_bnd j 4 := Bool.or_false _
theorem al_14 (n : Nat) : am_len (am_sh n) 14 8 = 4 := rfl
theorem fs_14 (n : Nat) : ((am_sh n)[14]?).map Prod.fst = some 8 := rfl
theorem ib_15 (n : Nat) (j : Int32) : am_inb (am_sh n) 15 8 j = am_bnd j 4 := rfl
theorem rd_15 (n : Nat) (j : Int32) : am_rd (am_sh n) 15 j = am_bnd j 4 := Bool.or_false _
theorem al_15 (n : Nat) : am_len (am_sh n) 15 8 = 4 := rfl
theorem fs_15 (n : Nat) : ((am_sh n)[15]?).map Prod.fst = some 8 := rfl
theorem ib_16 (n : Nat) (j : Int32) : am_inb (am_sh n) 16 8 j = am_bnd j 6 := rfl
theorem rd_16 (n : Nat) (j : Int32) : am_rd (am_sh n) 16 j = am_bnd j 6 := Bool.or_false _
theorem al_16 (n : Nat) : am_len (am_sh n) 16 8 = 6 := rfl
theorem fs_16 (n : Nat) : ((am_sh n)[16]?).map Prod.fst = some 8 := rfl
theorem ib_17 (n : Nat) (j : Int32) : am_inb (am_sh n) 17 8 j = am_bnd j 6 := rfl
theorem rd_17 (n : Nat) (j : Int32) : am_rd (am_sh n) 17 j = am_bnd j 6 := Bool.or_false _
theorem al_17 (n : Nat) : am_len (am_sh n) 17 8 = 6 := rfl
theorem fs_17 (n : Nat) : ((am_sh n)[17]?).map Prod.fst = some 8 := rfl
theorem ib_18 (n : Nat) (j : Int32) : am_inb (am_sh n) 18 8 j = am_bnd j 6 := rfl
theorem rd_18 (n : Nat) (j : Int32) : am_rd (am_sh n) 18 j = am_bnd j 6 := Bool.or_false _
theorem al_18 (n : Nat) : am_len (am_sh n) 18 8 = 6 := rfl
theorem fs_18 (n : Nat) : ((am_sh n)[18]?).map Prod.fst = some 8 := rfl
theorem ib_19 (n : Nat) (j : Int32) : am_inb (am_sh n) 19 8 j = am_bnd j 6 := rfl
theorem rd_19 (n : Nat) (j : Int32) : am_rd (am_sh n) 19 j = am_bnd j 6 := Bool.or_false _
theorem al_19 (n : Nat) : am_len (am_sh n) 19 8 = 6 := rfl
theorem fs_19 (n : Nat) : ((am_sh n)[19]?).map Prod.fst = some 8 := rfl
theorem ob_20 (n : Nat) : am_isob (am_sh n) 20 3 = true := rfl
theorem ib_21 (n : Nat) (j : Int32) : am_inb (am_sh n) 21 8 j = am_bnd j 4 := rfl
theorem rd_21 (n : Nat) (j : Int32) : am_rd (am_sh n) 21 j = am_bnd j 4 := Bool.or_false _
theorem al_21 (n : Nat) : am_len (am_sh n) 21 8 = 4 := rfl
theorem fs_21 (n : Nat) : ((am_sh n)[21]?).map Prod.fst = some 8 := rfl
theorem ib_22 (n : Nat) (j : Int32) : am_inb (am_sh n) 22 8 j = am_bnd j 24 := rfl
theorem rd_22 (n : Nat) (j : Int32) : am_rd (am_sh n) 22 j = am_bnd j 24 := Bool.or_false _
theorem al_22 (n : Nat) : am_len (am_sh n) 22 8 = 24 := rfl
theorem fs_22 (n : Nat) : ((am_sh n)[22]?).map Prod.fst = some 8 := rfl
theorem ob_23 (n : Nat) : am_isob (am_sh n) 23 1 = true := rfl
theorem ib_24 (n : Nat) (j : Int32) : am_inb (am_sh n) 24 11 j = am_bnd j 10 := rfl
theorem ix_24 (n : Nat) (j : Int32) : am_inb (am_sh n) 24 12 j = false := by simp [am_inb, am_len, am_sh, am_shT]
theorem ob_25 (n : Nat) : am_isob (am_sh n) 25 3 = true := rfl
theorem ib_26 (n : Nat) (j : Int32) : am_inb (am_sh n) 26 8 j = am_bnd j 4 := rfl
theorem rd_26 (n : Nat) (j : Int32) : am_rd (am_sh n) 26 j = am_bnd j 4 := Bool.or_false _
theorem al_26 (n : Nat) : am_len (am_sh n) 26 8 = 4 := rfl
theorem fs_26 (n : Nat) : ((am_sh n)[26]?).map Prod.fst = some 8 := rfl
theorem ib_27 (n : Nat) (j : Int32) : am_inb (am_sh n) 27 8 j = am_bnd j 24 := rfl
theorem rd_27 (n : Nat) (j : Int32) : am_rd (am_sh n) 27 j = am_bnd j 24 := Bool.or_false _
theorem al_27 (n : Nat) : am_len (am_sh n) 27 8 = 24 := rfl
theorem fs_27 (n : Nat) : ((am_sh n)[27]?).map Prod.fst = some 8 := rfl
theorem ob_28 (n : Nat) : am_isob (am_sh n) 28 3 = true := rfl
theorem ib_29 (n : Nat) (j : Int32) : am_inb (am_sh n) 29 8 j = am_bnd j 4 := rfl
theorem rd_29 (n : Nat) (j : Int32) : am_rd (am_sh n) 29 j = am_bnd j 4 := Bool.or_false _
theorem al_29 (n : Nat) : am_len (am_sh n) 29 8 = 4 := rfl
theorem fs_29 (n : Nat) : ((am_sh n)[29]?).map Prod.fst = some 8 := rfl
theorem ib_30 (n : Nat) (j : Int32) : am_inb (am_sh n) 30 8 j = am_bnd j 24 := rfl
theorem rd_30 (n : Nat) (j : Int32) : am_rd (am_sh n) 30 j = am_bnd j 24 := Bool.or_false _
theorem al_30 (n : Nat) : am_len (am_sh n) 30 8 = 24 := rfl
theorem fs_30 (n : Nat) : ((am_sh n)[30]?).map Prod.fst = some 8 := rfl
theorem ob_31 (n : Nat) : am_isob (am_sh n) 31 3 = true := rfl
theorem ib_32 (n : Nat) (j : Int32) : am_inb (am_sh n) 32 8 j = am_bnd j 4 := rfl
theorem rd_32 (n : Nat) (j : Int32) : am_rd (am_sh n) 32 j = am_bnd j 4 := Bool.or_false _
theorem al_32 (n : Nat) : am_len (am_sh n) 32 8 = 4 := rfl
theorem fs_32 (n : Nat) : ((am_sh n)[32]?).map Prod.fst = some 8 := rfl
theorem ib_33 (n : Nat) (j : Int32) : am_inb (am_sh n) 33 8 j = am_bnd j 24 := rfl
theorem rd_33 (n : Nat) (j : Int32) : am_rd (am_sh n) 33 j = am_bnd j 24 := Bool.or_false _
theorem al_33 (n : Nat) : am_len (am_sh n) 33 8 = 24 := rfl
theorem fs_33 (n : Nat) : ((am_sh n)[33]?).map Prod.fst = some 8 := rfl
theorem ob_34 (n : Nat) : am_isob (am_sh n) 34 3 = true := rfl
theorem ib_35 (n : Nat) (j : Int32) : am_inb (am_sh n) 35 8 j = am_bnd j 4 := rfl
theorem rd_35 (n : Nat) (j : Int32) : am_rd (am_sh n) 35 j = am_bnd j 4 := Bool.or_false _
theorem al_35 (n : Nat) : am_len (am_sh n) 35 8 = 4 := rfl
theorem fs_35 (n : Nat) : ((am_sh n)[35]?).map Prod.fst = some 8 := rfl
theorem ib_36 (n : Nat) (j : Int32) : am_inb (am_sh n) 36 8 j = am_bnd j 24 := rfl
theorem rd_36 (n : Nat) (j : Int32) : am_rd (am_sh n) 36 j = am_bnd j 24 := Bool.or_false _
theorem al_36 (n : Nat) : am_len (am_sh n) 36 8 = 24 := rfl
theorem fs_36 (n : Nat) : ((am_sh n)[36]?).map Prod.fst = some 8 := rfl
theorem ob_37 (n : Nat) : am_isob (am_sh n) 37 3 = true := rfl
theorem ib_38 (n : Nat) (j : Int32) : am_inb (am_sh n) 38 8 j = am_bnd j 4 := rfl
theorem rd_38 (n : Nat) (j : Int32) : am_rd (am_sh n) 38 j = am_bnd j 4 := Bool.or_false _
theorem al_38 (n : Nat) : am_len (am_sh n) 38 8 = 4 := rfl
theorem fs_38 (n : Nat) : ((am_sh n)[38]?).map Prod.fst = some 8 := rfl
theorem ib_39 (n : Nat) (j : Int32) : am_inb (am_sh n) 39 8 j = am_bnd j 24 := rfl
theorem rd_39 (n : Nat) (j : Int32) : am_rd (am_sh n) 39 j = am_bnd j 24 := Bool.or_false _
theorem al_39 (n : Nat) : am_len (am_sh n) 39 8 = 24 := rfl
theorem fs_39 (n : Nat) : ((am_sh n)[39]?).map Prod.fst = some 8 := rfl
theorem ob_40 (n : Nat) : am_isob (am_sh n) 40 3 = true := rfl
theorem ib_41 (n : Nat) (j : Int32) : am_inb (am_sh n) 41 8 j = am_bnd j 4 := rfl
theorem rd_41 (n : Nat) (j : Int32) : am_rd (am_sh n) 41 j = am_bnd j 4 := Bool.or_false _
theorem al_41 (n : Nat) : am_len (am_sh n) 41 8 = 4 := rfl
theorem fs_41 (n : Nat) : ((am_sh n)[41]?).map Prod.fst = some 8 := rfl
theorem ib_42 (n : Nat) (j : Int32) : am_inb (am_sh n) 42 8 j = am_bnd j 24 := rfl
theorem rd_42 (n : Nat) (j : Int32) : am_rd (am_sh n) 42 j = am_bnd j 24 := Bool.or_false _
theorem al_42 (n : Nat) : am_len (am_sh n) 42 8 = 24 := rfl
theorem fs_42 (n : Nat) : ((am_sh n)[42]?).map Prod.fst = some 8 := rfl
theorem ob_43 (n : Nat) : am_isob (am_sh n) 43 3 = true := rfl
theorem ib_44 (n : Nat) (j : Int32) : am_inb (am_sh n) 44 8 j = am_bnd j 4 := rfl
theorem rd_44 (n : Nat) (j : Int32) : am_rd (am_sh n) 44 j = am_bnd j 4 := Bool.or_false _
theorem al_44 (n : Nat) : am_len (am_sh n) 44 8 = 4 := rfl
theorem fs_44 (n : Nat) : ((am_sh n)[44]?).map Prod.fst = some 8 := rfl
theorem ib_45 (n : Nat) (j : Int32) : am_inb (am_sh n) 45 8 j = am_bnd j 24 := rfl
theorem rd_45 (n : Nat) (j : Int32) : am_rd (am_sh n) 45 j = am_bnd j 24 := Bool.or_false _
theorem al_45 (n : Nat) : am_len (am_sh n) 45 8 = 24 := rfl
theorem fs_45 (n : Nat) : ((am_sh n)[45]?).map Prod.fst = some 8 := rfl
theorem ob_46 (n : Nat) : am_isob (am_sh n) 46 3 = true := rfl
theorem ib_47 (n : Nat) (j : Int32) : am_inb (am_sh n) 47 8 j = am_bnd j 4 := rfl
theorem rd_47 (n : Nat) (j : Int32) : am_rd (am_sh n) 47 j = am_bnd j 4 := Bool.or_false _
theorem al_47 (n : Nat) : am_len (am_sh n) 47 8 = 4 := rfl
theorem fs_47 (n : Nat) : ((am_sh n)[47]?).map Prod.fst = some 8 := rfl
theorem ib_48 (n : Nat) (j : Int32) : am_inb (am_sh n) 48 8 j = am_bnd j 24 := rfl
theorem rd_48 (n : Nat) (j : Int32) : am_rd (am_sh n) 48 j = am_bnd j 24 := Bool.or_false _
theorem al_48 (n : Nat) : am_len (am_sh n) 48 8 = 24 := rfl
theorem fs_48 (n : Nat) : ((am_sh n)[48]?).map Prod.fst = some 8 := rfl
theorem ob_49 (n : Nat) : am_isob (am_sh n) 49 3 = true := rfl
theorem ib_50 (n : Nat) (j : Int32) : am_inb (am_sh n) 50 8 j = am_bnd j 4 := rfl
theorem rd_50 (n : Nat) (j : Int32) : am_rd (am_sh n) 50 j = am_bnd j 4 := Bool.or_false _
theorem al_50 (n : Nat) : am_len (am_sh n) 50 8 = 4 := rfl
theorem fs_50 (n : Nat) : ((am_sh n)[50]?).map Prod.fst = some 8 := rfl
theorem ib_51 (n : Nat) (j : Int32) : am_inb (am_sh n) 51 8 j = am_bnd j 24 := rfl
theorem rd_51 (n : Nat) (j : Int32) : am_rd (am_sh n) 51 j = am_bnd j 24 := Bool.or_false _
theorem al_51 (n : Nat) : am_len (am_sh n) 51 8 = 24 := rfl
theorem fs_51 (n : Nat) : ((am_sh n)[51]?).map Prod.fst = some 8 := rfl
theorem ob_52 (n : Nat) : am_isob (am_sh n) 52 3 = true := rfl
theorem ib_53 (n : Nat) (j : Int32) : am_inb (am_sh n) 53 8 j = am_bnd j 4 := rfl
theorem rd_53 (n : Nat) (j : Int32) : am_rd (am_sh n) 53 j = am_bnd j 4 := Bool.or_false _
theorem al_53 (n : Nat) : am_len (am_sh n) 53 8 = 4 := rfl
theorem fs_53 (n : Nat) : ((am_sh n)[53]?).map Prod.fst = some 8 := rfl
theorem ib_54 (n : Nat) (j : Int32) : am_inb (am_sh n) 54 8 j = am_bnd j 24 := rfl
theorem rd_54 (n : Nat) (j : Int32) : am_rd (am_sh n) 54 j = am_bnd j 24 := Bool.or_false _
theorem al_54 (n : Nat) : am_len (am_sh n) 54 8 = 24 := rfl
theorem fs_54 (n : Nat) : ((am_sh n)[54]?).map Prod.fst = some 8 := rfl
theorem ib_55 (n : Nat) (j : Int32) : am_inb (am_sh n) 55 11 j = am_bnd j 2 := rfl
theorem ix_55 (n : Nat) (j : Int32) : am_inb (am_sh n) 55 12 j = false := by simp [am_inb, am_len, am_sh, am_shT]
theorem ib_56 (n : Nat) (j : Int32) : am_inb (am_sh n) 56 10 j = am_bnd j 2 := rfl
theorem ob_57 (n : Nat) : am_isob (am_sh n) 57 2 = true := rfl
theorem ib_58 (n : Nat) (j : Int32) : am_inb (am_sh n) 58 8 j = am_bnd j 6 := rfl
theorem rd_58 (n : Nat) (j : Int32) : am_rd (am_sh n) 58 j = am_bnd j 6 := Bool.or_false _
theorem al_58 (n : Nat) : am_len (am_sh n) 58 8 = 6 := rfl
theorem fs_58 (n : Nat) : ((am_sh n)[58]?).map Prod.fst = some 8 := rfl
theorem ib_59 (n : Nat) (j : Int32) : am_inb (am_sh n) 59 10 j = am_bnd j 6 := rfl
theorem ob_60 (n : Nat) : am_isob (am_sh n) 60 0 = true := rfl
theorem ib_61 (n : Nat) (j : Int32) : am_inb (am_sh n) 61 8 j = am_bnd j 64 := rfl
theorem rd_61 (n : Nat) (j : Int32) : am_rd (am_sh n) 61 j = am_bnd j 64 := Bool.or_false _
theorem al_61 (n : Nat) : am_len (am_sh n) 61 8 = 64 := rfl
theorem fs_61 (n : Nat) : ((am_sh n)[61]?).map Prod.fst = some 8 := rfl
theorem ib_62 (n : Nat) (j : Int32) : am_inb (am_sh n) 62 9 j = am_bnd j 4 := rfl
theorem ib_63 (n : Nat) (j : Int32) : am_inb (am_sh n) 63 12 j = am_bnd j 5 := rfl
theorem ix_63 (n : Nat) (j : Int32) : am_inb (am_sh n) 63 11 j = false := by simp [am_inb, am_len, am_sh, am_shT]
theorem ib_64 (n : Nat) (j : Int32) : am_inb (am_sh n) 64 8 j = am_bnd j 64 := rfl
theorem rd_64 (n : Nat) (j : Int32) : am_rd (am_sh n) 64 j = am_bnd j 64 := Bool.or_false _
theorem al_64 (n : Nat) : am_len (am_sh n) 64 8 = 64 := rfl
theorem fs_64 (n : Nat) : ((am_sh n)[64]?).map Prod.fst = some 8 := rfl
theorem ib_65 (n : Nat) (j : Int32) : am_inb (am_sh n) 65 8 j = am_bnd j 64 := rfl
theorem rd_65 (n : Nat) (j : Int32) : am_rd (am_sh n) 65 j = am_bnd j 64 := Bool.or_false _
theorem al_65 (n : Nat) : am_len (am_sh n) 65 8 = 64 := rfl
theorem fs_65 (n : Nat) : ((am_sh n)[65]?).map Prod.fst = some 8 := rfl
theorem ib_66 (n : Nat) (j : Int32) : am_inb (am_sh n) 66 8 j = am_bnd j 64 := rfl
theorem rd_66 (n : Nat) (j : Int32) : am_rd (am_sh n) 66 j = am_bnd j 64 := Bool.or_false _
theorem al_66 (n : Nat) : am_len (am_sh n) 66 8 = 64 := rfl
theorem fs_66 (n : Nat) : ((am_sh n)[66]?).map Prod.fst = some 8 := rfl
theorem ib_67 (n : Nat) (j : Int32) : am_inb (am_sh n) 67 8 j = am_bnd j 64 := rfl
theorem rd_67 (n : Nat) (j : Int32) : am_rd (am_sh n) 67 j = am_bnd j 64 := Bool.or_false _
theorem al_67 (n : Nat) : am_len (am_sh n) 67 8 = 64 := rfl
theorem fs_67 (n : Nat) : ((am_sh n)[67]?).map Prod.fst = some 8 := rfl
theorem ib_68 (n : Nat) (j : Int32) : am_inb (am_sh n) 68 8 j = am_bnd j 64 := rfl
theorem rd_68 (n : Nat) (j : Int32) : am_rd (am_sh n) 68 j = am_bnd j 64 := Bool.or_false _
theorem al_68 (n : Nat) : am_len (am_sh n) 68 8 = 64 := rfl
theorem fs_68 (n : Nat) : ((am_sh n)[68]?).map Prod.fst = some 8 := rfl
theorem ib_69 (n : Nat) (j : Int32) : am_inb (am_sh n) 69 8 j = am_bnd j 4 := rfl
theorem rd_69 (n : Nat) (j : Int32) : am_rd (am_sh n) 69 j = am_bnd j 4 := Bool.or_false _
theorem al_69 (n : Nat) : am_len (am_sh n) 69 8 = 4 := rfl
theorem fs_69 (n : Nat) : ((am_sh n)[69]?).map Prod.fst = some 8 := rfl
theorem ib_70 (n : Nat) (j : Int32) : am_inb (am_sh n) 70 8 j = am_bnd j 6 := rfl
theorem rd_70 (n : Nat) (j : Int32) : am_rd (am_sh n) 70 j = am_bnd j 6 := Bool.or_false _
theorem al_70 (n : Nat) : am_len (am_sh n) 70 8 = 6 := rfl
theorem fs_70 (n : Nat) : ((am_sh n)[70]?).map Prod.fst = some 8 := rfl
theorem ob_71 (n : Nat) : am_isob (am_sh n) 71 3 = true := rfl
theorem ib_72 (n : Nat) (j : Int32) : am_inb (am_sh n) 72 8 j = am_bnd j 4 := rfl
theorem rd_72 (n : Nat) (j : Int32) : am_rd (am_sh n) 72 j = am_bnd j 4 := Bool.or_false _
theorem al_72 (n : Nat) : am_len (am_sh n) 72 8 = 4 := rfl
theorem fs_72 (n : Nat) : ((am_sh n)[72]?).map Prod.fst = some 8 := rfl
theorem ib_73 (n : Nat) (j : Int32) : am_inb (am_sh n) 73 8 j = am_bnd j 24 := rfl
theorem rd_73 (n : Nat) (j : Int32) : am_rd (am_sh n) 73 j = am_bnd j 24 := Bool.or_false _
theorem al_73 (n : Nat) : am_len (am_sh n) 73 8 = 24 := rfl
theorem fs_73 (n : Nat) : ((am_sh n)[73]?).map Prod.fst = some 8 := rfl
theorem ob_74 (n : Nat) : am_isob (am_sh n) 74 3 = true := rfl
theorem ib_75 (n : Nat) (j : Int32) : am_inb (am_sh n) 75 8 j = am_bnd j 4 := rfl
theorem rd_75 (n : Nat) (j : Int32) : am_rd (am_sh n) 75 j = am_bnd j 4 := Bool.or_false _
theorem al_75 (n : Nat) : am_len (am_sh n) 75 8 = 4 := rfl
theorem fs_75 (n : Nat) : ((am_sh n)[75]?).map Prod.fst = some 8 := rfl
theorem ib_76 (n : Nat) (j : Int32) : am_inb (am_sh n) 76 8 j = am_bnd j 24 := rfl
theorem rd_76 (n : Nat) (j : Int32) : am_rd (am_sh n) 76 j = am_bnd j 24 := Bool.or_false _
theorem al_76 (n : Nat) : am_len (am_sh n) 76 8 = 24 := rfl
theorem fs_76 (n : Nat) : ((am_sh n)[76]?).map Prod.fst = some 8 := rfl
theorem ob_77 (n : Nat) : am_isob (am_sh n) 77 7 = true := rfl
theorem ib_78 (n : Nat) (j : Int32) : am_inb (am_sh n) 78 8 j = am_bnd j 120 := rfl
theorem rd_78 (n : Nat) (j : Int32) : am_rd (am_sh n) 78 j = am_bnd j 120 := Bool.or_false _
theorem al_78 (n : Nat) : am_len (am_sh n) 78 8 = 120 := rfl
theorem fs_78 (n : Nat) : ((am_sh n)[78]?).map Prod.fst = some 8 := rfl
theorem ib_79 (n : Nat) (j : Int32) : am_inb (am_sh n) 79 8 j = am_bnd j 42 := rfl
theorem rd_79 (n : Nat) (j : Int32) : am_rd (am_sh n) 79 j = am_bnd j 42 := Bool.or_false _
theorem al_79 (n : Nat) : am_len (am_sh n) 79 8 = 42 := rfl
theorem fs_79 (n : Nat) : ((am_sh n)[79]?).map Prod.fst = some 8 := rfl
theorem ib_80 (n : Nat) (j : Int32) : am_inb (am_sh n) 80 8 j = am_bnd j 42 := rfl
theorem rd_80 (n : Nat) (j : Int32) : am_rd (am_sh n) 80 j = am_bnd j 42 := Bool.or_false _
theorem al_80 (n : Nat) : am_len (am_sh n) 80 8 = 42 := rfl
theorem fs_80 (n : Nat) : ((am_sh n)[80]?).map Prod.fst = some 8 := rfl
theorem ib_81 (n : Nat) (j : Int32) : am_inb (am_sh n) 81 8 j = am_bnd j 31 := rfl
theorem rd_81 (n : Nat) (j : Int32) : am_rd (am_sh n) 81 j = am_bnd j 31 := Bool.or_false _
theorem al_81 (n : Nat) : am_len (am_sh n) 81 8 = 31 := rfl
theorem fs_81 (n : Nat) : ((am_sh n)[81]?).map Prod.fst = some 8 := rfl
theorem ib_82 (n : Nat) (j : Int32) : am_inb (am_sh n) 82 8 j = am_bnd j 310 := rfl
theorem rd_82 (n : Nat) (j : Int32) : am_rd (am_sh n) 82 j = am_bnd j 310 := Bool.or_false _
theorem al_82 (n : Nat) : am_len (am_sh n) 82 8 = 310 := rfl
theorem fs_82 (n : Nat) : ((am_sh n)[82]?).map Prod.fst = some 8 := rfl
theorem ib_83 (n : Nat) (j : Int32) : am_inb (am_sh n) 83 8 j = am_bnd j 62 := rfl
theorem rd_83 (n : Nat) (j : Int32) : am_rd (am_sh n) 83 j = am_bnd j 62 := Bool.or_false _
theorem al_83 (n : Nat) : am_len (am_sh n) 83 8 = 62 := rfl
theorem fs_83 (n : Nat) : ((am_sh n)[83]?).map Prod.fst = some 8 := rfl
theorem ib_84 (n : Nat) (j : Int32) : am_inb (am_sh n) 84 10 j = am_bnd j 2 := rfl
theorem ib_85 (n : Nat) (j : Int32) : am_inb (am_sh n) 85 8 j = am_bnd j 6 := rfl
theorem rd_85 (n : Nat) (j : Int32) : am_rd (am_sh n) 85 j = am_bnd j 6 := Bool.or_false _
theorem al_85 (n : Nat) : am_len (am_sh n) 85 8 = 6 := rfl
theorem fs_85 (n : Nat) : ((am_sh n)[85]?).map Prod.fst = some 8 := rfl
theorem ib_86 (n : Nat) (j : Int32) : am_inb (am_sh n) 86 8 j = am_bnd j 64 := rfl
theorem rd_86 (n : Nat) (j : Int32) : am_rd (am_sh n) 86 j = am_bnd j 64 := Bool.or_false _
theorem al_86 (n : Nat) : am_len (am_sh n) 86 8 = 64 := rfl
theorem fs_86 (n : Nat) : ((am_sh n)[86]?).map Prod.fst = some 8 := rfl
theorem ib_87 (n : Nat) (j : Int32) : am_inb (am_sh n) 87 8 j = am_bnd j 64 := rfl
theorem rd_87 (n : Nat) (j : Int32) : am_rd (am_sh n) 87 j = am_bnd j 64 := Bool.or_false _
theorem al_87 (n : Nat) : am_len (am_sh n) 87 8 = 64 := rfl
theorem fs_87 (n : Nat) : ((am_sh n)[87]?).map Prod.fst = some 8 := rfl
theorem ib_88 (n : Nat) (j : Int32) : am_inb (am_sh n) 88 9 j = am_bnd j 4 := rfl
theorem ib_89 (n : Nat) (j : Int32) : am_inb (am_sh n) 89 8 j = am_bnd j 5 := rfl
theorem rd_89 (n : Nat) (j : Int32) : am_rd (am_sh n) 89 j = am_bnd j 5 := Bool.or_false _
theorem al_89 (n : Nat) : am_len (am_sh n) 89 8 = 5 := rfl
theorem fs_89 (n : Nat) : ((am_sh n)[89]?).map Prod.fst = some 8 := rfl
theorem ib_90 (n : Nat) (j : Int32) : am_inb (am_sh n) 90 8 j = am_bnd j 65 := rfl
theorem rd_90 (n : Nat) (j : Int32) : am_rd (am_sh n) 90 j = am_bnd j 65 := Bool.or_false _
theorem al_90 (n : Nat) : am_len (am_sh n) 90 8 = 65 := rfl
theorem fs_90 (n : Nat) : ((am_sh n)[90]?).map Prod.fst = some 8 := rfl
theorem rf_1_0 (sw : Bool) : am_Rf sw 1 0 = some 2 := rfl
theorem rf_1_1 (sw : Bool) : am_Rf sw 1 1 = some (am_tb sw) := rfl
theorem rf_1_2 (sw : Bool) : am_Rf sw 1 2 = some (am_tb (!sw)) := rfl
theorem rf_1_3 (sw : Bool) : am_Rf sw 1 3 = some 20 := rfl
theorem rf_1_4 (sw : Bool) : am_Rf sw 1 4 = some 23 := rfl
theorem rf_1_5 (sw : Bool) : am_Rf sw 1 5 = some 55 := rfl
theorem rf_1_6 (sw : Bool) : am_Rf sw 1 6 = some 56 := rfl
theorem rf_1_7 (sw : Bool) : am_Rf sw 1 7 = some 57 := rfl
theorem rf_1_8 (sw : Bool) : am_Rf sw 1 8 = some 60 := rfl
theorem rf_2_0 (sw : Bool) : am_Rf sw 2 0 = some 3 := rfl
theorem rf_4_1 (sw : Bool) : am_Rf sw 4 1 = some 5 := rfl
theorem rf_4_2 (sw : Bool) : am_Rf sw 4 2 = some 6 := rfl
theorem rf_4_3 (sw : Bool) : am_Rf sw 4 3 = some 7 := rfl
theorem rf_4_5 (sw : Bool) : am_Rf sw 4 5 = some 8 := rfl
theorem rf_4_6 (sw : Bool) : am_Rf sw 4 6 = some 9 := rfl
theorem rf_4_7 (sw : Bool) : am_Rf sw 4 7 = some 10 := rfl
theorem rf_4_8 (sw : Bool) : am_Rf sw 4 8 = some 11 := rfl
theorem rf_12_1 (sw : Bool) : am_Rf sw 12 1 = some 13 := rfl
theorem rf_12_2 (sw : Bool) : am_Rf sw 12 2 = some 14 := rfl
theorem rf_12_3 (sw : Bool) : am_Rf sw 12 3 = some 15 := rfl
theorem rf_12_5 (sw : Bool) : am_Rf sw 12 5 = some 16 := rfl
theorem rf_12_6 (sw : Bool) : am_Rf sw 12 6 = some 17 := rfl
theorem rf_12_7 (sw : Bool) : am_Rf sw 12 7 = some 18 := rfl
theorem rf_12_8 (sw : Bool) : am_Rf sw 12 8 = some 19 := rfl
theorem rf_20_3 (sw : Bool) : am_Rf sw 20 3 = some 21 := rfl
theorem rf_20_4 (sw : Bool) : am_Rf sw 20 4 = some 22 := rfl
theorem rf_23_0 (sw : Bool) : am_Rf sw 23 0 = some 24 := rfl
theorem rf_24_0 (sw : Bool) : am_Rf sw 24 0 = some 25 := rfl
theorem rf_24_1 (sw : Bool) : am_Rf sw 24 1 = some 28 := rfl
theorem rf_24_2 (sw : Bool) : am_Rf sw 24 2 = some 31 := rfl
theorem rf_24_3 (sw : Bool) : am_Rf sw 24 3 = some 34 := rfl
theorem rf_24_4 (sw : Bool) : am_Rf sw 24 4 = some 37 := rfl
theorem rf_24_5 (sw : Bool) : am_Rf sw 24 5 = some 40 := rfl
theorem rf_24_6 (sw : Bool) : am_Rf sw 24 6 = some 43 := rfl
theorem rf_24_7 (sw : Bool) : am_Rf sw 24 7 = some 46 := rfl
theorem rf_24_8 (sw : Bool) : am_Rf sw 24 8 = some 49 := rfl
theorem rf_24_9 (sw : Bool) : am_Rf sw 24 9 = some 52 := rfl
theorem rf_25_3 (sw : Bool) : am_Rf sw 25 3 = some 26 := rfl
theorem rf_25_4 (sw : Bool) : am_Rf sw 25 4 = some 27 := rfl
theorem rf_28_3 (sw : Bool) : am_Rf sw 28 3 = some 29 := rfl
theorem rf_28_4 (sw : Bool) : am_Rf sw 28 4 = some 30 := rfl
theorem rf_31_3 (sw : Bool) : am_Rf sw 31 3 = some 32 := rfl
theorem rf_31_4 (sw : Bool) : am_Rf sw 31 4 = some 33 := rfl
theorem rf_34_3 (sw : Bool) : am_Rf sw 34 3 = some 35 := rfl
theorem rf_34_4 (sw : Bool) : am_Rf sw 34 4 = some 36 := rfl
theorem rf_37_3 (sw : Bool) : am_Rf sw 37 3 = some 38 := rfl
theorem rf_37_4 (sw : Bool) : am_Rf sw 37 4 = some 39 := rfl
theorem rf_40_3 (sw : Bool) : am_Rf sw 40 3 = some 41 := rfl
theorem rf_40_4 (sw : Bool) : am_Rf sw 40 4 = some 42 := rfl
theorem rf_43_3 (sw : Bool) : am_Rf sw 43 3 = some 44 := rfl
theorem rf_43_4 (sw : Bool) : am_Rf sw 43 4 = some 45 := rfl
theorem rf_46_3 (sw : Bool) : am_Rf sw 46 3 = some 47 := rfl
theorem rf_46_4 (sw : Bool) : am_Rf sw 46 4 = some 48 := rfl
theorem rf_49_3 (sw : Bool) : am_Rf sw 49 3 = some 50 := rfl
theorem rf_49_4 (sw : Bool) : am_Rf sw 49 4 = some 51 := rfl
theorem rf_52_3 (sw : Bool) : am_Rf sw 52 3 = some 53 := rfl
theorem rf_52_4 (sw : Bool) : am_Rf sw 52 4 = some 54 := rfl
theorem rf_55_0 (sw : Bool) : am_Rf sw 55 0 = some 71 := rfl
theorem rf_55_1 (sw : Bool) : am_Rf sw 55 1 = some 74 := rfl
theorem rf_57_0 (sw : Bool) : am_Rf sw 57 0 = some 58 := rfl
theorem rf_57_1 (sw : Bool) : am_Rf sw 57 1 = some 59 := rfl
theorem rf_60_2 (sw : Bool) : am_Rf sw 60 2 = some 61 := rfl
theorem rf_60_3 (sw : Bool) : am_Rf sw 60 3 = some 62 := rfl
theorem rf_60_4 (sw : Bool) : am_Rf sw 60 4 = some 63 := rfl
theorem rf_60_5 (sw : Bool) : am_Rf sw 60 5 = some 69 := rfl
theorem rf_60_6 (sw : Bool) : am_Rf sw 60 6 = some 70 := rfl
theorem rf_63_0 (sw : Bool) : am_Rf sw 63 0 = some 64 := rfl
theorem rf_63_1 (sw : Bool) : am_Rf sw 63 1 = some 65 := rfl
theorem rf_63_2 (sw : Bool) : am_Rf sw 63 2 = some 66 := rfl
theorem rf_63_3 (sw : Bool) : am_Rf sw 63 3 = some 67 := rfl
theorem rf_63_4 (sw : Bool) : am_Rf sw 63 4 = some 68 := rfl
theorem rf_71_3 (sw : Bool) : am_Rf sw 71 3 = some 72 := rfl
theorem rf_71_4 (sw : Bool) : am_Rf sw 71 4 = some 73 := rfl
theorem rf_74_3 (sw : Bool) : am_Rf sw 74 3 = some 75 := rfl
theorem rf_74_4 (sw : Bool) : am_Rf sw 74 4 = some 76 := rfl
theorem rf_77_1 (sw : Bool) : am_Rf sw 77 1 = some 78 := rfl
theorem rf_77_3 (sw : Bool) : am_Rf sw 77 3 = some 79 := rfl
theorem rf_77_4 (sw : Bool) : am_Rf sw 77 4 = some 80 := rfl
theorem rf_77_5 (sw : Bool) : am_Rf sw 77 5 = some 81 := rfl
theorem rf_77_6 (sw : Bool) : am_Rf sw 77 6 = some 82 := rfl
theorem rf_77_8 (sw : Bool) : am_Rf sw 77 8 = some 83 := rfl
theorem rf_77_9 (sw : Bool) : am_Rf sw 77 9 = some 84 := rfl
theorem rf_77_10 (sw : Bool) : am_Rf sw 77 10 = some 85 := rfl
theorem rf_77_16 (sw : Bool) : am_Rf sw 77 16 = some 86 := rfl
theorem rf_77_17 (sw : Bool) : am_Rf sw 77 17 = some 87 := rfl
theorem rf_77_18 (sw : Bool) : am_Rf sw 77 18 = some 88 := rfl
theorem rf_77_19 (sw : Bool) : am_Rf sw 77 19 = some 89 := rfl
theorem rf_77_20 (sw : Bool) : am_Rf sw 77 20 = some 90 := rfl
theorem tb_t : am_tb true = 12 := rfl
theorem tb_f : am_tb false = 4 := rfl
