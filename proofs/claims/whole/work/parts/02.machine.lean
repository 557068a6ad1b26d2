/-! THE PLAIN MACHINE: the bytecode over cells that are numbered 0, 1, .. (0: the script), with rows of ints, longs and references apart; a call is a step. -/
/-- a method: its class's number, name, bytes, locals, answer -/
abbrev am_MI : Type := Nat × MethodName × ByteArray × Nat × Option FieldType
/-- the cells' kinds: (number of the class, 0), or (8 int[], 9 long[], 10 boolean[], 11 Standing[], 12 int[][], 13 the script; length) -/
abbrev am_Sh : Type := List (Nat × Nat)
abbrev am_Mem : Type := am_Sh × (Nat → Nat → Int32) × (Nat → Nat → Int64) × (Nat → Nat → Option Nat)
abbrev am_Lo : Type := List (Option Value)
abbrev am_Cf : Type := Nat × am_Lo × List Value × am_Mem
abbrev am_Post : Type := Option Value → am_Mem → Prop
abbrev am_Rs : Type := am_Cf ⊕ ((Option Value × am_Mem) ⊕ (am_MI × List Value × am_Cf))
def am_up {α : Type} (f : Nat → Nat → α) (k j : Nat) (v : α) : Nat → Nat → α := fun a b => if a = k ∧ b = j then v else f a b
def am_row {α : Type} (f : Nat → Nat → α) (k : Nat) (g : Nat → α) : Nat → Nat → α := fun a b => if a = k then g b else f a b
def am_cut {α : Type} (f : Nat → Nat → α) (n : Nat) (z : α) : Nat → Nat → α := fun a b => if a < n then f a b else z
/-- what stands ahead of a local that is stored: a long there is gone -/
def am_k1 : Option Value → Option Value
  | some (.long _) => none
  | some (.double _) => none
  | x => x
def am_st1 (L : am_Lo) (i : Nat) (v : Value) : am_Lo := match i with
  | 0 => L.set 0 (some v)
  | j + 1 => (L.modify j am_k1).set (j + 1) (some v)
def am_st2 (L : am_Lo) (i : Nat) (v : Value) : am_Lo := (am_st1 L i v).set (i + 1) none
/-- the next instruction -/
def am_go (pc : Nat) (L : am_Lo) (st : List Value) (M : am_Mem) : Option am_Rs := some (.inl (pc, L, st, M))
def am_jump (pc : Nat) (off : Int) (L : am_Lo) (st : List Value) (M : am_Mem) : Option am_Rs := if 0 ≤ (pc : Int) + off then am_go ((pc : Int) + off).toNat L st M else none
def am_br (P : Prop) [Decidable P] (pc n : Nat) (off : Int) (L : am_Lo) (st : List Value) (M : am_Mem) : Option am_Rs := if 0 ≤ (pc : Int) + off then (if P then am_go ((pc : Int) + off).toNat L st M else am_go (pc + n) L st M) else none
def am_hold (cd : ClassFile.Cond) (x y : Int32) : Prop := match cd with
  | .eq => x = y
  | .ne => ¬ x = y
  | .lt => x < y
  | .ge => y ≤ x
  | .gt => y < x
  | .le => x ≤ y
def am_cmp (c : ClassFile.Cond) (x y : Int32) (pc n : Nat) (off : Int) (L : am_Lo) (st : List Value) (M : am_Mem) : Option am_Rs := match c with
  | .eq => am_br (x = y) pc n off L st M
  | .ne => am_br (¬ x = y) pc n off L st M
  | .lt => am_br (x < y) pc n off L st M
  | .ge => am_br (y ≤ x) pc n off L st M
  | .gt => am_br (y < x) pc n off L st M
  | .le => am_br (x ≤ y) pc n off L st M
/-- types of the fields: 0 int, 1 long, 2 a reference, 3 boolean -/
def am_code : FieldType → Nat
  | .int => 0
  | .long => 1
  | .boolean => 3
  | _ => 2
def am_ty (ci k : Nat) : FieldType := match ci with
  | 0 => tyX0 k
  | 1 => tyX1 k
  | 2 => tyX2 k
  | 3 => tyX3 k
  | 4 => tyX4 k
  | 5 => tyX5 k
  | 6 => tyX6 k
  | _ => tyX7 k
def am_fty (ci k : Nat) : Nat := am_code (am_ty ci k)
def am_nf (ci : Nat) : Nat := match ci with
  | 0 => 7
  | 1 => 3
  | 2 => 3
  | 3 => 5
  | 4 => 6
  | 5 => 13
  | 6 => 10
  | _ => 21
def am_TX (ci : Nat) : u_T := match ci with
  | 0 => TX0
  | 1 => TX1
  | 2 => TX2
  | 3 => TX3
  | 4 => TX4
  | 5 => TX5
  | 6 => TX6
  | _ => TX7
def am_cn (ci : Nat) : String := match ci with
  | 0 => RX0
  | 1 => RX1
  | 2 => RX2
  | 3 => RX3
  | 4 => RX4
  | 5 => RX5
  | 6 => RX6
  | 7 => RX7
  | 8 => RL
  | 9 => RJ9
  | _ => RJ6
def am_len (sh : am_Sh) (a k : Nat) : Nat := match sh[a]? with
  | some (k', n) => if k' = k then n else 0
  | none => 0
def am_inb (sh : am_Sh) (a k : Nat) (i : Int32) : Bool := !(decide (i < 0)) && decide (i.toNatClampNeg < am_len sh a k)
def am_isob (sh : am_Sh) (a ci : Nat) : Bool := (sh[a]?).map Prod.fst == some ci
def am_cats (st : List Value) : Nat := (st.map fun v => v.category).sum
def m6_init : am_MI := (6, yX6_init, cX6_init, 2, none)
def m4_init : am_MI := (4, yX4_init, cX4_init, 1, none)
def m5_init : am_MI := (5, yX5_init, cX5_init, 1, none)
def m3_init : am_MI := (3, yX3_init, cX3_init, 1, none)
def m1_init : am_MI := (1, yX1_init, cX1_init, 2, none)
def m2_init : am_MI := (2, yX2_init, cX2_init, 1, none)
def m0_init : am_MI := (0, yX0_init, cX0_init, 1, none)
def m6_beginAnew : am_MI := (6, yX6_beginAnew, cX6_beginAnew, 2, none)
def m3_begin : am_MI := (3, yX3_begin, cX3_begin, 3, none)
def m3_loseAll : am_MI := (3, yX3_loseAll, cX3_loseAll, 3, none)
def m0_reckon : am_MI := (0, yX0_reckon, cX0_reckon, 4, none)
def m0_soonestOf : am_MI := (0, yX0_soonestOf, cX0_soonestOf, 7, (some .int))
def m5_needsOf : am_MI := (5, yX5_needsOf, cX5_needsOf, 2, (some .int))
def m5_sumOf : am_MI := (5, yX5_sumOf, cX5_sumOf, 5, (some .int))
def mJ9_max : am_MI := (9, yJ9_max_7cf53, cJ9_max_7cf53, 2, (some .int))
def mJ9_min : am_MI := (9, yJ9_min_7cf53, cJ9_min_7cf53, 2, (some .int))
def m0_clothedBy : am_MI := (0, yX0_clothedBy, cX0_clothedBy, 7, (some .long))
def m5_suitsAll : am_MI := (5, yX5_suitsAll, cX5_suitsAll, 4, (some .boolean))
def m5_suits : am_MI := (5, yX5_suits, cX5_suits, 3, (some .boolean))
def m0_mostOf : am_MI := (0, yX0_mostOf, cX0_mostOf, 5, (some .int))
def m0_clothes : am_MI := (0, yX0_clothes, cX0_clothes, 3, (some .boolean))
def mJ6_bitCount : am_MI := (10, yJ6_bitCount_0f7a4, cJ6_bitCount_0f7a4, 1, (some .int))
def m6_type : am_MI := (6, yX6_type, cX6_type, 2, (some .int))
def m4_add : am_MI := (4, yX4_add, cX4_add, 2, (some .boolean))
def m6_clear : am_MI := (6, yX6_clear, cX6_clear, 2, (some .int))
def m6_marsh : am_MI := (6, yX6_marsh, cX6_marsh, 3, (some .int))
def m5_read : am_MI := (5, yX5_read, cX5_read, 3, (some .int))
def m5_unsay : am_MI := (5, yX5_unsay, cX5_unsay, 1, none)
def m4_rewind : am_MI := (4, yX4_rewind, cX4_rewind, 1, none)
def m4_step : am_MI := (4, yX4_step, cX4_step, 2, none)
def m4_isDigit : am_MI := (4, yX4_isDigit, cX4_isDigit, 1, (some .boolean))
def m4_isSign : am_MI := (4, yX4_isSign, cX4_isSign, 1, (some .boolean))
def m5_readItem : am_MI := (5, yX5_readItem, cX5_readItem, 2, (some .boolean))
def m5_readDawn : am_MI := (5, yX5_readDawn, cX5_readDawn, 3, (some .boolean))
def m5_readNumber : am_MI := (5, yX5_readNumber, cX5_readNumber, 3, (some .boolean))
def m5_readItemsEnd : am_MI := (5, yX5_readItemsEnd, cX5_readItemsEnd, 1, (some .boolean))
def m5_readClient : am_MI := (5, yX5_readClient, cX5_readClient, 3, (some .boolean))
def m5_readTen : am_MI := (5, yX5_readTen, cX5_readTen, 2, (some .boolean))
def m5_readCellar : am_MI := (5, yX5_readCellar, cX5_readCellar, 2, (some .boolean))
def m6_ofDawn : am_MI := (6, yX6_ofDawn, cX6_ofDawn, 3, (some .int))
def m6_isDawn : am_MI := (6, yX6_isDawn, cX6_isDawn, 2, (some .boolean))
def m6_client : am_MI := (6, yX6_client, cX6_client, 3, (some .int))
def m6_isClient : am_MI := (6, yX6_isClient, cX6_isClient, 2, (some .boolean))
def m3_heldBy : am_MI := (3, yX3_heldBy, cX3_heldBy, 4, (some .int))
def m3_heldOf : am_MI := (3, yX3_heldOf, cX3_heldOf, 3, (some .int))
def m3_patchesOf : am_MI := (3, yX3_patchesOf, cX3_patchesOf, 4, (some .int))
def m3_isDressed : am_MI := (3, yX3_isDressed, cX3_isDressed, 2, (some .boolean))
def m6_has : am_MI := (6, yX6_has, cX6_has, 3, (some .int))
def m6_now : am_MI := (6, yX6_now, cX6_now, 2, (some .int))
def m6_patchesOfDressed : am_MI := (6, yX6_patchesOfDressed, cX6_patchesOfDressed, 3, (some .int))
def m6_cuts : am_MI := (6, yX6_cuts, cX6_cuts, 3, (some .int))
def m6_mayCut : am_MI := (6, yX6_mayCut, cX6_mayCut, 4, (some .boolean))
def m1_remember : am_MI := (1, yX1_remember, cX1_remember, 2, none)
def m3_become : am_MI := (3, yX3_become, cX3_become, 2, none)
def m3_cut : am_MI := (3, yX3_cut, cX3_cut, 3, none)
def m6_sews : am_MI := (6, yX6_sews, cX6_sews, 2, (some .int))
def m6_maySew : am_MI := (6, yX6_maySew, cX6_maySew, 2, (some .boolean))
def m3_sew : am_MI := (3, yX3_sew, cX3_sew, 3, none)
def m6_dawn : am_MI := (6, yX6_dawn, cX6_dawn, 1, (some .int))
def m3_goBy : am_MI := (3, yX3_goBy, cX3_goBy, 7, (some .int))
def m6_undo : am_MI := (6, yX6_undo, cX6_undo, 1, (some .int))
def m1_recall : am_MI := (1, yX1_recall, cX1_recall, 2, none)
def m6_round : am_MI := (6, yX6_round, cX6_round, 3, (some .int))
def m6_isSet : am_MI := (6, yX6_isSet, cX6_isSet, 2, (some .boolean))
def m0_inOrder : am_MI := (0, yX0_inOrder, cX0_inOrder, 8, (some .int))
def m0_lowestInTime : am_MI := (0, yX0_lowestInTime, cX0_lowestInTime, 6, (some .int))
def m0_leastBehind : am_MI := (0, yX0_leastBehind, cX0_leastBehind, 4, (some .int))
def m5_sewingOf : am_MI := (5, yX5_sewingOf, cX5_sewingOf, 2, (some .int))
def m6_can : am_MI := (6, yX6_can, cX6_can, 3, (some .int))
def m6_plan : am_MI := (6, yX6_plan, cX6_plan, 4, (some .int))
def m0_dawnTold : am_MI := (0, yX0_dawnTold, cX0_dawnTold, 5, (some .int))
def m0_tell : am_MI := (0, yX0_tell, cX0_tell, 8, (some .boolean))
def m0_tellOne : am_MI := (0, yX0_tellOne, cX0_tellOne, 4, (some .boolean))
def m6_ways : am_MI := (6, yX6_ways, cX6_ways, 3, (some .int))
def m6_waysFrom : am_MI := (6, yX6_waysFrom, cX6_waysFrom, 8, (some .int))
def m6_suns : am_MI := (6, yX6_suns, cX6_suns, 7, (some .int))
def m6_chances : am_MI := (6, yX6_chances, cX6_chances, 3, (some .int))
def m6_sharedDivisor : am_MI := (6, yX6_sharedDivisor, cX6_sharedDivisor, 6, (some .int))
def m6_found : am_MI := (6, yX6_found, cX6_found, 3, (some .int))
def m2_add : am_MI := (2, yX2_add, cX2_add, 3, (some .boolean))
def m6_forget : am_MI := (6, yX6_forget, cX6_forget, 2, (some .int))
def m6_from : am_MI := (6, yX6_from, cX6_from, 3, (some .int))
def m2_agreeWith : am_MI := (2, yX2_agreeWith, cX2_agreeWith, 3, (some .boolean))
def m6_look : am_MI := (6, yX6_look, cX6_look, 4, (some .int))
def m6_greaterPart : am_MI := (6, yX6_greaterPart, cX6_greaterPart, 5, (some .int))
def m6_rate : am_MI := (6, yX6_rate, cX6_rate, 3, (some .int))
def m6_rateCoat : am_MI := (6, yX6_rateCoat, cX6_rateCoat, 2, (some .int))
def m6_rateCape : am_MI := (6, yX6_rateCape, cX6_rateCape, 2, (some .int))
def m6_rateGown : am_MI := (6, yX6_rateGown, cX6_rateGown, 2, (some .int))
def m6_rateJudge : am_MI := (6, yX6_rateJudge, cX6_rateJudge, 2, (some .int))
def m6_rateBride : am_MI := (6, yX6_rateBride, cX6_rateBride, 2, (some .int))
def m6_rateShirt : am_MI := (6, yX6_rateShirt, cX6_rateShirt, 2, (some .int))
def m6_keep : am_MI := (6, yX6_keep, cX6_keep, 2, (some .int))
def m6_isImage : am_MI := (6, yX6_isImage, cX6_isImage, 1, (some .boolean))
def m6_back : am_MI := (6, yX6_back, cX6_back, 2, (some .int))
def m6_count : am_MI := (6, yX6_count, cX6_count, 2, (some .int))
def m6_trace : am_MI := (6, yX6_trace, cX6_trace, 1, (some .long))
def m7_init : am_MI := (7, yX7_init, cX7_init, 1, none)
def m7_reads : am_MI := (7, yX7_reads, cX7_reads, 2, (some .boolean))
def m7_token : am_MI := (7, yX7_token, cX7_token, 2, none)
def m7_letterAt : am_MI := (7, yX7_letterAt, cX7_letterAt, 2, (some .int))
def m7_isWord : am_MI := (7, yX7_isWord, cX7_isWord, 1, (some .boolean))
def m7_isDigit : am_MI := (7, yX7_isDigit, cX7_isDigit, 1, (some .boolean))
def m7_in : am_MI := (7, yX7_in, cX7_in, 3, (some .boolean))
def m7_readsItem : am_MI := (7, yX7_readsItem, cX7_readsItem, 3, (some .boolean))
def m7_number : am_MI := (7, yX7_number, cX7_number, 4, (some .boolean))
def m7_once : am_MI := (7, yX7_once, cX7_once, 5, (some .boolean))
def m7_begins : am_MI := (7, yX7_begins, cX7_begins, 2, none)
def m7_type : am_MI := (7, yX7_type, cX7_type, 2, (some .int))
def m7_clear : am_MI := (7, yX7_clear, cX7_clear, 2, (some .int))
def m7_marsh : am_MI := (7, yX7_marsh, cX7_marsh, 1, (some .int))
def m7_ofDawn : am_MI := (7, yX7_ofDawn, cX7_ofDawn, 3, (some .int))
def m7_isDawn : am_MI := (7, yX7_isDawn, cX7_isDawn, 2, (some .boolean))
def m7_client : am_MI := (7, yX7_client, cX7_client, 3, (some .int))
def m7_isClient : am_MI := (7, yX7_isClient, cX7_isClient, 2, (some .boolean))
def m7_yardsOf : am_MI := (7, yX7_yardsOf, cX7_yardsOf, 4, (some .int))
def m7_patches : am_MI := (7, yX7_patches, cX7_patches, 4, (some .int))
def m7_has : am_MI := (7, yX7_has, cX7_has, 3, (some .int))
def m7_now : am_MI := (7, yX7_now, cX7_now, 4, (some .int))
def m7_isOf : am_MI := (7, yX7_isOf, cX7_isOf, 2, (some .boolean))
def m7_cuts : am_MI := (7, yX7_cuts, cX7_cuts, 4, (some .int))
def m7_suits : am_MI := (7, yX7_suits, cX7_suits, 3, (some .boolean))
def m7_keeps : am_MI := (7, yX7_keeps, cX7_keeps, 2, none)
def m7_sews : am_MI := (7, yX7_sews, cX7_sews, 2, (some .int))
def m7_dawn : am_MI := (7, yX7_dawn, cX7_dawn, 6, (some .int))
def m7_undo : am_MI := (7, yX7_undo, cX7_undo, 2, (some .int))
def m7_round : am_MI := (7, yX7_round, cX7_round, 11, (some .int))
def m7_isSet : am_MI := (7, yX7_isSet, cX7_isSet, 2, (some .boolean))
def m7_reckonsSums : am_MI := (7, yX7_reckonsSums, cX7_reckonsSums, 3, none)
def m7_reckons : am_MI := (7, yX7_reckons, cX7_reckons, 8, none)
def m7_ones : am_MI := (7, yX7_ones, cX7_ones, 3, (some .int))
def m7_can : am_MI := (7, yX7_can, cX7_can, 3, (some .int))
def m7_canBy : am_MI := (7, yX7_canBy, cX7_canBy, 5, (some .boolean))
def m7_plan : am_MI := (7, yX7_plan, cX7_plan, 13, (some .int))
def m7_ways : am_MI := (7, yX7_ways, cX7_ways, 7, (some .int))
def m7_suns : am_MI := (7, yX7_suns, cX7_suns, 9, (some .int))
def m7_found : am_MI := (7, yX7_found, cX7_found, 3, (some .int))
def m7_forget : am_MI := (7, yX7_forget, cX7_forget, 2, (some .int))
def m7_from : am_MI := (7, yX7_from, cX7_from, 1, (some .int))
def m7_fromNow : am_MI := (7, yX7_fromNow, cX7_fromNow, 4, (some .int))
def m7_inFog : am_MI := (7, yX7_inFog, cX7_inFog, 4, (some .int))
def m7_look : am_MI := (7, yX7_look, cX7_look, 8, (some .int))
def m7_rate : am_MI := (7, yX7_rate, cX7_rate, 6, (some .int))
def m7_keep : am_MI := (7, yX7_keep, cX7_keep, 3, (some .int))
def m7_back : am_MI := (7, yX7_back, cX7_back, 3, (some .int))
def m7_count : am_MI := (7, yX7_count, cX7_count, 2, (some .int))
def m7_trace : am_MI := (7, yX7_trace, cX7_trace, 1, (some .long))
def mL_law : am_MI := (8, yL_law, cL_law, 4, (some .boolean))
def am_all : List am_MI := [m6_init, m4_init, m5_init, m3_init, m1_init, m2_init, m0_init, m6_beginAnew, m3_begin, m3_loseAll, m0_reckon, m0_soonestOf, m5_needsOf, m5_sumOf, mJ9_max, mJ9_min, m0_clothedBy, m5_suitsAll, m5_suits, m0_mostOf, m0_clothes, mJ6_bitCount, m6_type, m4_add, m6_clear, m6_marsh, m5_read, m5_unsay, m4_rewind, m4_step, m4_isDigit, m4_isSign, m5_readItem, m5_readDawn, m5_readNumber, m5_readItemsEnd, m5_readClient, m5_readTen, m5_readCellar, m6_ofDawn, m6_isDawn, m6_client, m6_isClient, m3_heldBy, m3_heldOf, m3_patchesOf, m3_isDressed, m6_has, m6_now, m6_patchesOfDressed, m6_cuts, m6_mayCut, m1_remember, m3_become, m3_cut, m6_sews, m6_maySew, m3_sew, m6_dawn, m3_goBy, m6_undo, m1_recall, m6_round, m6_isSet, m0_inOrder, m0_lowestInTime, m0_leastBehind, m5_sewingOf, m6_can, m6_plan, m0_dawnTold, m0_tell, m0_tellOne, m6_ways, m6_waysFrom, m6_suns, m6_chances, m6_sharedDivisor, m6_found, m2_add, m6_forget, m6_from, m2_agreeWith, m6_look, m6_greaterPart, m6_rate, m6_rateCoat, m6_rateCape, m6_rateGown, m6_rateJudge, m6_rateBride, m6_rateShirt, m6_keep, m6_isImage, m6_back, m6_count, m6_trace, m7_init, m7_reads, m7_token, m7_letterAt, m7_isWord, m7_isDigit, m7_in, m7_readsItem, m7_number, m7_once, m7_begins, m7_type, m7_clear, m7_marsh, m7_ofDawn, m7_isDawn, m7_client, m7_isClient, m7_yardsOf, m7_patches, m7_has, m7_now, m7_isOf, m7_cuts, m7_suits, m7_keeps, m7_sews, m7_dawn, m7_undo, m7_round, m7_isSet, m7_reckonsSums, m7_reckons, m7_ones, m7_can, m7_canBy, m7_plan, m7_ways, m7_suns, m7_found, m7_forget, m7_from, m7_fromNow, m7_inFog, m7_look, m7_rate, m7_keep, m7_back, m7_count, m7_trace]
def am_flA : List (Nat × Nat × Nat × Nat) := [(4, 9, 4, 0), (4, 15, 4, 1), (6, 69, 4, 1), (4, 19, 4, 2), (4, 22, 4, 3), (5, 66, 4, 3), (4, 38, 4, 4), (5, 59, 4, 4), (4, 25, 4, 5), (5, 98, 4, 5), (0, 30, 5, 0), (5, 69, 5, 0), (6, 149, 5, 0), (5, 9, 5, 1), (3, 28, 5, 1), (0, 72, 5, 1), (6, 91, 5, 1), (5, 15, 5, 2), (6, 95, 5, 2), (5, 18, 5, 3), (0, 75, 5, 3), (6, 98, 5, 3), (0, 37, 5, 4), (5, 37, 5, 4), (6, 146, 5, 4), (5, 21, 5, 5), (6, 107, 5, 5), (5, 24, 5, 6), (0, 93, 5, 6), (6, 110, 5, 6), (5, 27, 5, 7), (6, 113, 5, 7), (5, 30, 5, 8), (0, 62, 5, 8), (6, 116, 5, 8), (5, 33, 5, 9), (0, 78, 5, 9), (6, 173, 5, 9), (5, 72, 5, 10), (6, 176, 5, 10), (5, 75, 5, 11), (5, 79, 5, 12), (3, 18, 3, 0), (6, 133, 3, 0), (3, 22, 3, 1), (6, 136, 3, 1), (3, 25, 3, 2), (6, 139, 3, 2), (3, 9, 3, 3), (6, 101, 3, 3), (3, 15, 3, 4), (1, 11, 1, 0), (1, 18, 1, 1), (1, 26, 1, 2), (6, 81, 1, 2), (2, 9, 2, 0), (2, 15, 2, 1), (2, 19, 2, 2), (6, 84, 2, 2), (0, 36, 0, 0), (0, 40, 0, 1), (0, 9, 0, 2), (6, 188, 0, 2), (0, 15, 0, 3), (0, 21, 0, 4), (6, 198, 0, 4), (0, 24, 0, 5), (0, 27, 0, 6), (6, 12, 6, 0), (6, 19, 6, 1), (6, 23, 6, 2), (6, 29, 6, 3), (6, 36, 6, 4), (6, 40, 6, 5), (6, 44, 6, 6), (6, 51, 6, 7), (6, 58, 6, 8), (6, 260, 6, 9), (7, 154, 7, 0), (7, 7, 7, 1), (7, 62, 7, 2), (7, 13, 7, 3), (7, 16, 7, 4), (7, 19, 7, 5), (7, 22, 7, 6), (7, 102, 7, 7), (7, 25, 7, 8), (7, 28, 7, 9), (7, 32, 7, 10), (7, 105, 7, 11), (7, 66, 7, 12), (7, 83, 7, 13), (7, 73, 7, 14), (7, 86, 7, 15), (7, 35, 7, 16), (7, 38, 7, 17), (7, 41, 7, 18), (7, 45, 7, 19), (7, 48, 7, 20)]
def am_clA : List (Nat × Nat × Nat) := [(8, 7, 6), (6, 9, 4), (6, 16, 5), (6, 26, 3), (6, 33, 1), (1, 9, 3), (6, 48, 2), (6, 55, 0), (0, 19, 12), (8, 10, 7)]
def am_csA : List (Nat × Nat × Int32) := [(10, 265, 1431655765), (10, 266, 858993459), (10, 267, 252645135), (6, 241, (-1000000)), (7, 153, (-1000000))]
def am_cjA : List (Nat × Nat × Int64) := [(6, 264, 10), (6, 266, 100), (6, 268, 1000), (6, 270, 10000), (6, 272, 100000), (7, 158, 11), (7, 160, 101), (7, 162, 1011), (7, 164, 10101), (7, 166, 100001)]
def am_inA : List (Nat × Nat × Nat × am_MI × Nat) := [(8, 9, 2, m6_init, 0), (6, 3, 4, m6_init, 0), (6, 11, 3, m4_init, 0), (4, 3, 4, m6_init, 0), (6, 18, 3, m5_init, 0), (5, 3, 4, m6_init, 0), (6, 28, 3, m3_init, 0), (3, 3, 4, m6_init, 0), (6, 35, 2, m1_init, 0), (1, 3, 4, m6_init, 0), (1, 17, 3, m3_init, 0), (6, 50, 3, m2_init, 0), (2, 3, 4, m6_init, 0), (6, 57, 3, m0_init, 0), (0, 3, 4, m6_init, 0), (6, 62, 0, m6_beginAnew, 0), (6, 77, 0, m3_begin, 1), (3, 33, 5, m6_init, 0), (3, 39, 0, m3_loseAll, 1), (6, 85, 0, m0_reckon, 1), (0, 41, 0, m0_soonestOf, 2), (0, 53, 0, m5_needsOf, 1), (5, 44, 0, m5_sumOf, 2), (0, 57, 1, mJ9_max, 2), (0, 65, 1, mJ9_min, 2), (0, 45, 0, m0_clothedBy, 2), (0, 68, 0, m5_suitsAll, 2), (5, 40, 0, m5_suits, 2), (0, 49, 0, m0_mostOf, 2), (0, 81, 0, m0_clothes, 2), (0, 84, 1, mJ6_bitCount, 1), (8, 13, 0, m6_type, 1), (6, 65, 0, m4_add, 1), (8, 18, 0, m6_clear, 0), (8, 23, 0, m6_marsh, 0), (6, 73, 0, m5_read, 1), (5, 48, 0, m5_unsay, 0), (5, 51, 0, m4_rewind, 0), (5, 56, 0, m4_step, 0), (4, 28, 1, m4_isDigit, 1), (4, 32, 1, mJ9_min, 2), (4, 41, 1, m4_isSign, 1), (5, 62, 0, m5_readItem, 1), (5, 82, 0, m5_readDawn, 1), (5, 94, 1, m5_readNumber, 3), (5, 101, 1, m5_readItemsEnd, 1), (5, 85, 0, m5_readClient, 1), (5, 88, 0, m5_readTen, 1), (5, 91, 0, m5_readCellar, 1), (8, 27, 0, m6_ofDawn, 2), (6, 88, 0, m6_isDawn, 1), (8, 32, 0, m6_client, 2), (6, 104, 0, m6_isClient, 1), (6, 119, 0, m3_heldBy, 1), (3, 43, 0, m3_heldOf, 2), (6, 123, 0, m3_patchesOf, 1), (3, 47, 1, mJ9_max, 2), (6, 126, 0, m3_isDressed, 1), (8, 36, 0, m6_has, 2), (6, 129, 0, m3_heldOf, 2), (8, 40, 0, m6_now, 1), (6, 142, 0, m6_patchesOfDressed, 0), (8, 44, 0, m6_cuts, 2), (6, 152, 0, m6_mayCut, 2), (6, 164, 0, m5_suits, 2), (6, 156, 0, m1_remember, 1), (1, 22, 0, m3_become, 1), (1, 29, 1, mJ9_min, 2), (6, 160, 0, m3_cut, 2), (8, 48, 0, m6_sews, 1), (6, 167, 0, m6_maySew, 1), (6, 170, 0, m3_sew, 2), (8, 52, 0, m6_dawn, 0), (6, 179, 0, m3_goBy, 2), (3, 52, 0, m3_isDressed, 1), (3, 56, 0, m3_heldBy, 1), (8, 56, 0, m6_undo, 0), (6, 182, 0, m1_recall, 1), (8, 60, 0, m6_round, 2), (6, 185, 0, m6_isSet, 1), (6, 191, 0, m0_inOrder, 3), (0, 89, 0, m0_lowestInTime, 4), (0, 96, 0, m0_leastBehind, 3), (0, 100, 0, m5_sewingOf, 1), (8, 64, 0, m6_can, 2), (6, 195, 0, m0_clothes, 2), (8, 68, 0, m6_plan, 2), (6, 202, 0, m0_dawnTold, 3), (0, 103, 0, m0_tell, 4), (0, 107, 0, m0_tellOne, 2), (8, 72, 0, m6_ways, 2), (6, 206, 0, m6_waysFrom, 4), (6, 210, 1, mJ9_min, 2), (8, 76, 0, m6_suns, 3), (6, 215, 1, m6_chances, 3), (6, 218, 1, m6_sharedDivisor, 2), (6, 221, 1, mJ9_max, 2), (8, 81, 0, m6_found, 2), (6, 224, 0, m2_add, 2), (8, 85, 0, m6_forget, 0), (8, 89, 0, m6_from, 0), (6, 227, 0, m2_agreeWith, 1), (8, 93, 0, m6_look, 0), (6, 230, 0, m6_from, 0), (6, 233, 1, mJ6_bitCount, 1), (6, 238, 0, m6_greaterPart, 2), (8, 97, 0, m6_rate, 2), (6, 242, 0, m6_rateCoat, 1), (6, 245, 0, m6_rateCape, 1), (6, 248, 0, m6_rateGown, 1), (6, 251, 0, m6_rateJudge, 1), (6, 254, 0, m6_rateBride, 1), (6, 257, 0, m6_rateShirt, 1), (8, 101, 0, m6_keep, 1), (6, 274, 1, m6_isImage, 1), (6, 277, 0, m3_become, 1), (8, 105, 0, m6_back, 1), (8, 109, 0, m6_count, 1), (8, 113, 0, m6_trace, 0), (8, 12, 2, m7_init, 0), (7, 1, 4, m6_init, 0), (7, 51, 0, m7_reads, 0), (7, 89, 0, m7_token, 0), (7, 69, 0, m7_letterAt, 1), (7, 76, 1, m7_isWord, 1), (7, 80, 1, m7_isDigit, 1), (7, 58, 1, m7_in, 3), (7, 99, 0, m7_readsItem, 0), (7, 92, 0, m7_number, 3), (7, 95, 0, m7_once, 4), (7, 55, 0, m7_begins, 0), (8, 17, 0, m7_type, 1), (8, 22, 0, m7_clear, 0), (8, 26, 0, m7_marsh, 0), (8, 31, 0, m7_ofDawn, 2), (7, 108, 0, m7_isDawn, 1), (8, 35, 0, m7_client, 2), (7, 111, 0, m7_isClient, 1), (7, 114, 0, m7_yardsOf, 1), (7, 117, 0, m7_patches, 1), (8, 39, 0, m7_has, 2), (8, 43, 0, m7_now, 1), (7, 120, 1, m7_isOf, 2), (8, 47, 0, m7_cuts, 2), (7, 124, 0, m7_suits, 2), (7, 127, 0, m7_keeps, 0), (8, 51, 0, m7_sews, 1), (8, 55, 0, m7_dawn, 0), (8, 59, 0, m7_undo, 0), (8, 63, 0, m7_round, 2), (7, 130, 0, m7_isSet, 1), (7, 133, 0, m7_reckonsSums, 0), (7, 136, 0, m7_reckons, 2), (7, 140, 1, m7_ones, 1), (8, 67, 0, m7_can, 2), (7, 143, 0, m7_canBy, 2), (8, 71, 0, m7_plan, 2), (8, 75, 0, m7_ways, 2), (8, 80, 0, m7_suns, 3), (8, 84, 0, m7_found, 2), (8, 88, 0, m7_forget, 0), (8, 92, 0, m7_from, 0), (7, 149, 0, m7_fromNow, 0), (7, 146, 0, m7_inFog, 1), (8, 96, 0, m7_look, 0), (8, 100, 0, m7_rate, 2), (8, 104, 0, m7_keep, 1), (8, 108, 0, m7_back, 1), (8, 112, 0, m7_count, 1), (8, 117, 0, m7_trace, 0)]
def am_fd {α : Type} (l : List (Nat × Nat × α)) (c i : Nat) : Option α := (l.find? (fun e => e.1 == c && e.2.1 == i)).map (fun e => e.2.2)
theorem am_fd_mem {α : Type} {l : List (Nat × Nat × α)} {c i : Nat} {v : α} (h : am_fd l c i = some v) : (c, i, v) ∈ l := by
  unfold am_fd at h
  cases hf : l.find? (fun e => e.1 == c && e.2.1 == i) with
  | none => rw [hf] at h; cases h
  | some e =>
    rw [hf] at h
    have h1 := List.find?_some hf
    have h2 := List.mem_of_find?_eq_some hf
    simp only [Bool.and_eq_true, beq_iff_eq] at h1
    obtain ⟨a, b, w⟩ := e
    simp only [Option.map_some, Option.some.injEq] at h
    obtain ⟨rfl, rfl⟩ := h1
    subst h
    exact h2
def am_fl (c i : Nat) : Option (Nat × Nat) := am_fd am_flA c i
def am_cl (c i : Nat) : Option Nat := am_fd am_clA c i
def am_cst (c i : Nat) : Option Int32 := am_fd am_csA c i
def am_csl (c i : Nat) : Option Int64 := am_fd am_cjA c i
def am_inv (c i : Nat) : Option (Nat × am_MI × Nat) := am_fd am_inA c i
def am_fval (ci k : Nat) (M : am_Mem) (a : Nat) : Value := match am_fty ci k with
  | 1 => .long (M.2.2.1 a k)
  | 2 => va_rf (M.2.2.2 a k)
  | _ => .int (M.2.1 a k)
def am_get (mi : am_MI) (idx : Nat) (pc : Nat) (L : am_Lo) (st : List Value) (M : am_Mem) : Option am_Rs := match st with
  | .ref a :: r => match am_fl mi.1 idx with
    | some (ci, k) => if am_isob M.1 a ci = true ∧ ci < 8 ∧ k < am_nf ci then am_go (pc + 3) L (am_fval ci k M a :: r) M else none
    | none => none
  | _ => none
def am_pv (ci k a : Nat) (v : Value) (M : am_Mem) : Option am_Mem := match am_fty ci k, v with
  | 0, .int x => some (M.1, am_up M.2.1 a k x, M.2.2.1, M.2.2.2)
  | 3, .int x => if x = 0 ∨ x = 1 then some (M.1, am_up M.2.1 a k x, M.2.2.1, M.2.2.2) else none
  | 1, .long x => some (M.1, M.2.1, am_up M.2.2.1 a k x, M.2.2.2)
  | 2, .ref x => some (M.1, M.2.1, M.2.2.1, am_up M.2.2.2 a k (some x))
  | _, _ => none
def am_fin (ci k : Nat) : Bool := (am_TX ci k).2.2.2
def am_put (mi : am_MI) (idx : Nat) (pc : Nat) (L : am_Lo) (st : List Value) (M : am_Mem) : Option am_Rs := match st with
  | v :: .ref a :: r => match am_fl mi.1 idx with
    | some (ci, k) => if am_isob M.1 a ci = true ∧ ci < 8 ∧ k < am_nf ci ∧ (am_fin ci k = true → mi.2.1.name = "<init>" ∧ mi.1 = ci) ∧ 0 < a then (match am_pv ci k a v M with
      | some M' => am_go (pc + 3) L r M'
      | none => none) else none
    | none => none
  | _ => none
def am_addc (M : am_Mem) (l : am_Sh) (R : Nat → Nat → Option Nat) : am_Mem := (M.1 ++ l, am_cut M.2.1 M.1.length 0, am_cut M.2.2.1 M.1.length 0, R)
def am_new (mi : am_MI) (idx : Nat) (pc : Nat) (L : am_Lo) (st : List Value) (M : am_Mem) : Option am_Rs := match am_cl mi.1 idx with
  | some ci => if ci < 8 then am_go (pc + 3) L (.ref M.1.length :: st) (am_addc M [(ci, 0)] (am_cut M.2.2.2 M.1.length none)) else none
  | none => none
def am_akind : ArrayType → Option Nat
  | .int => some 8
  | .long => some 9
  | .boolean => some 10
  | _ => none
def am_newa (t : ArrayType) (pc : Nat) (L : am_Lo) (st : List Value) (M : am_Mem) : Option am_Rs := match am_akind t, st with
  | some k, .int n :: r => if ¬ n < 0 ∧ n.toNatClampNeg ≤ 1000 then am_go (pc + 2) L (.ref M.1.length :: r) (am_addc M [(k, n.toNatClampNeg)] (am_cut M.2.2.2 M.1.length none)) else none
  | _, _ => none
def am_newq (mi : am_MI) (idx : Nat) (pc : Nat) (L : am_Lo) (st : List Value) (M : am_Mem) : Option am_Rs := match am_cl mi.1 idx, st with
  | some ci, .int n :: r => if ci = 3 ∧ ¬ n < 0 ∧ n.toNatClampNeg ≤ 1000 then am_go (pc + 3) L (.ref M.1.length :: r) (am_addc M [(11, n.toNatClampNeg)] (am_cut M.2.2.2 M.1.length none)) else none
  | _, _ => none
def am_newg (mi : am_MI) (idx : Nat) (pc : Nat) (L : am_Lo) (st : List Value) (M : am_Mem) : Option am_Rs := match am_cl mi.1 idx, st with
  | some ci, .int k :: .int n :: r => if ci = 12 ∧ ¬ n < 0 ∧ n.toNatClampNeg ≤ 100 ∧ ¬ k < 0 ∧ k.toNatClampNeg ≤ 100 then am_go (pc + 4) L (.ref M.1.length :: r) (am_addc M ((12, n.toNatClampNeg) :: List.replicate n.toNatClampNeg (8, k.toNatClampNeg)) (am_row (am_cut M.2.2.2 M.1.length none) M.1.length (fun i => if i < n.toNatClampNeg then some (M.1.length + 1 + i) else none))) else none
  | _, _ => none
def am_copy (pc : Nat) (L : am_Lo) (st : List Value) (M : am_Mem) : Option am_Rs := match st with
  | .int n :: .int dp :: .ref a :: .int sp :: .ref a0 :: r => if ¬ sp < 0 ∧ ¬ dp < 0 ∧ ¬ n < 0 ∧ (M.1[a]?).map Prod.fst = some 8 ∧ (M.1[a0]?).map Prod.fst = some 8 ∧ sp.toNatClampNeg + n.toNatClampNeg ≤ am_len M.1 a0 8 ∧ dp.toNatClampNeg + n.toNatClampNeg ≤ am_len M.1 a 8 ∧ am_cats r ≤ 8 ∧ 0 < a then
      am_go (pc + 3) L r (M.1, am_row M.2.1 a (va_cpy (M.2.1 a0) (M.2.1 a) sp.toNatClampNeg dp.toNatClampNeg n.toNatClampNeg), M.2.2.1, M.2.2.2) else none
  | _ => none
def am_inst (mi : am_MI) (idx : Nat) (pc : Nat) (L : am_Lo) (st : List Value) (M : am_Mem) (kinds : List Nat) : Option am_Rs := match am_inv mi.1 idx with
  | some (kind, y, n) => if kinds.contains kind = false then none else match kind with
    | 0 => (match st[n]? with
      | some (.ref a) => if am_isob M.1 a y.1 = true ∧ y.1 < 8 ∧ am_cats (st.drop (n + 1)) ≤ 8 then some (.inr (.inr (y, .ref a :: (st.take n).reverse, (pc + 3, L, st.drop (n + 1), M)))) else none
      | _ => none)
    | 1 => if n ≤ st.length ∧ am_cats (st.drop n) ≤ 8 then some (.inr (.inr (y, (st.take n).reverse, (pc + 3, L, st.drop n, M)))) else none
    | 4 => (match st with
      | .ref _ :: r => if am_cats r ≤ 8 then am_go (pc + 3) L r M else none
      | _ => none)
    | 5 => am_copy pc L st M
    | _ => (match st[n]? with
      | some (.ref a) => if am_cats (st.drop (n + 1)) ≤ 8 then some (.inr (.inr (y, .ref a :: (st.take n).reverse, (pc + 3, L, st.drop (n + 1), M)))) else none
      | _ => none)
  | none => none
def am_retok (ret : Option FieldType) (x : Int32) : Bool := match ret with
  | some .int => true
  | some .boolean => decide (x = 0) || decide (x = 1)
  | _ => false
def am_b2 (f : Int32 → Int32 → Int32) (pc : Nat) (L : am_Lo) (st : List Value) (M : am_Mem) : Option am_Rs := match st with
  | .int y :: .int x :: r => am_go (pc + 1) L (.int (f x y) :: r) M
  | _ => none
def am_l2 (f : Int64 → Int64 → Int64) (pc : Nat) (L : am_Lo) (st : List Value) (M : am_Mem) : Option am_Rs := match st with
  | .long y :: .long x :: r => am_go (pc + 1) L (.long (f x y) :: r) M
  | _ => none
def am_ld (i n pc : Nat) (L : am_Lo) (st : List Value) (M : am_Mem) (ok : Value → Bool) : Option am_Rs := match L[i]? with
  | some (some v) => if ok v then am_go (pc + n) L (v :: st) M else none
  | _ => none
def am_isI : Value → Bool | .int _ => true | _ => false
def am_isJ : Value → Bool | .long _ => true | _ => false
def am_isA : Value → Bool | .ref _ => true | _ => false
def am_sto (i n pc : Nat) (L : am_Lo) (st : List Value) (M : am_Mem) (ok : Value → Bool) : Option am_Rs := match st with
  | v :: r => if ok v = true ∧ i < L.length then am_go (pc + n) (am_st1 L i v) r M else none
  | _ => none
def am_stoJ (i n pc : Nat) (L : am_Lo) (st : List Value) (M : am_Mem) : Option am_Rs := match st with
  | .long v :: r => if i + 1 < L.length then am_go (pc + n) (am_st2 L i (.long v)) r M else none
  | _ => none
def am_tsw (dflt lo hi : Int) (offs : Array Int) (x : Int32) : Option Int := if x.toInt < lo ∨ hi < x.toInt then some dflt else offs[(x.toInt - lo).toNat]?
/-- one instruction -/
def am_ins (mi : am_MI) (i : Instr) (n pc : Nat) (L : am_Lo) (st : List Value) (M : am_Mem) : Option am_Rs := match i with
  | .iconst k => am_go (pc + n) L (.int (Int32.ofInt k) :: st) M
  | .bipush k => am_go (pc + n) L (.int (Int8.ofInt k).toInt32 :: st) M
  | .sipush k => am_go (pc + n) L (.int (Int16.ofInt k).toInt32 :: st) M
  | .lconst k => am_go (pc + n) L (.long (Int64.ofNat k) :: st) M
  | .ldc k => (match am_cst mi.1 k with
    | some v => am_go (pc + n) L (.int v :: st) M
    | none => none)
  | .ldc_w k => (match am_cst mi.1 k with
    | some v => am_go (pc + n) L (.int v :: st) M
    | none => none)
  | .ldc2_w k => (match am_csl mi.1 k with
    | some v => am_go (pc + n) L (.long v :: st) M
    | none => none)
  | .iload k => am_ld k n pc L st M am_isI
  | .iload_n k => am_ld k n pc L st M am_isI
  | .lload k => am_ld k n pc L st M am_isJ
  | .lload_n k => am_ld k n pc L st M am_isJ
  | .aload k => am_ld k n pc L st M am_isA
  | .aload_n k => am_ld k n pc L st M am_isA
  | .istore k => am_sto k n pc L st M am_isI
  | .istore_n k => am_sto k n pc L st M am_isI
  | .astore k => am_sto k n pc L st M am_isA
  | .astore_n k => am_sto k n pc L st M am_isA
  | .lstore k => am_stoJ k n pc L st M
  | .lstore_n k => am_stoJ k n pc L st M
  | .iinc k z => (match L[k]? with
    | some (some (.int x)) => am_go (pc + n) (am_st1 L k (.int (x + Int32.ofInt z))) st M
    | _ => none)
  | .iadd => am_b2 (fun x y => x + y) pc L st M
  | .isub => am_b2 (fun x y => x - y) pc L st M
  | .imul => am_b2 (fun x y => x * y) pc L st M
  | .iand => am_b2 (fun x y => x &&& y) pc L st M
  | .ior => am_b2 (fun x y => x ||| y) pc L st M
  | .ixor => am_b2 (fun x y => x ^^^ y) pc L st M
  | .ishl => am_b2 (fun x y => x <<< (y &&& 31)) pc L st M
  | .ishr => am_b2 (fun x y => x >>> (y &&& 31)) pc L st M
  | .iushr => am_b2 (fun x y => (x.toUInt32 >>> (y.toUInt32 &&& Int32.toUInt32 31)).toInt32) pc L st M
  | .idiv => (match st with
    | .int y :: .int x :: r => if y = 0 then none else am_go (pc + 1) L (.int (x / y) :: r) M
    | _ => none)
  | .irem => (match st with
    | .int y :: .int x :: r => if y = 0 then none else am_go (pc + 1) L (.int (x - x / y * y) :: r) M
    | _ => none)
  | .ladd => am_l2 (fun x y => x + y) pc L st M
  | .land => am_l2 (fun x y => x &&& y) pc L st M
  | .lor => am_l2 (fun x y => x ||| y) pc L st M
  | .lshl => (match st with
    | .int y :: .long x :: r => am_go (pc + 1) L (.long (x <<< (y.toInt64 &&& 63)) :: r) M
    | _ => none)
  | .lshr => (match st with
    | .int y :: .long x :: r => am_go (pc + 1) L (.long (x >>> (y.toInt64 &&& 63)) :: r) M
    | _ => none)
  | .lcmp => (match st with
    | .long y :: .long x :: r => am_go (pc + 1) L (.int (lg_cmp x y) :: r) M
    | _ => none)
  | .dup => (match st with
    | v :: r => if v.category = 1 then am_go (pc + 1) L (v :: v :: r) M else none
    | _ => none)
  | .pop => (match st with
    | v :: r => if v.category = 1 then am_go (pc + 1) L r M else none
    | _ => none)
  | .dup2 => (match st with
    | v :: w :: r => if v.category = 1 ∧ w.category = 1 then am_go (pc + 1) L (v :: w :: v :: w :: r) M else none
    | _ => none)
  | .ifCond c off => (match st with
    | .int x :: r => am_cmp c x 0 pc n off L r M
    | _ => none)
  | .if_icmp c off => (match st with
    | .int y :: .int x :: r => am_cmp c x y pc n off L r M
    | _ => none)
  | .goto off => am_jump pc off L st M
  | .tableswitch dflt lo hi offs => (match st with
    | .int x :: r => (match am_tsw dflt lo hi offs x with
      | some off => am_jump pc off L r M
      | none => none)
    | _ => none)
  | .lookupswitch dflt ps => (match st with
    | .int x :: r => if ((ps.toList.zip (ps.toList.drop 1)).all (fun (a, next) => a.1 < next.1)) = true then am_jump pc (Op.lookupswitch.offset ps.toList dflt x.toInt) L r M else none
    | _ => none)
  | .getfield k => am_get mi k pc L st M
  | .putfield k => am_put mi k pc L st M
  | .iaload => (match st with
    | .int j :: .ref a :: r => if am_inb M.1 a 8 j = true ∨ (a = 0 ∧ am_inb M.1 0 13 j = true) then am_go (pc + 1) L (.int (M.2.1 a j.toNatClampNeg) :: r) M else none
    | _ => none)
  | .iastore => (match st with
    | .int x :: .int j :: .ref a :: r => if am_inb M.1 a 8 j = true ∧ 0 < a then am_go (pc + 1) L r (M.1, am_up M.2.1 a j.toNatClampNeg x, M.2.2.1, M.2.2.2) else none
    | _ => none)
  | .baload => (match st with
    | .int j :: .ref a :: r => if am_inb M.1 a 10 j then am_go (pc + 1) L (.int (M.2.1 a j.toNatClampNeg) :: r) M else none
    | _ => none)
  | .bastore => (match st with
    | .int x :: .int j :: .ref a :: r => if (x = 0 ∨ x = 1) ∧ am_inb M.1 a 10 j = true ∧ 0 < a then am_go (pc + 1) L r (M.1, am_up M.2.1 a j.toNatClampNeg x, M.2.2.1, M.2.2.2) else none
    | _ => none)
  | .laload => (match st with
    | .int j :: .ref a :: r => if am_inb M.1 a 9 j then am_go (pc + 1) L (.long (M.2.2.1 a j.toNatClampNeg) :: r) M else none
    | _ => none)
  | .lastore => (match st with
    | .long x :: .int j :: .ref a :: r => if am_inb M.1 a 9 j = true ∧ 0 < a then am_go (pc + 1) L r (M.1, M.2.1, am_up M.2.2.1 a j.toNatClampNeg x, M.2.2.2) else none
    | _ => none)
  | .aaload => (match st with
    | .int j :: .ref a :: r => if am_inb M.1 a 11 j || am_inb M.1 a 12 j then am_go (pc + 1) L (va_rf (M.2.2.2 a j.toNatClampNeg) :: r) M else none
    | _ => none)
  | .aastore => (match st with
    | .ref v :: .int j :: .ref a :: r => if am_inb M.1 a 11 j = true ∧ am_isob M.1 v 3 = true ∧ 0 < a then am_go (pc + 1) L r (M.1, M.2.1, M.2.2.1, am_up M.2.2.2 a j.toNatClampNeg (some v)) else none
    | _ => none)
  | .arraylength => (match st with
    | .ref a :: r => if a = 0 then am_go (pc + 1) L (.int (Int32.ofNat (am_len M.1 0 13)) :: r) M else none
    | _ => none)
  | .new k => am_new mi k pc L st M
  | .newarray t => am_newa t pc L st M
  | .anewarray k => am_newq mi k pc L st M
  | .multianewarray k d => if d = 2 then am_newg mi k pc L st M else none
  | .invokevirtual k => am_inst mi k pc L st M [0]
  | .invokestatic k => am_inst mi k pc L st M [1, 5]
  | .invokespecial k => am_inst mi k pc L st M [2, 3, 4]
  | .ireturn => (match st with
    | [.int x] => if am_retok mi.2.2.2.2 x then some (.inr (.inl (some (.int x), M))) else none
    | _ => none)
  | .lreturn => (match st with
    | [.long x] => if mi.2.2.2.2 = some .long then some (.inr (.inl (some (.long x), M))) else none
    | _ => none)
  | .return_ => (match st with
    | [] => if mi.2.2.2.2 = none then some (.inr (.inl (none, M))) else none
    | _ => none)
  | _ => none
/-- how long an instruction is (a switch: as it comes) -/
def am_il : Instr → Nat → Nat
  | .tableswitch _ _ _ _, n => n
  | .lookupswitch _ _, n => n
  | .bipush _, _ => 2
  | .sipush _, _ => 3
  | .ldc _, _ => 2
  | .ldc_w _, _ => 3
  | .ldc2_w _, _ => 3
  | .iload _, _ => 2
  | .lload _, _ => 2
  | .aload _, _ => 2
  | .istore _, _ => 2
  | .lstore _, _ => 2
  | .astore _, _ => 2
  | .iinc _ _, _ => 3
  | .ifCond _ _, _ => 3
  | .if_icmp _ _, _ => 3
  | .goto _, _ => 3
  | .getfield _, _ => 3
  | .putfield _, _ => 3
  | .new _, _ => 3
  | .newarray _, _ => 2
  | .anewarray _, _ => 3
  | .multianewarray _ _, _ => 4
  | .invokevirtual _, _ => 3
  | .invokestatic _, _ => 3
  | .invokespecial _, _ => 3
  | _, _ => 1
def am_stp (mi : am_MI) (pc : Nat) (L : am_Lo) (st : List Value) (M : am_Mem) : Option am_Rs := match decode mi.2.2.1 pc with
  | .ok (i, n) => if n = am_il i n then am_ins mi i n pc L st M else none
  | _ => none
def am_run (call : am_MI → List Value → am_Mem → am_Post → Prop) (mi : am_MI) : Nat → Nat → am_Lo → List Value → am_Mem → am_Post → Prop
  | 0 => fun _ _ _ _ _ => False
  | k + 1 => fun pc L st M Q => match am_stp mi pc L st M with
    | some (.inl c) => am_run call mi k c.1 c.2.1 c.2.2.1 c.2.2.2 Q
    | some (.inr (.inl r)) => Q r.1 r.2
    | some (.inr (.inr q)) => call q.1 q.2.1 q.2.2.2.2.2 (fun v M' => am_run call mi k q.2.2.1 q.2.2.2.1 (v.toList ++ q.2.2.2.2.1) M' Q)
    | none => False
def am_ent (mi : am_MI) (args : List Value) : am_Lo := args.map some ++ List.replicate (mi.2.2.2.1 - args.length) none
def am_call : Nat → am_MI → List Value → am_Mem → am_Post → Prop
  | 0 => fun _ _ _ _ => False
  | d + 1 => fun mi args M Q => (args.length ≤ mi.2.2.2.1 ∧ ∀ v ∈ args, v.category = 1) ∧ ∃ k, am_run (am_call d) mi k 0 (am_ent mi args) [] M Q
def am_wp (d : Nat) (mi : am_MI) (pc : Nat) (L : am_Lo) (st : List Value) (M : am_Mem) (Q : am_Post) : Prop := ∃ k, am_run (am_call d) mi k pc L st M Q
