/-! the tables of the plain machine are the Statement's words -/
def am_T : List Cond := lw_tbl.filter goodWord
theorem am_T_in {w : Cond} (h : (decide (w ∈ lw_tbl) && goodWord w) = true) : w ∈ am_T := by
  simp only [Bool.and_eq_true, decide_eq_true_eq] at h
  exact List.mem_filter.mpr h
theorem am_T_good {w : Cond} (h : w ∈ am_T) : goodWord w = true := (List.mem_filter.mp h).2
def am_ok (w : Cond) : Bool := decide (w ∈ lw_tbl) && goodWord w
set_option maxRecDepth 100000 in
theorem am_fl_all : am_flA.all (fun e => am_ok (.fieldLink (am_cn e.1) e.2.1 (am_cn e.2.2.1) (am_TX e.2.2.1 e.2.2.2).2.1 (am_TX e.2.2.1 e.2.2.2).2.2.1)) = true := by decide +kernel
set_option maxRecDepth 100000 in
theorem am_cs_all : am_csA.all (fun e => am_ok (.constant (am_cn e.1) e.2.1 e.2.2)) = true := by decide +kernel
set_option maxRecDepth 100000 in
theorem am_cj_all : am_cjA.all (fun e => am_ok (.constantLong (am_cn e.1) e.2.1 e.2.2)) = true := by decide +kernel
set_option maxRecDepth 100000 in
theorem am_cl_all : am_clA.all (fun e => if e.2.2 < 8 then am_ok (.classLink (am_cn e.1) e.2.1 (am_cn e.2.2)) && am_ok (.instantiable (am_cn e.2.2) (am_nf e.2.2)) && am_ok (.initialized (am_cn e.2.2)) else decide (e.2.2 = 12) && am_ok (.classLink (am_cn e.1) e.2.1 "[[I")) = true := by decide +kernel
def am_miok (y : am_MI) : Bool := goodWord (.code y.2.1 y.2.2.1 y.2.2.2.1 y.2.2.2.2) && am_ok (.initialized y.2.1.cls) && decide (y.2.1.cls = am_cn y.1) && plainFor y.2.1 && decide (y.2.1.cls ≠ "java/lang/invoke/MethodHandle") && decide (y.2.1.cls ≠ "java/lang/invoke/VarHandle") && decide (y.2.2.2.1 ≤ 40)
set_option maxRecDepth 100000 in
theorem am_mi_all : am_all.all am_miok = true := by decide +kernel
set_option maxRecDepth 100000 in
theorem am_cw_m6_init : Cond.code m6_init.2.1 m6_init.2.2.1 m6_init.2.2.2.1 m6_init.2.2.2.2 ∈ lw_tbl := List.mem_of_getElem? (i := 65) rfl
set_option maxRecDepth 100000 in
theorem am_cw_m4_init : Cond.code m4_init.2.1 m4_init.2.2.1 m4_init.2.2.2.1 m4_init.2.2.2.2 ∈ lw_tbl := List.mem_of_getElem? (i := 73) rfl
set_option maxRecDepth 100000 in
theorem am_cw_m5_init : Cond.code m5_init.2.1 m5_init.2.2.1 m5_init.2.2.2.1 m5_init.2.2.2.2 ∈ lw_tbl := List.mem_of_getElem? (i := 103) rfl
set_option maxRecDepth 100000 in
theorem am_cw_m3_init : Cond.code m3_init.2.1 m3_init.2.2.1 m3_init.2.2.2.1 m3_init.2.2.2.2 ∈ lw_tbl := List.mem_of_getElem? (i := 168) rfl
set_option maxRecDepth 100000 in
theorem am_cw_m1_init : Cond.code m1_init.2.1 m1_init.2.2.1 m1_init.2.2.2.1 m1_init.2.2.2.2 ∈ lw_tbl := List.mem_of_getElem? (i := 194) rfl
set_option maxRecDepth 100000 in
theorem am_cw_m2_init : Cond.code m2_init.2.1 m2_init.2.2.1 m2_init.2.2.2.1 m2_init.2.2.2.2 ∈ lw_tbl := List.mem_of_getElem? (i := 214) rfl
set_option maxRecDepth 100000 in
theorem am_cw_m0_init : Cond.code m0_init.2.1 m0_init.2.2.1 m0_init.2.2.2.1 m0_init.2.2.2.2 ∈ lw_tbl := List.mem_of_getElem? (i := 232) rfl
set_option maxRecDepth 100000 in
theorem am_cw_m6_beginAnew : Cond.code m6_beginAnew.2.1 m6_beginAnew.2.2.1 m6_beginAnew.2.2.2.1 m6_beginAnew.2.2.2.2 ∈ lw_tbl := List.mem_of_getElem? (i := 264) rfl
set_option maxRecDepth 100000 in
theorem am_cw_m3_begin : Cond.code m3_begin.2.1 m3_begin.2.2.1 m3_begin.2.2.2.1 m3_begin.2.2.2.2 ∈ lw_tbl := List.mem_of_getElem? (i := 268) rfl
set_option maxRecDepth 100000 in
theorem am_cw_m3_loseAll : Cond.code m3_loseAll.2.1 m3_loseAll.2.2.1 m3_loseAll.2.2.2.1 m3_loseAll.2.2.2.2 ∈ lw_tbl := List.mem_of_getElem? (i := 275) rfl
set_option maxRecDepth 100000 in
theorem am_cw_m0_reckon : Cond.code m0_reckon.2.1 m0_reckon.2.2.1 m0_reckon.2.2.2.1 m0_reckon.2.2.2.2 ∈ lw_tbl := List.mem_of_getElem? (i := 279) rfl
set_option maxRecDepth 100000 in
theorem am_cw_m0_soonestOf : Cond.code m0_soonestOf.2.1 m0_soonestOf.2.2.1 m0_soonestOf.2.2.2.1 m0_soonestOf.2.2.2.2 ∈ lw_tbl := List.mem_of_getElem? (i := 283) rfl
set_option maxRecDepth 100000 in
theorem am_cw_m5_needsOf : Cond.code m5_needsOf.2.1 m5_needsOf.2.2.1 m5_needsOf.2.2.2.1 m5_needsOf.2.2.2.2 ∈ lw_tbl := List.mem_of_getElem? (i := 287) rfl
set_option maxRecDepth 100000 in
theorem am_cw_m5_sumOf : Cond.code m5_sumOf.2.1 m5_sumOf.2.2.1 m5_sumOf.2.2.2.1 m5_sumOf.2.2.2.2 ∈ lw_tbl := List.mem_of_getElem? (i := 291) rfl
set_option maxRecDepth 100000 in
theorem am_cw_mJ9_max : Cond.code mJ9_max.2.1 mJ9_max.2.2.1 mJ9_max.2.2.2.1 mJ9_max.2.2.2.2 ∈ lw_tbl := List.mem_of_getElem? (i := 294) rfl
set_option maxRecDepth 100000 in
theorem am_cw_mJ9_min : Cond.code mJ9_min.2.1 mJ9_min.2.2.1 mJ9_min.2.2.2.1 mJ9_min.2.2.2.2 ∈ lw_tbl := List.mem_of_getElem? (i := 297) rfl
set_option maxRecDepth 100000 in
theorem am_cw_m0_clothedBy : Cond.code m0_clothedBy.2.1 m0_clothedBy.2.2.1 m0_clothedBy.2.2.2.1 m0_clothedBy.2.2.2.2 ∈ lw_tbl := List.mem_of_getElem? (i := 301) rfl
set_option maxRecDepth 100000 in
theorem am_cw_m5_suitsAll : Cond.code m5_suitsAll.2.1 m5_suitsAll.2.2.1 m5_suitsAll.2.2.2.1 m5_suitsAll.2.2.2.2 ∈ lw_tbl := List.mem_of_getElem? (i := 305) rfl
set_option maxRecDepth 100000 in
theorem am_cw_m5_suits : Cond.code m5_suits.2.1 m5_suits.2.2.1 m5_suits.2.2.2.1 m5_suits.2.2.2.2 ∈ lw_tbl := List.mem_of_getElem? (i := 309) rfl
set_option maxRecDepth 100000 in
theorem am_cw_m0_mostOf : Cond.code m0_mostOf.2.1 m0_mostOf.2.2.1 m0_mostOf.2.2.2.1 m0_mostOf.2.2.2.2 ∈ lw_tbl := List.mem_of_getElem? (i := 313) rfl
set_option maxRecDepth 100000 in
theorem am_cw_m0_clothes : Cond.code m0_clothes.2.1 m0_clothes.2.2.1 m0_clothes.2.2.2.1 m0_clothes.2.2.2.2 ∈ lw_tbl := List.mem_of_getElem? (i := 317) rfl
set_option maxRecDepth 100000 in
theorem am_cw_mJ6_bitCount : Cond.code mJ6_bitCount.2.1 mJ6_bitCount.2.2.1 mJ6_bitCount.2.2.2.1 mJ6_bitCount.2.2.2.2 ∈ lw_tbl := List.mem_of_getElem? (i := 320) rfl
set_option maxRecDepth 100000 in
theorem am_cw_m6_type : Cond.code m6_type.2.1 m6_type.2.2.1 m6_type.2.2.2.1 m6_type.2.2.2.2 ∈ lw_tbl := List.mem_of_getElem? (i := 358) rfl
set_option maxRecDepth 100000 in
theorem am_cw_m4_add : Cond.code m4_add.2.1 m4_add.2.2.1 m4_add.2.2.2.1 m4_add.2.2.2.2 ∈ lw_tbl := List.mem_of_getElem? (i := 362) rfl
set_option maxRecDepth 100000 in
theorem am_cw_m6_clear : Cond.code m6_clear.2.1 m6_clear.2.2.1 m6_clear.2.2.2.1 m6_clear.2.2.2.2 ∈ lw_tbl := List.mem_of_getElem? (i := 366) rfl
set_option maxRecDepth 100000 in
theorem am_cw_m6_marsh : Cond.code m6_marsh.2.1 m6_marsh.2.2.1 m6_marsh.2.2.2.1 m6_marsh.2.2.2.2 ∈ lw_tbl := List.mem_of_getElem? (i := 370) rfl
set_option maxRecDepth 100000 in
theorem am_cw_m5_read : Cond.code m5_read.2.1 m5_read.2.2.1 m5_read.2.2.2.1 m5_read.2.2.2.2 ∈ lw_tbl := List.mem_of_getElem? (i := 374) rfl
set_option maxRecDepth 100000 in
theorem am_cw_m5_unsay : Cond.code m5_unsay.2.1 m5_unsay.2.2.1 m5_unsay.2.2.2.1 m5_unsay.2.2.2.2 ∈ lw_tbl := List.mem_of_getElem? (i := 378) rfl
set_option maxRecDepth 100000 in
theorem am_cw_m4_rewind : Cond.code m4_rewind.2.1 m4_rewind.2.2.1 m4_rewind.2.2.2.1 m4_rewind.2.2.2.2 ∈ lw_tbl := List.mem_of_getElem? (i := 382) rfl
set_option maxRecDepth 100000 in
theorem am_cw_m4_step : Cond.code m4_step.2.1 m4_step.2.2.1 m4_step.2.2.2.1 m4_step.2.2.2.2 ∈ lw_tbl := List.mem_of_getElem? (i := 386) rfl
set_option maxRecDepth 100000 in
theorem am_cw_m4_isDigit : Cond.code m4_isDigit.2.1 m4_isDigit.2.2.1 m4_isDigit.2.2.2.1 m4_isDigit.2.2.2.2 ∈ lw_tbl := List.mem_of_getElem? (i := 389) rfl
set_option maxRecDepth 100000 in
theorem am_cw_m4_isSign : Cond.code m4_isSign.2.1 m4_isSign.2.2.1 m4_isSign.2.2.2.1 m4_isSign.2.2.2.2 ∈ lw_tbl := List.mem_of_getElem? (i := 393) rfl
set_option maxRecDepth 100000 in
theorem am_cw_m5_readItem : Cond.code m5_readItem.2.1 m5_readItem.2.2.1 m5_readItem.2.2.2.1 m5_readItem.2.2.2.2 ∈ lw_tbl := List.mem_of_getElem? (i := 397) rfl
set_option maxRecDepth 100000 in
theorem am_cw_m5_readDawn : Cond.code m5_readDawn.2.1 m5_readDawn.2.2.1 m5_readDawn.2.2.2.1 m5_readDawn.2.2.2.2 ∈ lw_tbl := List.mem_of_getElem? (i := 401) rfl
set_option maxRecDepth 100000 in
theorem am_cw_m5_readNumber : Cond.code m5_readNumber.2.1 m5_readNumber.2.2.1 m5_readNumber.2.2.2.1 m5_readNumber.2.2.2.2 ∈ lw_tbl := List.mem_of_getElem? (i := 404) rfl
set_option maxRecDepth 100000 in
theorem am_cw_m5_readItemsEnd : Cond.code m5_readItemsEnd.2.1 m5_readItemsEnd.2.2.1 m5_readItemsEnd.2.2.2.1 m5_readItemsEnd.2.2.2.2 ∈ lw_tbl := List.mem_of_getElem? (i := 407) rfl
set_option maxRecDepth 100000 in
theorem am_cw_m5_readClient : Cond.code m5_readClient.2.1 m5_readClient.2.2.1 m5_readClient.2.2.2.1 m5_readClient.2.2.2.2 ∈ lw_tbl := List.mem_of_getElem? (i := 411) rfl
set_option maxRecDepth 100000 in
theorem am_cw_m5_readTen : Cond.code m5_readTen.2.1 m5_readTen.2.2.1 m5_readTen.2.2.2.1 m5_readTen.2.2.2.2 ∈ lw_tbl := List.mem_of_getElem? (i := 415) rfl
set_option maxRecDepth 100000 in
theorem am_cw_m5_readCellar : Cond.code m5_readCellar.2.1 m5_readCellar.2.2.1 m5_readCellar.2.2.2.1 m5_readCellar.2.2.2.2 ∈ lw_tbl := List.mem_of_getElem? (i := 419) rfl
set_option maxRecDepth 100000 in
theorem am_cw_m6_ofDawn : Cond.code m6_ofDawn.2.1 m6_ofDawn.2.2.1 m6_ofDawn.2.2.2.1 m6_ofDawn.2.2.2.2 ∈ lw_tbl := List.mem_of_getElem? (i := 423) rfl
set_option maxRecDepth 100000 in
theorem am_cw_m6_isDawn : Cond.code m6_isDawn.2.1 m6_isDawn.2.2.1 m6_isDawn.2.2.2.1 m6_isDawn.2.2.2.2 ∈ lw_tbl := List.mem_of_getElem? (i := 427) rfl
set_option maxRecDepth 100000 in
theorem am_cw_m6_client : Cond.code m6_client.2.1 m6_client.2.2.1 m6_client.2.2.2.1 m6_client.2.2.2.2 ∈ lw_tbl := List.mem_of_getElem? (i := 431) rfl
set_option maxRecDepth 100000 in
theorem am_cw_m6_isClient : Cond.code m6_isClient.2.1 m6_isClient.2.2.1 m6_isClient.2.2.2.1 m6_isClient.2.2.2.2 ∈ lw_tbl := List.mem_of_getElem? (i := 435) rfl
set_option maxRecDepth 100000 in
theorem am_cw_m3_heldBy : Cond.code m3_heldBy.2.1 m3_heldBy.2.2.1 m3_heldBy.2.2.2.1 m3_heldBy.2.2.2.2 ∈ lw_tbl := List.mem_of_getElem? (i := 439) rfl
set_option maxRecDepth 100000 in
theorem am_cw_m3_heldOf : Cond.code m3_heldOf.2.1 m3_heldOf.2.2.1 m3_heldOf.2.2.2.1 m3_heldOf.2.2.2.2 ∈ lw_tbl := List.mem_of_getElem? (i := 443) rfl
set_option maxRecDepth 100000 in
theorem am_cw_m3_patchesOf : Cond.code m3_patchesOf.2.1 m3_patchesOf.2.2.1 m3_patchesOf.2.2.2.1 m3_patchesOf.2.2.2.2 ∈ lw_tbl := List.mem_of_getElem? (i := 447) rfl
set_option maxRecDepth 100000 in
theorem am_cw_m3_isDressed : Cond.code m3_isDressed.2.1 m3_isDressed.2.2.1 m3_isDressed.2.2.2.1 m3_isDressed.2.2.2.2 ∈ lw_tbl := List.mem_of_getElem? (i := 452) rfl
set_option maxRecDepth 100000 in
theorem am_cw_m6_has : Cond.code m6_has.2.1 m6_has.2.2.1 m6_has.2.2.2.1 m6_has.2.2.2.2 ∈ lw_tbl := List.mem_of_getElem? (i := 456) rfl
set_option maxRecDepth 100000 in
theorem am_cw_m6_now : Cond.code m6_now.2.1 m6_now.2.2.1 m6_now.2.2.2.1 m6_now.2.2.2.2 ∈ lw_tbl := List.mem_of_getElem? (i := 461) rfl
set_option maxRecDepth 100000 in
theorem am_cw_m6_patchesOfDressed : Cond.code m6_patchesOfDressed.2.1 m6_patchesOfDressed.2.2.1 m6_patchesOfDressed.2.2.2.1 m6_patchesOfDressed.2.2.2.2 ∈ lw_tbl := List.mem_of_getElem? (i := 465) rfl
set_option maxRecDepth 100000 in
theorem am_cw_m6_cuts : Cond.code m6_cuts.2.1 m6_cuts.2.2.1 m6_cuts.2.2.2.1 m6_cuts.2.2.2.2 ∈ lw_tbl := List.mem_of_getElem? (i := 469) rfl
set_option maxRecDepth 100000 in
theorem am_cw_m6_mayCut : Cond.code m6_mayCut.2.1 m6_mayCut.2.2.1 m6_mayCut.2.2.2.1 m6_mayCut.2.2.2.2 ∈ lw_tbl := List.mem_of_getElem? (i := 473) rfl
set_option maxRecDepth 100000 in
theorem am_cw_m1_remember : Cond.code m1_remember.2.1 m1_remember.2.2.1 m1_remember.2.2.2.1 m1_remember.2.2.2.2 ∈ lw_tbl := List.mem_of_getElem? (i := 478) rfl
set_option maxRecDepth 100000 in
theorem am_cw_m3_become : Cond.code m3_become.2.1 m3_become.2.2.1 m3_become.2.2.2.1 m3_become.2.2.2.2 ∈ lw_tbl := List.mem_of_getElem? (i := 482) rfl
set_option maxRecDepth 100000 in
theorem am_cw_m3_cut : Cond.code m3_cut.2.1 m3_cut.2.2.1 m3_cut.2.2.2.1 m3_cut.2.2.2.2 ∈ lw_tbl := List.mem_of_getElem? (i := 487) rfl
set_option maxRecDepth 100000 in
theorem am_cw_m6_sews : Cond.code m6_sews.2.1 m6_sews.2.2.1 m6_sews.2.2.2.1 m6_sews.2.2.2.2 ∈ lw_tbl := List.mem_of_getElem? (i := 491) rfl
set_option maxRecDepth 100000 in
theorem am_cw_m6_maySew : Cond.code m6_maySew.2.1 m6_maySew.2.2.1 m6_maySew.2.2.2.1 m6_maySew.2.2.2.2 ∈ lw_tbl := List.mem_of_getElem? (i := 495) rfl
set_option maxRecDepth 100000 in
theorem am_cw_m3_sew : Cond.code m3_sew.2.1 m3_sew.2.2.1 m3_sew.2.2.2.1 m3_sew.2.2.2.2 ∈ lw_tbl := List.mem_of_getElem? (i := 499) rfl
set_option maxRecDepth 100000 in
theorem am_cw_m6_dawn : Cond.code m6_dawn.2.1 m6_dawn.2.2.1 m6_dawn.2.2.2.1 m6_dawn.2.2.2.2 ∈ lw_tbl := List.mem_of_getElem? (i := 503) rfl
set_option maxRecDepth 100000 in
theorem am_cw_m3_goBy : Cond.code m3_goBy.2.1 m3_goBy.2.2.1 m3_goBy.2.2.2.1 m3_goBy.2.2.2.2 ∈ lw_tbl := List.mem_of_getElem? (i := 507) rfl
set_option maxRecDepth 100000 in
theorem am_cw_m6_undo : Cond.code m6_undo.2.1 m6_undo.2.2.1 m6_undo.2.2.2.1 m6_undo.2.2.2.2 ∈ lw_tbl := List.mem_of_getElem? (i := 513) rfl
set_option maxRecDepth 100000 in
theorem am_cw_m1_recall : Cond.code m1_recall.2.1 m1_recall.2.2.1 m1_recall.2.2.2.1 m1_recall.2.2.2.2 ∈ lw_tbl := List.mem_of_getElem? (i := 517) rfl
set_option maxRecDepth 100000 in
theorem am_cw_m6_round : Cond.code m6_round.2.1 m6_round.2.2.1 m6_round.2.2.2.1 m6_round.2.2.2.2 ∈ lw_tbl := List.mem_of_getElem? (i := 521) rfl
set_option maxRecDepth 100000 in
theorem am_cw_m6_isSet : Cond.code m6_isSet.2.1 m6_isSet.2.2.1 m6_isSet.2.2.2.1 m6_isSet.2.2.2.2 ∈ lw_tbl := List.mem_of_getElem? (i := 525) rfl
set_option maxRecDepth 100000 in
theorem am_cw_m0_inOrder : Cond.code m0_inOrder.2.1 m0_inOrder.2.2.1 m0_inOrder.2.2.2.1 m0_inOrder.2.2.2.2 ∈ lw_tbl := List.mem_of_getElem? (i := 529) rfl
set_option maxRecDepth 100000 in
theorem am_cw_m0_lowestInTime : Cond.code m0_lowestInTime.2.1 m0_lowestInTime.2.2.1 m0_lowestInTime.2.2.2.1 m0_lowestInTime.2.2.2.2 ∈ lw_tbl := List.mem_of_getElem? (i := 533) rfl
set_option maxRecDepth 100000 in
theorem am_cw_m0_leastBehind : Cond.code m0_leastBehind.2.1 m0_leastBehind.2.2.1 m0_leastBehind.2.2.2.1 m0_leastBehind.2.2.2.2 ∈ lw_tbl := List.mem_of_getElem? (i := 537) rfl
set_option maxRecDepth 100000 in
theorem am_cw_m5_sewingOf : Cond.code m5_sewingOf.2.1 m5_sewingOf.2.2.1 m5_sewingOf.2.2.2.1 m5_sewingOf.2.2.2.2 ∈ lw_tbl := List.mem_of_getElem? (i := 541) rfl
set_option maxRecDepth 100000 in
theorem am_cw_m6_can : Cond.code m6_can.2.1 m6_can.2.2.1 m6_can.2.2.2.1 m6_can.2.2.2.2 ∈ lw_tbl := List.mem_of_getElem? (i := 545) rfl
set_option maxRecDepth 100000 in
theorem am_cw_m6_plan : Cond.code m6_plan.2.1 m6_plan.2.2.1 m6_plan.2.2.2.1 m6_plan.2.2.2.2 ∈ lw_tbl := List.mem_of_getElem? (i := 550) rfl
set_option maxRecDepth 100000 in
theorem am_cw_m0_dawnTold : Cond.code m0_dawnTold.2.1 m0_dawnTold.2.2.1 m0_dawnTold.2.2.2.1 m0_dawnTold.2.2.2.2 ∈ lw_tbl := List.mem_of_getElem? (i := 554) rfl
set_option maxRecDepth 100000 in
theorem am_cw_m0_tell : Cond.code m0_tell.2.1 m0_tell.2.2.1 m0_tell.2.2.2.1 m0_tell.2.2.2.2 ∈ lw_tbl := List.mem_of_getElem? (i := 558) rfl
set_option maxRecDepth 100000 in
theorem am_cw_m0_tellOne : Cond.code m0_tellOne.2.1 m0_tellOne.2.2.1 m0_tellOne.2.2.2.1 m0_tellOne.2.2.2.2 ∈ lw_tbl := List.mem_of_getElem? (i := 562) rfl
set_option maxRecDepth 100000 in
theorem am_cw_m6_ways : Cond.code m6_ways.2.1 m6_ways.2.2.1 m6_ways.2.2.2.1 m6_ways.2.2.2.2 ∈ lw_tbl := List.mem_of_getElem? (i := 566) rfl
set_option maxRecDepth 100000 in
theorem am_cw_m6_waysFrom : Cond.code m6_waysFrom.2.1 m6_waysFrom.2.2.1 m6_waysFrom.2.2.2.1 m6_waysFrom.2.2.2.2 ∈ lw_tbl := List.mem_of_getElem? (i := 570) rfl
set_option maxRecDepth 100000 in
theorem am_cw_m6_suns : Cond.code m6_suns.2.1 m6_suns.2.2.1 m6_suns.2.2.2.1 m6_suns.2.2.2.2 ∈ lw_tbl := List.mem_of_getElem? (i := 575) rfl
set_option maxRecDepth 100000 in
theorem am_cw_m6_chances : Cond.code m6_chances.2.1 m6_chances.2.2.1 m6_chances.2.2.2.1 m6_chances.2.2.2.2 ∈ lw_tbl := List.mem_of_getElem? (i := 578) rfl
set_option maxRecDepth 100000 in
theorem am_cw_m6_sharedDivisor : Cond.code m6_sharedDivisor.2.1 m6_sharedDivisor.2.2.1 m6_sharedDivisor.2.2.2.1 m6_sharedDivisor.2.2.2.2 ∈ lw_tbl := List.mem_of_getElem? (i := 581) rfl
set_option maxRecDepth 100000 in
theorem am_cw_m6_found : Cond.code m6_found.2.1 m6_found.2.2.1 m6_found.2.2.2.1 m6_found.2.2.2.2 ∈ lw_tbl := List.mem_of_getElem? (i := 586) rfl
set_option maxRecDepth 100000 in
theorem am_cw_m2_add : Cond.code m2_add.2.1 m2_add.2.2.1 m2_add.2.2.2.1 m2_add.2.2.2.2 ∈ lw_tbl := List.mem_of_getElem? (i := 590) rfl
set_option maxRecDepth 100000 in
theorem am_cw_m6_forget : Cond.code m6_forget.2.1 m6_forget.2.2.1 m6_forget.2.2.2.1 m6_forget.2.2.2.2 ∈ lw_tbl := List.mem_of_getElem? (i := 594) rfl
set_option maxRecDepth 100000 in
theorem am_cw_m6_from : Cond.code m6_from.2.1 m6_from.2.2.1 m6_from.2.2.2.1 m6_from.2.2.2.2 ∈ lw_tbl := List.mem_of_getElem? (i := 598) rfl
set_option maxRecDepth 100000 in
theorem am_cw_m2_agreeWith : Cond.code m2_agreeWith.2.1 m2_agreeWith.2.2.1 m2_agreeWith.2.2.2.1 m2_agreeWith.2.2.2.2 ∈ lw_tbl := List.mem_of_getElem? (i := 602) rfl
set_option maxRecDepth 100000 in
theorem am_cw_m6_look : Cond.code m6_look.2.1 m6_look.2.2.1 m6_look.2.2.2.1 m6_look.2.2.2.2 ∈ lw_tbl := List.mem_of_getElem? (i := 606) rfl
set_option maxRecDepth 100000 in
theorem am_cw_m6_greaterPart : Cond.code m6_greaterPart.2.1 m6_greaterPart.2.2.1 m6_greaterPart.2.2.2.1 m6_greaterPart.2.2.2.2 ∈ lw_tbl := List.mem_of_getElem? (i := 612) rfl
set_option maxRecDepth 100000 in
theorem am_cw_m6_rate : Cond.code m6_rate.2.1 m6_rate.2.2.1 m6_rate.2.2.2.1 m6_rate.2.2.2.2 ∈ lw_tbl := List.mem_of_getElem? (i := 616) rfl
set_option maxRecDepth 100000 in
theorem am_cw_m6_rateCoat : Cond.code m6_rateCoat.2.1 m6_rateCoat.2.2.1 m6_rateCoat.2.2.2.1 m6_rateCoat.2.2.2.2 ∈ lw_tbl := List.mem_of_getElem? (i := 621) rfl
set_option maxRecDepth 100000 in
theorem am_cw_m6_rateCape : Cond.code m6_rateCape.2.1 m6_rateCape.2.2.1 m6_rateCape.2.2.2.1 m6_rateCape.2.2.2.2 ∈ lw_tbl := List.mem_of_getElem? (i := 625) rfl
set_option maxRecDepth 100000 in
theorem am_cw_m6_rateGown : Cond.code m6_rateGown.2.1 m6_rateGown.2.2.1 m6_rateGown.2.2.2.1 m6_rateGown.2.2.2.2 ∈ lw_tbl := List.mem_of_getElem? (i := 630) rfl
set_option maxRecDepth 100000 in
theorem am_cw_m6_rateJudge : Cond.code m6_rateJudge.2.1 m6_rateJudge.2.2.1 m6_rateJudge.2.2.2.1 m6_rateJudge.2.2.2.2 ∈ lw_tbl := List.mem_of_getElem? (i := 635) rfl
set_option maxRecDepth 100000 in
theorem am_cw_m6_rateBride : Cond.code m6_rateBride.2.1 m6_rateBride.2.2.1 m6_rateBride.2.2.2.1 m6_rateBride.2.2.2.2 ∈ lw_tbl := List.mem_of_getElem? (i := 640) rfl
set_option maxRecDepth 100000 in
theorem am_cw_m6_rateShirt : Cond.code m6_rateShirt.2.1 m6_rateShirt.2.2.1 m6_rateShirt.2.2.2.1 m6_rateShirt.2.2.2.2 ∈ lw_tbl := List.mem_of_getElem? (i := 645) rfl
set_option maxRecDepth 100000 in
theorem am_cw_m6_keep : Cond.code m6_keep.2.1 m6_keep.2.2.1 m6_keep.2.2.2.1 m6_keep.2.2.2.2 ∈ lw_tbl := List.mem_of_getElem? (i := 650) rfl
set_option maxRecDepth 100000 in
theorem am_cw_m6_isImage : Cond.code m6_isImage.2.1 m6_isImage.2.2.1 m6_isImage.2.2.2.1 m6_isImage.2.2.2.2 ∈ lw_tbl := List.mem_of_getElem? (i := 653) rfl
set_option maxRecDepth 100000 in
theorem am_cw_m6_back : Cond.code m6_back.2.1 m6_back.2.2.1 m6_back.2.2.2.1 m6_back.2.2.2.2 ∈ lw_tbl := List.mem_of_getElem? (i := 658) rfl
set_option maxRecDepth 100000 in
theorem am_cw_m6_count : Cond.code m6_count.2.1 m6_count.2.2.1 m6_count.2.2.2.1 m6_count.2.2.2.2 ∈ lw_tbl := List.mem_of_getElem? (i := 662) rfl
set_option maxRecDepth 100000 in
theorem am_cw_m6_trace : Cond.code m6_trace.2.1 m6_trace.2.2.1 m6_trace.2.2.2.1 m6_trace.2.2.2.2 ∈ lw_tbl := List.mem_of_getElem? (i := 666) rfl
set_option maxRecDepth 100000 in
theorem am_cw_m7_init : Cond.code m7_init.2.1 m7_init.2.2.1 m7_init.2.2.2.1 m7_init.2.2.2.2 ∈ lw_tbl := List.mem_of_getElem? (i := 671) rfl
set_option maxRecDepth 100000 in
theorem am_cw_m7_reads : Cond.code m7_reads.2.1 m7_reads.2.2.1 m7_reads.2.2.2.1 m7_reads.2.2.2.2 ∈ lw_tbl := List.mem_of_getElem? (i := 676) rfl
set_option maxRecDepth 100000 in
theorem am_cw_m7_token : Cond.code m7_token.2.1 m7_token.2.2.1 m7_token.2.2.2.1 m7_token.2.2.2.2 ∈ lw_tbl := List.mem_of_getElem? (i := 680) rfl
set_option maxRecDepth 100000 in
theorem am_cw_m7_letterAt : Cond.code m7_letterAt.2.1 m7_letterAt.2.2.1 m7_letterAt.2.2.2.1 m7_letterAt.2.2.2.2 ∈ lw_tbl := List.mem_of_getElem? (i := 684) rfl
set_option maxRecDepth 100000 in
theorem am_cw_m7_isWord : Cond.code m7_isWord.2.1 m7_isWord.2.2.1 m7_isWord.2.2.2.1 m7_isWord.2.2.2.2 ∈ lw_tbl := List.mem_of_getElem? (i := 687) rfl
set_option maxRecDepth 100000 in
theorem am_cw_m7_isDigit : Cond.code m7_isDigit.2.1 m7_isDigit.2.2.1 m7_isDigit.2.2.2.1 m7_isDigit.2.2.2.2 ∈ lw_tbl := List.mem_of_getElem? (i := 690) rfl
set_option maxRecDepth 100000 in
theorem am_cw_m7_in : Cond.code m7_in.2.1 m7_in.2.2.1 m7_in.2.2.2.1 m7_in.2.2.2.2 ∈ lw_tbl := List.mem_of_getElem? (i := 693) rfl
set_option maxRecDepth 100000 in
theorem am_cw_m7_readsItem : Cond.code m7_readsItem.2.1 m7_readsItem.2.2.1 m7_readsItem.2.2.2.1 m7_readsItem.2.2.2.2 ∈ lw_tbl := List.mem_of_getElem? (i := 697) rfl
set_option maxRecDepth 100000 in
theorem am_cw_m7_number : Cond.code m7_number.2.1 m7_number.2.2.1 m7_number.2.2.2.1 m7_number.2.2.2.2 ∈ lw_tbl := List.mem_of_getElem? (i := 701) rfl
set_option maxRecDepth 100000 in
theorem am_cw_m7_once : Cond.code m7_once.2.1 m7_once.2.2.1 m7_once.2.2.2.1 m7_once.2.2.2.2 ∈ lw_tbl := List.mem_of_getElem? (i := 705) rfl
set_option maxRecDepth 100000 in
theorem am_cw_m7_begins : Cond.code m7_begins.2.1 m7_begins.2.2.1 m7_begins.2.2.2.1 m7_begins.2.2.2.2 ∈ lw_tbl := List.mem_of_getElem? (i := 709) rfl
set_option maxRecDepth 100000 in
theorem am_cw_m7_type : Cond.code m7_type.2.1 m7_type.2.2.1 m7_type.2.2.2.1 m7_type.2.2.2.2 ∈ lw_tbl := List.mem_of_getElem? (i := 777) rfl
set_option maxRecDepth 100000 in
theorem am_cw_m7_clear : Cond.code m7_clear.2.1 m7_clear.2.2.1 m7_clear.2.2.2.1 m7_clear.2.2.2.2 ∈ lw_tbl := List.mem_of_getElem? (i := 781) rfl
set_option maxRecDepth 100000 in
theorem am_cw_m7_marsh : Cond.code m7_marsh.2.1 m7_marsh.2.2.1 m7_marsh.2.2.2.1 m7_marsh.2.2.2.2 ∈ lw_tbl := List.mem_of_getElem? (i := 785) rfl
set_option maxRecDepth 100000 in
theorem am_cw_m7_ofDawn : Cond.code m7_ofDawn.2.1 m7_ofDawn.2.2.1 m7_ofDawn.2.2.2.1 m7_ofDawn.2.2.2.2 ∈ lw_tbl := List.mem_of_getElem? (i := 789) rfl
set_option maxRecDepth 100000 in
theorem am_cw_m7_isDawn : Cond.code m7_isDawn.2.1 m7_isDawn.2.2.1 m7_isDawn.2.2.2.1 m7_isDawn.2.2.2.2 ∈ lw_tbl := List.mem_of_getElem? (i := 793) rfl
set_option maxRecDepth 100000 in
theorem am_cw_m7_client : Cond.code m7_client.2.1 m7_client.2.2.1 m7_client.2.2.2.1 m7_client.2.2.2.2 ∈ lw_tbl := List.mem_of_getElem? (i := 797) rfl
set_option maxRecDepth 100000 in
theorem am_cw_m7_isClient : Cond.code m7_isClient.2.1 m7_isClient.2.2.1 m7_isClient.2.2.2.1 m7_isClient.2.2.2.2 ∈ lw_tbl := List.mem_of_getElem? (i := 801) rfl
set_option maxRecDepth 100000 in
theorem am_cw_m7_yardsOf : Cond.code m7_yardsOf.2.1 m7_yardsOf.2.2.1 m7_yardsOf.2.2.2.1 m7_yardsOf.2.2.2.2 ∈ lw_tbl := List.mem_of_getElem? (i := 805) rfl
set_option maxRecDepth 100000 in
theorem am_cw_m7_patches : Cond.code m7_patches.2.1 m7_patches.2.2.1 m7_patches.2.2.2.1 m7_patches.2.2.2.2 ∈ lw_tbl := List.mem_of_getElem? (i := 809) rfl
set_option maxRecDepth 100000 in
theorem am_cw_m7_has : Cond.code m7_has.2.1 m7_has.2.2.1 m7_has.2.2.2.1 m7_has.2.2.2.2 ∈ lw_tbl := List.mem_of_getElem? (i := 813) rfl
set_option maxRecDepth 100000 in
theorem am_cw_m7_now : Cond.code m7_now.2.1 m7_now.2.2.1 m7_now.2.2.2.1 m7_now.2.2.2.2 ∈ lw_tbl := List.mem_of_getElem? (i := 817) rfl
set_option maxRecDepth 100000 in
theorem am_cw_m7_isOf : Cond.code m7_isOf.2.1 m7_isOf.2.2.1 m7_isOf.2.2.2.1 m7_isOf.2.2.2.2 ∈ lw_tbl := List.mem_of_getElem? (i := 820) rfl
set_option maxRecDepth 100000 in
theorem am_cw_m7_cuts : Cond.code m7_cuts.2.1 m7_cuts.2.2.1 m7_cuts.2.2.2.1 m7_cuts.2.2.2.2 ∈ lw_tbl := List.mem_of_getElem? (i := 824) rfl
set_option maxRecDepth 100000 in
theorem am_cw_m7_suits : Cond.code m7_suits.2.1 m7_suits.2.2.1 m7_suits.2.2.2.1 m7_suits.2.2.2.2 ∈ lw_tbl := List.mem_of_getElem? (i := 828) rfl
set_option maxRecDepth 100000 in
theorem am_cw_m7_keeps : Cond.code m7_keeps.2.1 m7_keeps.2.2.1 m7_keeps.2.2.2.1 m7_keeps.2.2.2.2 ∈ lw_tbl := List.mem_of_getElem? (i := 832) rfl
set_option maxRecDepth 100000 in
theorem am_cw_m7_sews : Cond.code m7_sews.2.1 m7_sews.2.2.1 m7_sews.2.2.2.1 m7_sews.2.2.2.2 ∈ lw_tbl := List.mem_of_getElem? (i := 836) rfl
set_option maxRecDepth 100000 in
theorem am_cw_m7_dawn : Cond.code m7_dawn.2.1 m7_dawn.2.2.1 m7_dawn.2.2.2.1 m7_dawn.2.2.2.2 ∈ lw_tbl := List.mem_of_getElem? (i := 840) rfl
set_option maxRecDepth 100000 in
theorem am_cw_m7_undo : Cond.code m7_undo.2.1 m7_undo.2.2.1 m7_undo.2.2.2.1 m7_undo.2.2.2.2 ∈ lw_tbl := List.mem_of_getElem? (i := 844) rfl
set_option maxRecDepth 100000 in
theorem am_cw_m7_round : Cond.code m7_round.2.1 m7_round.2.2.1 m7_round.2.2.2.1 m7_round.2.2.2.2 ∈ lw_tbl := List.mem_of_getElem? (i := 848) rfl
set_option maxRecDepth 100000 in
theorem am_cw_m7_isSet : Cond.code m7_isSet.2.1 m7_isSet.2.2.1 m7_isSet.2.2.2.1 m7_isSet.2.2.2.2 ∈ lw_tbl := List.mem_of_getElem? (i := 852) rfl
set_option maxRecDepth 100000 in
theorem am_cw_m7_reckonsSums : Cond.code m7_reckonsSums.2.1 m7_reckonsSums.2.2.1 m7_reckonsSums.2.2.2.1 m7_reckonsSums.2.2.2.2 ∈ lw_tbl := List.mem_of_getElem? (i := 856) rfl
set_option maxRecDepth 100000 in
theorem am_cw_m7_reckons : Cond.code m7_reckons.2.1 m7_reckons.2.2.1 m7_reckons.2.2.2.1 m7_reckons.2.2.2.2 ∈ lw_tbl := List.mem_of_getElem? (i := 860) rfl
set_option maxRecDepth 100000 in
theorem am_cw_m7_ones : Cond.code m7_ones.2.1 m7_ones.2.2.1 m7_ones.2.2.2.1 m7_ones.2.2.2.2 ∈ lw_tbl := List.mem_of_getElem? (i := 863) rfl
set_option maxRecDepth 100000 in
theorem am_cw_m7_can : Cond.code m7_can.2.1 m7_can.2.2.1 m7_can.2.2.2.1 m7_can.2.2.2.2 ∈ lw_tbl := List.mem_of_getElem? (i := 867) rfl
set_option maxRecDepth 100000 in
theorem am_cw_m7_canBy : Cond.code m7_canBy.2.1 m7_canBy.2.2.1 m7_canBy.2.2.2.1 m7_canBy.2.2.2.2 ∈ lw_tbl := List.mem_of_getElem? (i := 871) rfl
set_option maxRecDepth 100000 in
theorem am_cw_m7_plan : Cond.code m7_plan.2.1 m7_plan.2.2.1 m7_plan.2.2.2.1 m7_plan.2.2.2.2 ∈ lw_tbl := List.mem_of_getElem? (i := 875) rfl
set_option maxRecDepth 100000 in
theorem am_cw_m7_ways : Cond.code m7_ways.2.1 m7_ways.2.2.1 m7_ways.2.2.2.1 m7_ways.2.2.2.2 ∈ lw_tbl := List.mem_of_getElem? (i := 879) rfl
set_option maxRecDepth 100000 in
theorem am_cw_m7_suns : Cond.code m7_suns.2.1 m7_suns.2.2.1 m7_suns.2.2.2.1 m7_suns.2.2.2.2 ∈ lw_tbl := List.mem_of_getElem? (i := 883) rfl
set_option maxRecDepth 100000 in
theorem am_cw_m7_found : Cond.code m7_found.2.1 m7_found.2.2.1 m7_found.2.2.2.1 m7_found.2.2.2.2 ∈ lw_tbl := List.mem_of_getElem? (i := 887) rfl
set_option maxRecDepth 100000 in
theorem am_cw_m7_forget : Cond.code m7_forget.2.1 m7_forget.2.2.1 m7_forget.2.2.2.1 m7_forget.2.2.2.2 ∈ lw_tbl := List.mem_of_getElem? (i := 891) rfl
set_option maxRecDepth 100000 in
theorem am_cw_m7_from : Cond.code m7_from.2.1 m7_from.2.2.1 m7_from.2.2.2.1 m7_from.2.2.2.2 ∈ lw_tbl := List.mem_of_getElem? (i := 895) rfl
set_option maxRecDepth 100000 in
theorem am_cw_m7_fromNow : Cond.code m7_fromNow.2.1 m7_fromNow.2.2.1 m7_fromNow.2.2.2.1 m7_fromNow.2.2.2.2 ∈ lw_tbl := List.mem_of_getElem? (i := 899) rfl
set_option maxRecDepth 100000 in
theorem am_cw_m7_inFog : Cond.code m7_inFog.2.1 m7_inFog.2.2.1 m7_inFog.2.2.2.1 m7_inFog.2.2.2.2 ∈ lw_tbl := List.mem_of_getElem? (i := 903) rfl
set_option maxRecDepth 100000 in
theorem am_cw_m7_look : Cond.code m7_look.2.1 m7_look.2.2.1 m7_look.2.2.2.1 m7_look.2.2.2.2 ∈ lw_tbl := List.mem_of_getElem? (i := 907) rfl
set_option maxRecDepth 100000 in
theorem am_cw_m7_rate : Cond.code m7_rate.2.1 m7_rate.2.2.1 m7_rate.2.2.2.1 m7_rate.2.2.2.2 ∈ lw_tbl := List.mem_of_getElem? (i := 911) rfl
set_option maxRecDepth 100000 in
theorem am_cw_m7_keep : Cond.code m7_keep.2.1 m7_keep.2.2.1 m7_keep.2.2.2.1 m7_keep.2.2.2.2 ∈ lw_tbl := List.mem_of_getElem? (i := 921) rfl
set_option maxRecDepth 100000 in
theorem am_cw_m7_back : Cond.code m7_back.2.1 m7_back.2.2.1 m7_back.2.2.2.1 m7_back.2.2.2.2 ∈ lw_tbl := List.mem_of_getElem? (i := 925) rfl
set_option maxRecDepth 100000 in
theorem am_cw_m7_count : Cond.code m7_count.2.1 m7_count.2.2.1 m7_count.2.2.2.1 m7_count.2.2.2.2 ∈ lw_tbl := List.mem_of_getElem? (i := 929) rfl
set_option maxRecDepth 100000 in
theorem am_cw_m7_trace : Cond.code m7_trace.2.1 m7_trace.2.2.1 m7_trace.2.2.2.1 m7_trace.2.2.2.2 ∈ lw_tbl := List.mem_of_getElem? (i := 933) rfl
set_option maxRecDepth 100000 in
theorem am_cw_all : ∀ y ∈ am_all, Cond.code y.2.1 y.2.2.1 y.2.2.2.1 y.2.2.2.2 ∈ lw_tbl := List.forall_mem_cons.mpr ⟨am_cw_m6_init, List.forall_mem_cons.mpr ⟨am_cw_m4_init, List.forall_mem_cons.mpr ⟨am_cw_m5_init, List.forall_mem_cons.mpr ⟨am_cw_m3_init, List.forall_mem_cons.mpr ⟨am_cw_m1_init, List.forall_mem_cons.mpr ⟨am_cw_m2_init, List.forall_mem_cons.mpr ⟨am_cw_m0_init, List.forall_mem_cons.mpr ⟨am_cw_m6_beginAnew, List.forall_mem_cons.mpr ⟨am_cw_m3_begin, List.forall_mem_cons.mpr ⟨am_cw_m3_loseAll, List.forall_mem_cons.mpr ⟨am_cw_m0_reckon, List.forall_mem_cons.mpr ⟨am_cw_m0_soonestOf, List.forall_mem_cons.mpr ⟨am_cw_m5_needsOf, List.forall_mem_cons.mpr ⟨am_cw_m5_sumOf, List.forall_mem_cons.mpr ⟨am_cw_mJ9_max, List.forall_mem_cons.mpr ⟨am_cw_mJ9_min, List.forall_mem_cons.mpr ⟨am_cw_m0_clothedBy, List.forall_mem_cons.mpr ⟨am_cw_m5_suitsAll, List.forall_mem_cons.mpr ⟨am_cw_m5_suits, List.forall_mem_cons.mpr ⟨am_cw_m0_mostOf, List.forall_mem_cons.mpr ⟨am_cw_m0_clothes, List.forall_mem_cons.mpr ⟨am_cw_mJ6_bitCount, List.forall_mem_cons.mpr ⟨am_cw_m6_type, List.forall_mem_cons.mpr ⟨am_cw_m4_add, List.forall_mem_cons.mpr ⟨am_cw_m6_clear, List.forall_mem_cons.mpr ⟨am_cw_m6_marsh, List.forall_mem_cons.mpr ⟨am_cw_m5_read, List.forall_mem_cons.mpr ⟨am_cw_m5_unsay, List.forall_mem_cons.mpr ⟨am_cw_m4_rewind, List.forall_mem_cons.mpr ⟨am_cw_m4_step, List.forall_mem_cons.mpr ⟨am_cw_m4_isDigit, List.forall_mem_cons.mpr ⟨am_cw_m4_isSign, List.forall_mem_cons.mpr ⟨am_cw_m5_readItem, List.forall_mem_cons.mpr ⟨am_cw_m5_readDawn, List.forall_mem_cons.mpr ⟨am_cw_m5_readNumber, List.forall_mem_cons.mpr ⟨am_cw_m5_readItemsEnd, List.forall_mem_cons.mpr ⟨am_cw_m5_readClient, List.forall_mem_cons.mpr ⟨am_cw_m5_readTen, List.forall_mem_cons.mpr ⟨am_cw_m5_readCellar, List.forall_mem_cons.mpr ⟨am_cw_m6_ofDawn, List.forall_mem_cons.mpr ⟨am_cw_m6_isDawn, List.forall_mem_cons.mpr ⟨am_cw_m6_client, List.forall_mem_cons.mpr ⟨am_cw_m6_isClient, List.forall_mem_cons.mpr ⟨am_cw_m3_heldBy, List.forall_mem_cons.mpr ⟨am_cw_m3_heldOf, List.forall_mem_cons.mpr ⟨am_cw_m3_patchesOf, List.forall_mem_cons.mpr ⟨am_cw_m3_isDressed, List.forall_mem_cons.mpr ⟨am_cw_m6_has, List.forall_mem_cons.mpr ⟨am_cw_m6_now, List.forall_mem_cons.mpr ⟨am_cw_m6_patchesOfDressed, List.forall_mem_cons.mpr ⟨am_cw_m6_cuts, List.forall_mem_cons.mpr ⟨am_cw_m6_mayCut, List.forall_mem_cons.mpr ⟨am_cw_m1_remember, List.forall_mem_cons.mpr ⟨am_cw_m3_become, List.forall_mem_cons.mpr ⟨am_cw_m3_cut, List.forall_mem_cons.mpr ⟨am_cw_m6_sews, List.forall_mem_cons.mpr ⟨am_cw_m6_maySew, List.forall_mem_cons.mpr ⟨am_cw_m3_sew, List.forall_mem_cons.mpr ⟨am_cw_m6_dawn, List.forall_mem_cons.mpr ⟨am_cw_m3_goBy, List.forall_mem_cons.mpr ⟨am_cw_m6_undo, List.forall_mem_cons.mpr ⟨am_cw_m1_recall, List.forall_mem_cons.mpr ⟨am_cw_m6_round, List.forall_mem_cons.mpr ⟨am_cw_m6_isSet, List.forall_mem_cons.mpr ⟨am_cw_m0_inOrder, List.forall_mem_cons.mpr ⟨am_cw_m0_lowestInTime, List.forall_mem_cons.mpr ⟨am_cw_m0_leastBehind, List.forall_mem_cons.mpr ⟨am_cw_m5_sewingOf, List.forall_mem_cons.mpr ⟨am_cw_m6_can, List.forall_mem_cons.mpr ⟨am_cw_m6_plan, List.forall_mem_cons.mpr ⟨am_cw_m0_dawnTold, List.forall_mem_cons.mpr ⟨am_cw_m0_tell, List.forall_mem_cons.mpr ⟨am_cw_m0_tellOne, List.forall_mem_cons.mpr ⟨am_cw_m6_ways, List.forall_mem_cons.mpr ⟨am_cw_m6_waysFrom, List.forall_mem_cons.mpr ⟨am_cw_m6_suns, List.forall_mem_cons.mpr ⟨am_cw_m6_chances, List.forall_mem_cons.mpr ⟨am_cw_m6_sharedDivisor, List.forall_mem_cons.mpr ⟨am_cw_m6_found, List.forall_mem_cons.mpr ⟨am_cw_m2_add, List.forall_mem_cons.mpr ⟨am_cw_m6_forget, List.forall_mem_cons.mpr ⟨am_cw_m6_from, List.forall_mem_cons.mpr ⟨am_cw_m2_agreeWith, List.forall_mem_cons.mpr ⟨am_cw_m6_look, List.forall_mem_cons.mpr ⟨am_cw_m6_greaterPart, List.forall_mem_cons.mpr ⟨am_cw_m6_rate, List.forall_mem_cons.mpr ⟨am_cw_m6_rateCoat, List.forall_mem_cons.mpr ⟨am_cw_m6_rateCape, List.forall_mem_cons.mpr ⟨am_cw_m6_rateGown, List.forall_mem_cons.mpr ⟨am_cw_m6_rateJudge, List.forall_mem_cons.mpr ⟨am_cw_m6_rateBride, List.forall_mem_cons.mpr ⟨am_cw_m6_rateShirt, List.forall_mem_cons.mpr ⟨am_cw_m6_keep, List.forall_mem_cons.mpr ⟨am_cw_m6_isImage, List.forall_mem_cons.mpr ⟨am_cw_m6_back, List.forall_mem_cons.mpr ⟨am_cw_m6_count, List.forall_mem_cons.mpr ⟨am_cw_m6_trace, List.forall_mem_cons.mpr ⟨am_cw_m7_init, List.forall_mem_cons.mpr ⟨am_cw_m7_reads, List.forall_mem_cons.mpr ⟨am_cw_m7_token, List.forall_mem_cons.mpr ⟨am_cw_m7_letterAt, List.forall_mem_cons.mpr ⟨am_cw_m7_isWord, List.forall_mem_cons.mpr ⟨am_cw_m7_isDigit, List.forall_mem_cons.mpr ⟨am_cw_m7_in, List.forall_mem_cons.mpr ⟨am_cw_m7_readsItem, List.forall_mem_cons.mpr ⟨am_cw_m7_number, List.forall_mem_cons.mpr ⟨am_cw_m7_once, List.forall_mem_cons.mpr ⟨am_cw_m7_begins, List.forall_mem_cons.mpr ⟨am_cw_m7_type, List.forall_mem_cons.mpr ⟨am_cw_m7_clear, List.forall_mem_cons.mpr ⟨am_cw_m7_marsh, List.forall_mem_cons.mpr ⟨am_cw_m7_ofDawn, List.forall_mem_cons.mpr ⟨am_cw_m7_isDawn, List.forall_mem_cons.mpr ⟨am_cw_m7_client, List.forall_mem_cons.mpr ⟨am_cw_m7_isClient, List.forall_mem_cons.mpr ⟨am_cw_m7_yardsOf, List.forall_mem_cons.mpr ⟨am_cw_m7_patches, List.forall_mem_cons.mpr ⟨am_cw_m7_has, List.forall_mem_cons.mpr ⟨am_cw_m7_now, List.forall_mem_cons.mpr ⟨am_cw_m7_isOf, List.forall_mem_cons.mpr ⟨am_cw_m7_cuts, List.forall_mem_cons.mpr ⟨am_cw_m7_suits, List.forall_mem_cons.mpr ⟨am_cw_m7_keeps, List.forall_mem_cons.mpr ⟨am_cw_m7_sews, List.forall_mem_cons.mpr ⟨am_cw_m7_dawn, List.forall_mem_cons.mpr ⟨am_cw_m7_undo, List.forall_mem_cons.mpr ⟨am_cw_m7_round, List.forall_mem_cons.mpr ⟨am_cw_m7_isSet, List.forall_mem_cons.mpr ⟨am_cw_m7_reckonsSums, List.forall_mem_cons.mpr ⟨am_cw_m7_reckons, List.forall_mem_cons.mpr ⟨am_cw_m7_ones, List.forall_mem_cons.mpr ⟨am_cw_m7_can, List.forall_mem_cons.mpr ⟨am_cw_m7_canBy, List.forall_mem_cons.mpr ⟨am_cw_m7_plan, List.forall_mem_cons.mpr ⟨am_cw_m7_ways, List.forall_mem_cons.mpr ⟨am_cw_m7_suns, List.forall_mem_cons.mpr ⟨am_cw_m7_found, List.forall_mem_cons.mpr ⟨am_cw_m7_forget, List.forall_mem_cons.mpr ⟨am_cw_m7_from, List.forall_mem_cons.mpr ⟨am_cw_m7_fromNow, List.forall_mem_cons.mpr ⟨am_cw_m7_inFog, List.forall_mem_cons.mpr ⟨am_cw_m7_look, List.forall_mem_cons.mpr ⟨am_cw_m7_rate, List.forall_mem_cons.mpr ⟨am_cw_m7_keep, List.forall_mem_cons.mpr ⟨am_cw_m7_back, List.forall_mem_cons.mpr ⟨am_cw_m7_count, List.forall_mem_cons.mpr ⟨am_cw_m7_trace, fun _ h => absurd h List.not_mem_nil⟩⟩⟩⟩⟩⟩⟩⟩⟩⟩⟩⟩⟩⟩⟩⟩⟩⟩⟩⟩⟩⟩⟩⟩⟩⟩⟩⟩⟩⟩⟩⟩⟩⟩⟩⟩⟩⟩⟩⟩⟩⟩⟩⟩⟩⟩⟩⟩⟩⟩⟩⟩⟩⟩⟩⟩⟩⟩⟩⟩⟩⟩⟩⟩⟩⟩⟩⟩⟩⟩⟩⟩⟩⟩⟩⟩⟩⟩⟩⟩⟩⟩⟩⟩⟩⟩⟩⟩⟩⟩⟩⟩⟩⟩⟩⟩⟩⟩⟩⟩⟩⟩⟩⟩⟩⟩⟩⟩⟩⟩⟩⟩⟩⟩⟩⟩⟩⟩⟩⟩⟩⟩⟩⟩⟩⟩⟩⟩⟩⟩⟩⟩⟩⟩⟩⟩⟩⟩⟩⟩⟩⟩⟩⟩⟩⟩⟩
set_option maxRecDepth 100000 in
theorem am_im_m6_init : m6_init ∈ am_all := List.mem_of_getElem? (i := 0) rfl
set_option maxRecDepth 100000 in
theorem am_im_m4_init : m4_init ∈ am_all := List.mem_of_getElem? (i := 1) rfl
set_option maxRecDepth 100000 in
theorem am_im_m5_init : m5_init ∈ am_all := List.mem_of_getElem? (i := 2) rfl
set_option maxRecDepth 100000 in
theorem am_im_m3_init : m3_init ∈ am_all := List.mem_of_getElem? (i := 3) rfl
set_option maxRecDepth 100000 in
theorem am_im_m1_init : m1_init ∈ am_all := List.mem_of_getElem? (i := 4) rfl
set_option maxRecDepth 100000 in
theorem am_im_m2_init : m2_init ∈ am_all := List.mem_of_getElem? (i := 5) rfl
set_option maxRecDepth 100000 in
theorem am_im_m0_init : m0_init ∈ am_all := List.mem_of_getElem? (i := 6) rfl
set_option maxRecDepth 100000 in
theorem am_im_m6_beginAnew : m6_beginAnew ∈ am_all := List.mem_of_getElem? (i := 7) rfl
set_option maxRecDepth 100000 in
theorem am_im_m3_begin : m3_begin ∈ am_all := List.mem_of_getElem? (i := 8) rfl
set_option maxRecDepth 100000 in
theorem am_im_m3_loseAll : m3_loseAll ∈ am_all := List.mem_of_getElem? (i := 9) rfl
set_option maxRecDepth 100000 in
theorem am_im_m0_reckon : m0_reckon ∈ am_all := List.mem_of_getElem? (i := 10) rfl
set_option maxRecDepth 100000 in
theorem am_im_m0_soonestOf : m0_soonestOf ∈ am_all := List.mem_of_getElem? (i := 11) rfl
set_option maxRecDepth 100000 in
theorem am_im_m5_needsOf : m5_needsOf ∈ am_all := List.mem_of_getElem? (i := 12) rfl
set_option maxRecDepth 100000 in
theorem am_im_m5_sumOf : m5_sumOf ∈ am_all := List.mem_of_getElem? (i := 13) rfl
set_option maxRecDepth 100000 in
theorem am_im_mJ9_max : mJ9_max ∈ am_all := List.mem_of_getElem? (i := 14) rfl
set_option maxRecDepth 100000 in
theorem am_im_mJ9_min : mJ9_min ∈ am_all := List.mem_of_getElem? (i := 15) rfl
set_option maxRecDepth 100000 in
theorem am_im_m0_clothedBy : m0_clothedBy ∈ am_all := List.mem_of_getElem? (i := 16) rfl
set_option maxRecDepth 100000 in
theorem am_im_m5_suitsAll : m5_suitsAll ∈ am_all := List.mem_of_getElem? (i := 17) rfl
set_option maxRecDepth 100000 in
theorem am_im_m5_suits : m5_suits ∈ am_all := List.mem_of_getElem? (i := 18) rfl
set_option maxRecDepth 100000 in
theorem am_im_m0_mostOf : m0_mostOf ∈ am_all := List.mem_of_getElem? (i := 19) rfl
set_option maxRecDepth 100000 in
theorem am_im_m0_clothes : m0_clothes ∈ am_all := List.mem_of_getElem? (i := 20) rfl
set_option maxRecDepth 100000 in
theorem am_im_mJ6_bitCount : mJ6_bitCount ∈ am_all := List.mem_of_getElem? (i := 21) rfl
set_option maxRecDepth 100000 in
theorem am_im_m6_type : m6_type ∈ am_all := List.mem_of_getElem? (i := 22) rfl
set_option maxRecDepth 100000 in
theorem am_im_m4_add : m4_add ∈ am_all := List.mem_of_getElem? (i := 23) rfl
set_option maxRecDepth 100000 in
theorem am_im_m6_clear : m6_clear ∈ am_all := List.mem_of_getElem? (i := 24) rfl
set_option maxRecDepth 100000 in
theorem am_im_m6_marsh : m6_marsh ∈ am_all := List.mem_of_getElem? (i := 25) rfl
set_option maxRecDepth 100000 in
theorem am_im_m5_read : m5_read ∈ am_all := List.mem_of_getElem? (i := 26) rfl
set_option maxRecDepth 100000 in
theorem am_im_m5_unsay : m5_unsay ∈ am_all := List.mem_of_getElem? (i := 27) rfl
set_option maxRecDepth 100000 in
theorem am_im_m4_rewind : m4_rewind ∈ am_all := List.mem_of_getElem? (i := 28) rfl
set_option maxRecDepth 100000 in
theorem am_im_m4_step : m4_step ∈ am_all := List.mem_of_getElem? (i := 29) rfl
set_option maxRecDepth 100000 in
theorem am_im_m4_isDigit : m4_isDigit ∈ am_all := List.mem_of_getElem? (i := 30) rfl
set_option maxRecDepth 100000 in
theorem am_im_m4_isSign : m4_isSign ∈ am_all := List.mem_of_getElem? (i := 31) rfl
set_option maxRecDepth 100000 in
theorem am_im_m5_readItem : m5_readItem ∈ am_all := List.mem_of_getElem? (i := 32) rfl
set_option maxRecDepth 100000 in
theorem am_im_m5_readDawn : m5_readDawn ∈ am_all := List.mem_of_getElem? (i := 33) rfl
set_option maxRecDepth 100000 in
theorem am_im_m5_readNumber : m5_readNumber ∈ am_all := List.mem_of_getElem? (i := 34) rfl
set_option maxRecDepth 100000 in
theorem am_im_m5_readItemsEnd : m5_readItemsEnd ∈ am_all := List.mem_of_getElem? (i := 35) rfl
set_option maxRecDepth 100000 in
theorem am_im_m5_readClient : m5_readClient ∈ am_all := List.mem_of_getElem? (i := 36) rfl
set_option maxRecDepth 100000 in
theorem am_im_m5_readTen : m5_readTen ∈ am_all := List.mem_of_getElem? (i := 37) rfl
set_option maxRecDepth 100000 in
theorem am_im_m5_readCellar : m5_readCellar ∈ am_all := List.mem_of_getElem? (i := 38) rfl
set_option maxRecDepth 100000 in
theorem am_im_m6_ofDawn : m6_ofDawn ∈ am_all := List.mem_of_getElem? (i := 39) rfl
set_option maxRecDepth 100000 in
theorem am_im_m6_isDawn : m6_isDawn ∈ am_all := List.mem_of_getElem? (i := 40) rfl
set_option maxRecDepth 100000 in
theorem am_im_m6_client : m6_client ∈ am_all := List.mem_of_getElem? (i := 41) rfl
set_option maxRecDepth 100000 in
theorem am_im_m6_isClient : m6_isClient ∈ am_all := List.mem_of_getElem? (i := 42) rfl
set_option maxRecDepth 100000 in
theorem am_im_m3_heldBy : m3_heldBy ∈ am_all := List.mem_of_getElem? (i := 43) rfl
set_option maxRecDepth 100000 in
theorem am_im_m3_heldOf : m3_heldOf ∈ am_all := List.mem_of_getElem? (i := 44) rfl
set_option maxRecDepth 100000 in
theorem am_im_m3_patchesOf : m3_patchesOf ∈ am_all := List.mem_of_getElem? (i := 45) rfl
set_option maxRecDepth 100000 in
theorem am_im_m3_isDressed : m3_isDressed ∈ am_all := List.mem_of_getElem? (i := 46) rfl
set_option maxRecDepth 100000 in
theorem am_im_m6_has : m6_has ∈ am_all := List.mem_of_getElem? (i := 47) rfl
set_option maxRecDepth 100000 in
theorem am_im_m6_now : m6_now ∈ am_all := List.mem_of_getElem? (i := 48) rfl
set_option maxRecDepth 100000 in
theorem am_im_m6_patchesOfDressed : m6_patchesOfDressed ∈ am_all := List.mem_of_getElem? (i := 49) rfl
set_option maxRecDepth 100000 in
theorem am_im_m6_cuts : m6_cuts ∈ am_all := List.mem_of_getElem? (i := 50) rfl
set_option maxRecDepth 100000 in
theorem am_im_m6_mayCut : m6_mayCut ∈ am_all := List.mem_of_getElem? (i := 51) rfl
set_option maxRecDepth 100000 in
theorem am_im_m1_remember : m1_remember ∈ am_all := List.mem_of_getElem? (i := 52) rfl
set_option maxRecDepth 100000 in
theorem am_im_m3_become : m3_become ∈ am_all := List.mem_of_getElem? (i := 53) rfl
set_option maxRecDepth 100000 in
theorem am_im_m3_cut : m3_cut ∈ am_all := List.mem_of_getElem? (i := 54) rfl
set_option maxRecDepth 100000 in
theorem am_im_m6_sews : m6_sews ∈ am_all := List.mem_of_getElem? (i := 55) rfl
set_option maxRecDepth 100000 in
theorem am_im_m6_maySew : m6_maySew ∈ am_all := List.mem_of_getElem? (i := 56) rfl
set_option maxRecDepth 100000 in
theorem am_im_m3_sew : m3_sew ∈ am_all := List.mem_of_getElem? (i := 57) rfl
set_option maxRecDepth 100000 in
theorem am_im_m6_dawn : m6_dawn ∈ am_all := List.mem_of_getElem? (i := 58) rfl
set_option maxRecDepth 100000 in
theorem am_im_m3_goBy : m3_goBy ∈ am_all := List.mem_of_getElem? (i := 59) rfl
set_option maxRecDepth 100000 in
theorem am_im_m6_undo : m6_undo ∈ am_all := List.mem_of_getElem? (i := 60) rfl
set_option maxRecDepth 100000 in
theorem am_im_m1_recall : m1_recall ∈ am_all := List.mem_of_getElem? (i := 61) rfl
set_option maxRecDepth 100000 in
theorem am_im_m6_round : m6_round ∈ am_all := List.mem_of_getElem? (i := 62) rfl
set_option maxRecDepth 100000 in
theorem am_im_m6_isSet : m6_isSet ∈ am_all := List.mem_of_getElem? (i := 63) rfl
set_option maxRecDepth 100000 in
theorem am_im_m0_inOrder : m0_inOrder ∈ am_all := List.mem_of_getElem? (i := 64) rfl
set_option maxRecDepth 100000 in
theorem am_im_m0_lowestInTime : m0_lowestInTime ∈ am_all := List.mem_of_getElem? (i := 65) rfl
set_option maxRecDepth 100000 in
theorem am_im_m0_leastBehind : m0_leastBehind ∈ am_all := List.mem_of_getElem? (i := 66) rfl
set_option maxRecDepth 100000 in
theorem am_im_m5_sewingOf : m5_sewingOf ∈ am_all := List.mem_of_getElem? (i := 67) rfl
set_option maxRecDepth 100000 in
theorem am_im_m6_can : m6_can ∈ am_all := List.mem_of_getElem? (i := 68) rfl
set_option maxRecDepth 100000 in
theorem am_im_m6_plan : m6_plan ∈ am_all := List.mem_of_getElem? (i := 69) rfl
set_option maxRecDepth 100000 in
theorem am_im_m0_dawnTold : m0_dawnTold ∈ am_all := List.mem_of_getElem? (i := 70) rfl
set_option maxRecDepth 100000 in
theorem am_im_m0_tell : m0_tell ∈ am_all := List.mem_of_getElem? (i := 71) rfl
set_option maxRecDepth 100000 in
theorem am_im_m0_tellOne : m0_tellOne ∈ am_all := List.mem_of_getElem? (i := 72) rfl
set_option maxRecDepth 100000 in
theorem am_im_m6_ways : m6_ways ∈ am_all := List.mem_of_getElem? (i := 73) rfl
set_option maxRecDepth 100000 in
theorem am_im_m6_waysFrom : m6_waysFrom ∈ am_all := List.mem_of_getElem? (i := 74) rfl
set_option maxRecDepth 100000 in
theorem am_im_m6_suns : m6_suns ∈ am_all := List.mem_of_getElem? (i := 75) rfl
set_option maxRecDepth 100000 in
theorem am_im_m6_chances : m6_chances ∈ am_all := List.mem_of_getElem? (i := 76) rfl
set_option maxRecDepth 100000 in
theorem am_im_m6_sharedDivisor : m6_sharedDivisor ∈ am_all := List.mem_of_getElem? (i := 77) rfl
set_option maxRecDepth 100000 in
theorem am_im_m6_found : m6_found ∈ am_all := List.mem_of_getElem? (i := 78) rfl
set_option maxRecDepth 100000 in
theorem am_im_m2_add : m2_add ∈ am_all := List.mem_of_getElem? (i := 79) rfl
set_option maxRecDepth 100000 in
theorem am_im_m6_forget : m6_forget ∈ am_all := List.mem_of_getElem? (i := 80) rfl
set_option maxRecDepth 100000 in
theorem am_im_m6_from : m6_from ∈ am_all := List.mem_of_getElem? (i := 81) rfl
set_option maxRecDepth 100000 in
theorem am_im_m2_agreeWith : m2_agreeWith ∈ am_all := List.mem_of_getElem? (i := 82) rfl
set_option maxRecDepth 100000 in
theorem am_im_m6_look : m6_look ∈ am_all := List.mem_of_getElem? (i := 83) rfl
set_option maxRecDepth 100000 in
theorem am_im_m6_greaterPart : m6_greaterPart ∈ am_all := List.mem_of_getElem? (i := 84) rfl
set_option maxRecDepth 100000 in
theorem am_im_m6_rate : m6_rate ∈ am_all := List.mem_of_getElem? (i := 85) rfl
set_option maxRecDepth 100000 in
theorem am_im_m6_rateCoat : m6_rateCoat ∈ am_all := List.mem_of_getElem? (i := 86) rfl
set_option maxRecDepth 100000 in
theorem am_im_m6_rateCape : m6_rateCape ∈ am_all := List.mem_of_getElem? (i := 87) rfl
set_option maxRecDepth 100000 in
theorem am_im_m6_rateGown : m6_rateGown ∈ am_all := List.mem_of_getElem? (i := 88) rfl
set_option maxRecDepth 100000 in
theorem am_im_m6_rateJudge : m6_rateJudge ∈ am_all := List.mem_of_getElem? (i := 89) rfl
set_option maxRecDepth 100000 in
theorem am_im_m6_rateBride : m6_rateBride ∈ am_all := List.mem_of_getElem? (i := 90) rfl
set_option maxRecDepth 100000 in
theorem am_im_m6_rateShirt : m6_rateShirt ∈ am_all := List.mem_of_getElem? (i := 91) rfl
set_option maxRecDepth 100000 in
theorem am_im_m6_keep : m6_keep ∈ am_all := List.mem_of_getElem? (i := 92) rfl
set_option maxRecDepth 100000 in
theorem am_im_m6_isImage : m6_isImage ∈ am_all := List.mem_of_getElem? (i := 93) rfl
set_option maxRecDepth 100000 in
theorem am_im_m6_back : m6_back ∈ am_all := List.mem_of_getElem? (i := 94) rfl
set_option maxRecDepth 100000 in
theorem am_im_m6_count : m6_count ∈ am_all := List.mem_of_getElem? (i := 95) rfl
set_option maxRecDepth 100000 in
theorem am_im_m6_trace : m6_trace ∈ am_all := List.mem_of_getElem? (i := 96) rfl
set_option maxRecDepth 100000 in
theorem am_im_m7_init : m7_init ∈ am_all := List.mem_of_getElem? (i := 97) rfl
set_option maxRecDepth 100000 in
theorem am_im_m7_reads : m7_reads ∈ am_all := List.mem_of_getElem? (i := 98) rfl
set_option maxRecDepth 100000 in
theorem am_im_m7_token : m7_token ∈ am_all := List.mem_of_getElem? (i := 99) rfl
set_option maxRecDepth 100000 in
theorem am_im_m7_letterAt : m7_letterAt ∈ am_all := List.mem_of_getElem? (i := 100) rfl
set_option maxRecDepth 100000 in
theorem am_im_m7_isWord : m7_isWord ∈ am_all := List.mem_of_getElem? (i := 101) rfl
set_option maxRecDepth 100000 in
theorem am_im_m7_isDigit : m7_isDigit ∈ am_all := List.mem_of_getElem? (i := 102) rfl
set_option maxRecDepth 100000 in
theorem am_im_m7_in : m7_in ∈ am_all := List.mem_of_getElem? (i := 103) rfl
set_option maxRecDepth 100000 in
theorem am_im_m7_readsItem : m7_readsItem ∈ am_all := List.mem_of_getElem? (i := 104) rfl
set_option maxRecDepth 100000 in
theorem am_im_m7_number : m7_number ∈ am_all := List.mem_of_getElem? (i := 105) rfl
set_option maxRecDepth 100000 in
theorem am_im_m7_once : m7_once ∈ am_all := List.mem_of_getElem? (i := 106) rfl
set_option maxRecDepth 100000 in
theorem am_im_m7_begins : m7_begins ∈ am_all := List.mem_of_getElem? (i := 107) rfl
set_option maxRecDepth 100000 in
theorem am_im_m7_type : m7_type ∈ am_all := List.mem_of_getElem? (i := 108) rfl
set_option maxRecDepth 100000 in
theorem am_im_m7_clear : m7_clear ∈ am_all := List.mem_of_getElem? (i := 109) rfl
set_option maxRecDepth 100000 in
theorem am_im_m7_marsh : m7_marsh ∈ am_all := List.mem_of_getElem? (i := 110) rfl
set_option maxRecDepth 100000 in
theorem am_im_m7_ofDawn : m7_ofDawn ∈ am_all := List.mem_of_getElem? (i := 111) rfl
set_option maxRecDepth 100000 in
theorem am_im_m7_isDawn : m7_isDawn ∈ am_all := List.mem_of_getElem? (i := 112) rfl
set_option maxRecDepth 100000 in
theorem am_im_m7_client : m7_client ∈ am_all := List.mem_of_getElem? (i := 113) rfl
set_option maxRecDepth 100000 in
theorem am_im_m7_isClient : m7_isClient ∈ am_all := List.mem_of_getElem? (i := 114) rfl
set_option maxRecDepth 100000 in
theorem am_im_m7_yardsOf : m7_yardsOf ∈ am_all := List.mem_of_getElem? (i := 115) rfl
set_option maxRecDepth 100000 in
theorem am_im_m7_patches : m7_patches ∈ am_all := List.mem_of_getElem? (i := 116) rfl
set_option maxRecDepth 100000 in
theorem am_im_m7_has : m7_has ∈ am_all := List.mem_of_getElem? (i := 117) rfl
set_option maxRecDepth 100000 in
theorem am_im_m7_now : m7_now ∈ am_all := List.mem_of_getElem? (i := 118) rfl
set_option maxRecDepth 100000 in
theorem am_im_m7_isOf : m7_isOf ∈ am_all := List.mem_of_getElem? (i := 119) rfl
set_option maxRecDepth 100000 in
theorem am_im_m7_cuts : m7_cuts ∈ am_all := List.mem_of_getElem? (i := 120) rfl
set_option maxRecDepth 100000 in
theorem am_im_m7_suits : m7_suits ∈ am_all := List.mem_of_getElem? (i := 121) rfl
set_option maxRecDepth 100000 in
theorem am_im_m7_keeps : m7_keeps ∈ am_all := List.mem_of_getElem? (i := 122) rfl
set_option maxRecDepth 100000 in
theorem am_im_m7_sews : m7_sews ∈ am_all := List.mem_of_getElem? (i := 123) rfl
set_option maxRecDepth 100000 in
theorem am_im_m7_dawn : m7_dawn ∈ am_all := List.mem_of_getElem? (i := 124) rfl
set_option maxRecDepth 100000 in
theorem am_im_m7_undo : m7_undo ∈ am_all := List.mem_of_getElem? (i := 125) rfl
set_option maxRecDepth 100000 in
theorem am_im_m7_round : m7_round ∈ am_all := List.mem_of_getElem? (i := 126) rfl
set_option maxRecDepth 100000 in
theorem am_im_m7_isSet : m7_isSet ∈ am_all := List.mem_of_getElem? (i := 127) rfl
set_option maxRecDepth 100000 in
theorem am_im_m7_reckonsSums : m7_reckonsSums ∈ am_all := List.mem_of_getElem? (i := 128) rfl
set_option maxRecDepth 100000 in
theorem am_im_m7_reckons : m7_reckons ∈ am_all := List.mem_of_getElem? (i := 129) rfl
set_option maxRecDepth 100000 in
theorem am_im_m7_ones : m7_ones ∈ am_all := List.mem_of_getElem? (i := 130) rfl
set_option maxRecDepth 100000 in
theorem am_im_m7_can : m7_can ∈ am_all := List.mem_of_getElem? (i := 131) rfl
set_option maxRecDepth 100000 in
theorem am_im_m7_canBy : m7_canBy ∈ am_all := List.mem_of_getElem? (i := 132) rfl
set_option maxRecDepth 100000 in
theorem am_im_m7_plan : m7_plan ∈ am_all := List.mem_of_getElem? (i := 133) rfl
set_option maxRecDepth 100000 in
theorem am_im_m7_ways : m7_ways ∈ am_all := List.mem_of_getElem? (i := 134) rfl
set_option maxRecDepth 100000 in
theorem am_im_m7_suns : m7_suns ∈ am_all := List.mem_of_getElem? (i := 135) rfl
set_option maxRecDepth 100000 in
theorem am_im_m7_found : m7_found ∈ am_all := List.mem_of_getElem? (i := 136) rfl
set_option maxRecDepth 100000 in
theorem am_im_m7_forget : m7_forget ∈ am_all := List.mem_of_getElem? (i := 137) rfl
set_option maxRecDepth 100000 in
theorem am_im_m7_from : m7_from ∈ am_all := List.mem_of_getElem? (i := 138) rfl
set_option maxRecDepth 100000 in
theorem am_im_m7_fromNow : m7_fromNow ∈ am_all := List.mem_of_getElem? (i := 139) rfl
set_option maxRecDepth 100000 in
theorem am_im_m7_inFog : m7_inFog ∈ am_all := List.mem_of_getElem? (i := 140) rfl
set_option maxRecDepth 100000 in
theorem am_im_m7_look : m7_look ∈ am_all := List.mem_of_getElem? (i := 141) rfl
set_option maxRecDepth 100000 in
theorem am_im_m7_rate : m7_rate ∈ am_all := List.mem_of_getElem? (i := 142) rfl
set_option maxRecDepth 100000 in
theorem am_im_m7_keep : m7_keep ∈ am_all := List.mem_of_getElem? (i := 143) rfl
set_option maxRecDepth 100000 in
theorem am_im_m7_back : m7_back ∈ am_all := List.mem_of_getElem? (i := 144) rfl
set_option maxRecDepth 100000 in
theorem am_im_m7_count : m7_count ∈ am_all := List.mem_of_getElem? (i := 145) rfl
set_option maxRecDepth 100000 in
theorem am_im_m7_trace : m7_trace ∈ am_all := List.mem_of_getElem? (i := 146) rfl
set_option maxRecDepth 100000 in
theorem am_im_in : ∀ e ∈ am_inA, e.2.2.2.1 ∈ am_all := List.forall_mem_cons.mpr ⟨am_im_m6_init, List.forall_mem_cons.mpr ⟨am_im_m6_init, List.forall_mem_cons.mpr ⟨am_im_m4_init, List.forall_mem_cons.mpr ⟨am_im_m6_init, List.forall_mem_cons.mpr ⟨am_im_m5_init, List.forall_mem_cons.mpr ⟨am_im_m6_init, List.forall_mem_cons.mpr ⟨am_im_m3_init, List.forall_mem_cons.mpr ⟨am_im_m6_init, List.forall_mem_cons.mpr ⟨am_im_m1_init, List.forall_mem_cons.mpr ⟨am_im_m6_init, List.forall_mem_cons.mpr ⟨am_im_m3_init, List.forall_mem_cons.mpr ⟨am_im_m2_init, List.forall_mem_cons.mpr ⟨am_im_m6_init, List.forall_mem_cons.mpr ⟨am_im_m0_init, List.forall_mem_cons.mpr ⟨am_im_m6_init, List.forall_mem_cons.mpr ⟨am_im_m6_beginAnew, List.forall_mem_cons.mpr ⟨am_im_m3_begin, List.forall_mem_cons.mpr ⟨am_im_m6_init, List.forall_mem_cons.mpr ⟨am_im_m3_loseAll, List.forall_mem_cons.mpr ⟨am_im_m0_reckon, List.forall_mem_cons.mpr ⟨am_im_m0_soonestOf, List.forall_mem_cons.mpr ⟨am_im_m5_needsOf, List.forall_mem_cons.mpr ⟨am_im_m5_sumOf, List.forall_mem_cons.mpr ⟨am_im_mJ9_max, List.forall_mem_cons.mpr ⟨am_im_mJ9_min, List.forall_mem_cons.mpr ⟨am_im_m0_clothedBy, List.forall_mem_cons.mpr ⟨am_im_m5_suitsAll, List.forall_mem_cons.mpr ⟨am_im_m5_suits, List.forall_mem_cons.mpr ⟨am_im_m0_mostOf, List.forall_mem_cons.mpr ⟨am_im_m0_clothes, List.forall_mem_cons.mpr ⟨am_im_mJ6_bitCount, List.forall_mem_cons.mpr ⟨am_im_m6_type, List.forall_mem_cons.mpr ⟨am_im_m4_add, List.forall_mem_cons.mpr ⟨am_im_m6_clear, List.forall_mem_cons.mpr ⟨am_im_m6_marsh, List.forall_mem_cons.mpr ⟨am_im_m5_read, List.forall_mem_cons.mpr ⟨am_im_m5_unsay, List.forall_mem_cons.mpr ⟨am_im_m4_rewind, List.forall_mem_cons.mpr ⟨am_im_m4_step, List.forall_mem_cons.mpr ⟨am_im_m4_isDigit, List.forall_mem_cons.mpr ⟨am_im_mJ9_min, List.forall_mem_cons.mpr ⟨am_im_m4_isSign, List.forall_mem_cons.mpr ⟨am_im_m5_readItem, List.forall_mem_cons.mpr ⟨am_im_m5_readDawn, List.forall_mem_cons.mpr ⟨am_im_m5_readNumber, List.forall_mem_cons.mpr ⟨am_im_m5_readItemsEnd, List.forall_mem_cons.mpr ⟨am_im_m5_readClient, List.forall_mem_cons.mpr ⟨am_im_m5_readTen, List.forall_mem_cons.mpr ⟨am_im_m5_readCellar, List.forall_mem_cons.mpr ⟨am_im_m6_ofDawn, List.forall_mem_cons.mpr ⟨am_im_m6_isDawn, List.forall_mem_cons.mpr ⟨am_im_m6_client, List.forall_mem_cons.mpr ⟨am_im_m6_isClient, List.forall_mem_cons.mpr ⟨am_im_m3_heldBy, List.forall_mem_cons.mpr ⟨am_im_m3_heldOf, List.forall_mem_cons.mpr ⟨am_im_m3_patchesOf, List.forall_mem_cons.mpr ⟨am_im_mJ9_max, List.forall_mem_cons.mpr ⟨am_im_m3_isDressed, List.forall_mem_cons.mpr ⟨am_im_m6_has, List.forall_mem_cons.mpr ⟨am_im_m3_heldOf, List.forall_mem_cons.mpr ⟨am_im_m6_now, List.forall_mem_cons.mpr ⟨am_im_m6_patchesOfDressed, List.forall_mem_cons.mpr ⟨am_im_m6_cuts, List.forall_mem_cons.mpr ⟨am_im_m6_mayCut, List.forall_mem_cons.mpr ⟨am_im_m5_suits, List.forall_mem_cons.mpr ⟨am_im_m1_remember, List.forall_mem_cons.mpr ⟨am_im_m3_become, List.forall_mem_cons.mpr ⟨am_im_mJ9_min, List.forall_mem_cons.mpr ⟨am_im_m3_cut, List.forall_mem_cons.mpr ⟨am_im_m6_sews, List.forall_mem_cons.mpr ⟨am_im_m6_maySew, List.forall_mem_cons.mpr ⟨am_im_m3_sew, List.forall_mem_cons.mpr ⟨am_im_m6_dawn, List.forall_mem_cons.mpr ⟨am_im_m3_goBy, List.forall_mem_cons.mpr ⟨am_im_m3_isDressed, List.forall_mem_cons.mpr ⟨am_im_m3_heldBy, List.forall_mem_cons.mpr ⟨am_im_m6_undo, List.forall_mem_cons.mpr ⟨am_im_m1_recall, List.forall_mem_cons.mpr ⟨am_im_m6_round, List.forall_mem_cons.mpr ⟨am_im_m6_isSet, List.forall_mem_cons.mpr ⟨am_im_m0_inOrder, List.forall_mem_cons.mpr ⟨am_im_m0_lowestInTime, List.forall_mem_cons.mpr ⟨am_im_m0_leastBehind, List.forall_mem_cons.mpr ⟨am_im_m5_sewingOf, List.forall_mem_cons.mpr ⟨am_im_m6_can, List.forall_mem_cons.mpr ⟨am_im_m0_clothes, List.forall_mem_cons.mpr ⟨am_im_m6_plan, List.forall_mem_cons.mpr ⟨am_im_m0_dawnTold, List.forall_mem_cons.mpr ⟨am_im_m0_tell, List.forall_mem_cons.mpr ⟨am_im_m0_tellOne, List.forall_mem_cons.mpr ⟨am_im_m6_ways, List.forall_mem_cons.mpr ⟨am_im_m6_waysFrom, List.forall_mem_cons.mpr ⟨am_im_mJ9_min, List.forall_mem_cons.mpr ⟨am_im_m6_suns, List.forall_mem_cons.mpr ⟨am_im_m6_chances, List.forall_mem_cons.mpr ⟨am_im_m6_sharedDivisor, List.forall_mem_cons.mpr ⟨am_im_mJ9_max, List.forall_mem_cons.mpr ⟨am_im_m6_found, List.forall_mem_cons.mpr ⟨am_im_m2_add, List.forall_mem_cons.mpr ⟨am_im_m6_forget, List.forall_mem_cons.mpr ⟨am_im_m6_from, List.forall_mem_cons.mpr ⟨am_im_m2_agreeWith, List.forall_mem_cons.mpr ⟨am_im_m6_look, List.forall_mem_cons.mpr ⟨am_im_m6_from, List.forall_mem_cons.mpr ⟨am_im_mJ6_bitCount, List.forall_mem_cons.mpr ⟨am_im_m6_greaterPart, List.forall_mem_cons.mpr ⟨am_im_m6_rate, List.forall_mem_cons.mpr ⟨am_im_m6_rateCoat, List.forall_mem_cons.mpr ⟨am_im_m6_rateCape, List.forall_mem_cons.mpr ⟨am_im_m6_rateGown, List.forall_mem_cons.mpr ⟨am_im_m6_rateJudge, List.forall_mem_cons.mpr ⟨am_im_m6_rateBride, List.forall_mem_cons.mpr ⟨am_im_m6_rateShirt, List.forall_mem_cons.mpr ⟨am_im_m6_keep, List.forall_mem_cons.mpr ⟨am_im_m6_isImage, List.forall_mem_cons.mpr ⟨am_im_m3_become, List.forall_mem_cons.mpr ⟨am_im_m6_back, List.forall_mem_cons.mpr ⟨am_im_m6_count, List.forall_mem_cons.mpr ⟨am_im_m6_trace, List.forall_mem_cons.mpr ⟨am_im_m7_init, List.forall_mem_cons.mpr ⟨am_im_m6_init, List.forall_mem_cons.mpr ⟨am_im_m7_reads, List.forall_mem_cons.mpr ⟨am_im_m7_token, List.forall_mem_cons.mpr ⟨am_im_m7_letterAt, List.forall_mem_cons.mpr ⟨am_im_m7_isWord, List.forall_mem_cons.mpr ⟨am_im_m7_isDigit, List.forall_mem_cons.mpr ⟨am_im_m7_in, List.forall_mem_cons.mpr ⟨am_im_m7_readsItem, List.forall_mem_cons.mpr ⟨am_im_m7_number, List.forall_mem_cons.mpr ⟨am_im_m7_once, List.forall_mem_cons.mpr ⟨am_im_m7_begins, List.forall_mem_cons.mpr ⟨am_im_m7_type, List.forall_mem_cons.mpr ⟨am_im_m7_clear, List.forall_mem_cons.mpr ⟨am_im_m7_marsh, List.forall_mem_cons.mpr ⟨am_im_m7_ofDawn, List.forall_mem_cons.mpr ⟨am_im_m7_isDawn, List.forall_mem_cons.mpr ⟨am_im_m7_client, List.forall_mem_cons.mpr ⟨am_im_m7_isClient, List.forall_mem_cons.mpr ⟨am_im_m7_yardsOf, List.forall_mem_cons.mpr ⟨am_im_m7_patches, List.forall_mem_cons.mpr ⟨am_im_m7_has, List.forall_mem_cons.mpr ⟨am_im_m7_now, List.forall_mem_cons.mpr ⟨am_im_m7_isOf, List.forall_mem_cons.mpr ⟨am_im_m7_cuts, List.forall_mem_cons.mpr ⟨am_im_m7_suits, List.forall_mem_cons.mpr ⟨am_im_m7_keeps, List.forall_mem_cons.mpr ⟨am_im_m7_sews, List.forall_mem_cons.mpr ⟨am_im_m7_dawn, List.forall_mem_cons.mpr ⟨am_im_m7_undo, List.forall_mem_cons.mpr ⟨am_im_m7_round, List.forall_mem_cons.mpr ⟨am_im_m7_isSet, List.forall_mem_cons.mpr ⟨am_im_m7_reckonsSums, List.forall_mem_cons.mpr ⟨am_im_m7_reckons, List.forall_mem_cons.mpr ⟨am_im_m7_ones, List.forall_mem_cons.mpr ⟨am_im_m7_can, List.forall_mem_cons.mpr ⟨am_im_m7_canBy, List.forall_mem_cons.mpr ⟨am_im_m7_plan, List.forall_mem_cons.mpr ⟨am_im_m7_ways, List.forall_mem_cons.mpr ⟨am_im_m7_suns, List.forall_mem_cons.mpr ⟨am_im_m7_found, List.forall_mem_cons.mpr ⟨am_im_m7_forget, List.forall_mem_cons.mpr ⟨am_im_m7_from, List.forall_mem_cons.mpr ⟨am_im_m7_fromNow, List.forall_mem_cons.mpr ⟨am_im_m7_inFog, List.forall_mem_cons.mpr ⟨am_im_m7_look, List.forall_mem_cons.mpr ⟨am_im_m7_rate, List.forall_mem_cons.mpr ⟨am_im_m7_keep, List.forall_mem_cons.mpr ⟨am_im_m7_back, List.forall_mem_cons.mpr ⟨am_im_m7_count, List.forall_mem_cons.mpr ⟨am_im_m7_trace, fun _ h => absurd h List.not_mem_nil⟩⟩⟩⟩⟩⟩⟩⟩⟩⟩⟩⟩⟩⟩⟩⟩⟩⟩⟩⟩⟩⟩⟩⟩⟩⟩⟩⟩⟩⟩⟩⟩⟩⟩⟩⟩⟩⟩⟩⟩⟩⟩⟩⟩⟩⟩⟩⟩⟩⟩⟩⟩⟩⟩⟩⟩⟩⟩⟩⟩⟩⟩⟩⟩⟩⟩⟩⟩⟩⟩⟩⟩⟩⟩⟩⟩⟩⟩⟩⟩⟩⟩⟩⟩⟩⟩⟩⟩⟩⟩⟩⟩⟩⟩⟩⟩⟩⟩⟩⟩⟩⟩⟩⟩⟩⟩⟩⟩⟩⟩⟩⟩⟩⟩⟩⟩⟩⟩⟩⟩⟩⟩⟩⟩⟩⟩⟩⟩⟩⟩⟩⟩⟩⟩⟩⟩⟩⟩⟩⟩⟩⟩⟩⟩⟩⟩⟩⟩⟩⟩⟩⟩⟩⟩⟩⟩⟩⟩⟩⟩⟩⟩⟩⟩⟩⟩⟩⟩⟩⟩
/-- the words that a call needs -/
def am_need (e : Nat × Nat × Nat × am_MI × Nat) : List Cond := match e.2.2.1 with
  | 0 => [.methodLink (am_cn e.1) e.2.1 e.2.2.2.1.2.1, .instanceMethod e.2.2.2.1.2.1, .selects e.2.2.2.1.2.1.cls e.2.2.2.1.2.1 e.2.2.2.1.2.1]
  | 1 => [.methodLink (am_cn e.1) e.2.1 e.2.2.2.1.2.1, .static e.2.2.2.1.2.1]
  | 2 => [.methodLink (am_cn e.1) e.2.1 e.2.2.2.1.2.1, .instanceMethod e.2.2.2.1.2.1]
  | 3 => [.instanceMethod e.2.2.2.1.2.1]
  | 4 => [.methodLink (am_cn e.1) e.2.1 objectInit, .instanceMethod objectInit, .code objectInit ⟨#[0xb1]⟩ 1 none]
  | _ => [.methodLink (am_cn e.1) e.2.1 arraycopyName, .native arraycopyName, .static arraycopyName, .initialized "java/lang/System"]
/-- what else holds of a call -/
def am_call_ok (e : Nat × Nat × Nat × am_MI × Nat) : Bool := match e.2.2.1 with
  | 0 => decide ((parseMethodDescriptor e.2.2.2.1.2.1.desc).map (fun d => d.parameters.length) = some e.2.2.2.2)
  | 1 => decide ((parseMethodDescriptor e.2.2.2.1.2.1.desc).map (fun d => d.parameters.length) = some e.2.2.2.2)
  | 2 => decide (e.2.2.2.1.2.1.name = "<init>") && decide (e.2.2.2.1.2.2.2.2 = none) && decide ((parseMethodDescriptor e.2.2.2.1.2.1.desc).map (fun d => d.parameters.length) = some e.2.2.2.2)
  | 3 => decide (e.2.2.2.1.2.1.name = "<init>") && decide (e.2.2.2.1.2.2.2.2 = none) && decide ((parseMethodDescriptor e.2.2.2.1.2.1.desc).map (fun d => d.parameters.length) = some e.2.2.2.2)
  | 4 => true
  | 5 => true
  | _ => false
def am_plA : List (List Nat) := [[63, 64], [66, 67, 68], [72], [74, 67, 68], [102], [104, 67, 68], [167], [169, 67, 68], [192, 193], [195, 67, 68], [167], [213], [215, 67, 68], [231], [233, 67, 68], [261, 263, 0], [265, 266, 267], [269, 271, 270, 57], [272, 274, 1], [276, 277, 278], [280, 282, 2], [284, 285, 286], [288, 290, 3], [292, 293], [295, 296], [298, 300, 4], [302, 303, 304], [306, 307, 308], [310, 312, 5], [314, 315, 316], [318, 319], [355, 356, 357], [359, 360, 361], [363, 364, 365], [367, 368, 369], [371, 372, 373], [375, 377, 6], [379, 380, 381], [383, 384, 385], [387, 388], [390, 296], [391, 392], [394, 396, 7], [398, 400, 8], [402, 403], [405, 406], [408, 410, 9], [412, 414, 10], [416, 418, 11], [420, 421, 422], [424, 426, 12], [428, 429, 430], [432, 434, 13], [436, 437, 438], [440, 441, 442], [444, 445, 446], [448, 293], [449, 450, 451], [453, 454, 455], [457, 441, 442], [458, 459, 460], [462, 464, 14], [466, 467, 468], [470, 472, 15], [474, 307, 308], [475, 476, 477], [479, 480, 481], [483, 296], [484, 485, 486], [488, 489, 490], [492, 494, 16], [496, 497, 498], [500, 501, 502], [504, 505, 506], [508, 450, 451], [509, 437, 438], [510, 511, 512], [514, 515, 516], [518, 519, 520], [522, 524, 17], [526, 527, 528], [530, 532, 18], [534, 536, 19], [538, 539, 540], [542, 543, 544], [546, 315, 316], [547, 548, 549], [551, 552, 553], [555, 557, 20], [559, 561, 21], [563, 564, 565], [567, 569, 22], [571, 296], [572, 573, 574], [576, 577], [579, 580], [582, 293], [583, 584, 585], [587, 588, 589], [591, 592, 593], [595, 596, 597], [599, 600, 601], [603, 604, 605], [607, 596, 597], [608, 319], [609, 611, 23], [613, 614, 615], [618, 620, 24], [622, 624, 25], [627, 629, 26], [632, 634, 27], [637, 639, 28], [642, 644, 29], [647, 648, 649], [651, 652], [654, 480, 481], [655, 656, 657], [659, 660, 661], [663, 664, 665], [669, 670], [672, 67, 68], [673, 675, 30], [677, 679, 31], [681, 683, 32], [685, 686], [688, 689], [691, 692], [694, 696, 33], [698, 700, 34], [702, 704, 35], [706, 708, 36], [774, 775, 776], [778, 779, 780], [782, 783, 784], [786, 787, 788], [790, 792, 37], [794, 795, 796], [798, 800, 38], [802, 804, 39], [806, 808, 40], [810, 811, 812], [814, 815, 816], [818, 819], [821, 822, 823], [825, 827, 41], [829, 831, 42], [833, 834, 835], [837, 838, 839], [841, 842, 843], [845, 846, 847], [849, 851, 43], [853, 855, 44], [857, 859, 45], [861, 862], [864, 865, 866], [868, 870, 46], [872, 873, 874], [876, 877, 878], [880, 881, 882], [884, 885, 886], [888, 889, 890], [892, 893, 894], [896, 898, 47], [900, 902, 48], [904, 905, 906], [908, 909, 910], [918, 919, 920], [922, 923, 924], [926, 927, 928], [930, 931, 932]]
def am_pair (ws : List Cond) (ps : List Nat) : Bool := match ws, ps with
  | [], _ => true
  | w :: ws, i :: ps => decide (lw_tbl[i]? = some w) && goodWord w && am_pair ws ps
  | _ :: _, [] => false
theorem am_pair_ok : ∀ (ws : List Cond) (ps : List Nat), am_pair ws ps = true → ∀ w ∈ ws, w ∈ am_T
  | [], _, _, w, hw => absurd hw List.not_mem_nil
  | v :: ws, i :: ps, h, w, hw => by
    simp only [am_pair, Bool.and_eq_true, decide_eq_true_eq] at h
    rcases List.mem_cons.mp hw with rfl | hw
    · exact List.mem_filter.mpr ⟨List.mem_of_getElem? h.1.1, h.1.2⟩
    · exact am_pair_ok ws ps h.2 w hw
  | v :: ws, [], h, w, hw => by simp [am_pair] at h
def am_both {α β : Type} (f : α → β → Bool) : List α → List β → Bool
  | [], _ => true
  | a :: l, b :: m => f a b && am_both f l m
  | _ :: _, [] => false
theorem am_both_ok {α β : Type} {f : α → β → Bool} : ∀ (l : List α) (m : List β), am_both f l m = true → ∀ a ∈ l, ∃ b, f a b = true
  | [], _, _, a, ha => absurd ha List.not_mem_nil
  | c :: l, b :: m, h, a, ha => by
    simp only [am_both, Bool.and_eq_true] at h
    rcases List.mem_cons.mp ha with rfl | ha
    · exact ⟨b, h.1⟩
    · exact am_both_ok l m h.2 a ha
  | c :: l, [], h, a, ha => by simp [am_both] at h
set_option maxRecDepth 100000 in
theorem am_in_p0 : am_both (fun e ps => am_pair (am_need e) ps && am_call_ok e) ((am_inA.drop 0).take 22) ((am_plA.drop 0).take 22) = true := by decide +kernel
set_option maxRecDepth 100000 in
theorem am_in_p22 : am_both (fun e ps => am_pair (am_need e) ps && am_call_ok e) ((am_inA.drop 22).take 22) ((am_plA.drop 22).take 22) = true := by decide +kernel
set_option maxRecDepth 100000 in
theorem am_in_p44 : am_both (fun e ps => am_pair (am_need e) ps && am_call_ok e) ((am_inA.drop 44).take 22) ((am_plA.drop 44).take 22) = true := by decide +kernel
set_option maxRecDepth 100000 in
theorem am_in_p66 : am_both (fun e ps => am_pair (am_need e) ps && am_call_ok e) ((am_inA.drop 66).take 22) ((am_plA.drop 66).take 22) = true := by decide +kernel
set_option maxRecDepth 100000 in
theorem am_in_p88 : am_both (fun e ps => am_pair (am_need e) ps && am_call_ok e) ((am_inA.drop 88).take 22) ((am_plA.drop 88).take 22) = true := by decide +kernel
set_option maxRecDepth 100000 in
theorem am_in_p110 : am_both (fun e ps => am_pair (am_need e) ps && am_call_ok e) ((am_inA.drop 110).take 22) ((am_plA.drop 110).take 22) = true := by decide +kernel
set_option maxRecDepth 100000 in
theorem am_in_p132 : am_both (fun e ps => am_pair (am_need e) ps && am_call_ok e) ((am_inA.drop 132).take 22) ((am_plA.drop 132).take 22) = true := by decide +kernel
set_option maxRecDepth 100000 in
theorem am_in_p154 : am_both (fun e ps => am_pair (am_need e) ps && am_call_ok e) ((am_inA.drop 154).take 22) ((am_plA.drop 154).take 22) = true := by decide +kernel
set_option maxRecDepth 100000 in
theorem am_in_cut : am_inA = (am_inA.drop 0).take 22 ++ (am_inA.drop 22).take 22 ++ (am_inA.drop 44).take 22 ++ (am_inA.drop 66).take 22 ++ (am_inA.drop 88).take 22 ++ (am_inA.drop 110).take 22 ++ (am_inA.drop 132).take 22 ++ (am_inA.drop 154).take 22 := rfl
theorem am_in_all : ∀ e ∈ am_inA, (∀ w ∈ am_need e, w ∈ am_T) ∧ am_call_ok e = true := by
  have key : ∀ (l : List (Nat × Nat × Nat × am_MI × Nat)) (m : List (List Nat)), am_both (fun e ps => am_pair (am_need e) ps && am_call_ok e) l m = true → ∀ e ∈ l, (∀ w ∈ am_need e, w ∈ am_T) ∧ am_call_ok e = true := by
    intro l m h e he
    obtain ⟨ps, h1⟩ := am_both_ok l m h e he
    simp only [Bool.and_eq_true] at h1
    exact ⟨am_pair_ok _ _ h1.1, h1.2⟩
  intro e he
  rw [am_in_cut] at he
  simp only [List.mem_append] at he
  rcases he with ((((((h | h) | h) | h) | h) | h) | h) | h
  · exact key _ _ am_in_p0 e h
  · exact key _ _ am_in_p22 e h
  · exact key _ _ am_in_p44 e h
  · exact key _ _ am_in_p66 e h
  · exact key _ _ am_in_p88 e h
  · exact key _ _ am_in_p110 e h
  · exact key _ _ am_in_p132 e h
  · exact key _ _ am_in_p154 e h
set_option maxRecDepth 100000 in
theorem am_ne_all : (am_inA.filter (fun e => e.2.2.1 == 3)).all (fun e => decide (Cond.methodLinkNest (am_cn e.1) e.2.1 e.2.2.2.1.2.1 RX6 ∈ lw_tbl)) = true := by decide +kernel
/-- the field words of a class -/
def am_wf (ci : Nat) : List Cond := u_ws (am_cn ci) (am_TX ci) (am_nf ci)
set_option maxRecDepth 100000 in
theorem am_wf_all : (List.range 8).all (fun ci => (am_wf ci).all am_ok && am_ok (.instantiable (am_cn ci) (am_nf ci))) = true := by decide +kernel
theorem am_ar_all : am_ok (.arrayClass .int) = true ∧ am_ok (.arrayClass .long) = true ∧ am_ok (.arrayClass .boolean) = true ∧ Cond.arrayOver (.object RX3) ∈ lw_tbl ∧ Cond.arrayOver (.array .int) ∈ lw_tbl := by decide +kernel
