-- the tables' words (the skeleton's part A) and the names of the classes (begun from the printed names)
/-- a private method of a class that the tables say can be made, by its rows of tables_1 -/
def lw_okq (q : MethodName × Nat) : Prop := (q.1.cls ≠ "java/lang/invoke/MethodHandle" ∧ q.1.cls ≠ "java/lang/invoke/VarHandle") ∧ Cond.instantiable q.1.cls q.2 ∈ tables_1 ∧ Cond.privateMethod q.1 ∈ tables_1 ∧ Cond.instanceMethod q.1 ∈ tables_1
theorem lw_p0 : lw_okq (⟨"FogTailors", "beginAnew", "()V"⟩, 10) := ⟨⟨by decide +kernel, by decide +kernel⟩, List.mem_of_getElem? (i := 13) (by decide +kernel), List.mem_of_getElem? (i := 213) (by decide +kernel), List.mem_of_getElem? (i := 214) (by decide +kernel)⟩
theorem lw_p1 : lw_okq (⟨"FogTailors$Standing", "loseAll", "(I)V"⟩, 5) := ⟨⟨by decide +kernel, by decide +kernel⟩, List.mem_of_getElem? (i := 116) (by decide +kernel), List.mem_of_getElem? (i := 224) (by decide +kernel), List.mem_of_getElem? (i := 225) (by decide +kernel)⟩
theorem lw_p2 : lw_okq (⟨"FogTailors$Coats", "soonestOf", "(LFogTailors$Told;I)I"⟩, 7) := ⟨⟨by decide +kernel, by decide +kernel⟩, List.mem_of_getElem? (i := 180) (by decide +kernel), List.mem_of_getElem? (i := 232) (by decide +kernel), List.mem_of_getElem? (i := 233) (by decide +kernel)⟩
theorem lw_p3 : lw_okq (⟨"FogTailors$Told", "sumOf", "([II)I"⟩, 13) := ⟨⟨by decide +kernel, by decide +kernel⟩, List.mem_of_getElem? (i := 51) (by decide +kernel), List.mem_of_getElem? (i := 240) (by decide +kernel), List.mem_of_getElem? (i := 241) (by decide +kernel)⟩
theorem lw_p4 : lw_okq (⟨"FogTailors$Coats", "clothedBy", "(LFogTailors$Told;I)J"⟩, 7) := ⟨⟨by decide +kernel, by decide +kernel⟩, List.mem_of_getElem? (i := 180) (by decide +kernel), List.mem_of_getElem? (i := 250) (by decide +kernel), List.mem_of_getElem? (i := 251) (by decide +kernel)⟩
theorem lw_p5 : lw_okq (⟨"FogTailors$Coats", "mostOf", "(II)I"⟩, 7) := ⟨⟨by decide +kernel, by decide +kernel⟩, List.mem_of_getElem? (i := 180) (by decide +kernel), List.mem_of_getElem? (i := 262) (by decide +kernel), List.mem_of_getElem? (i := 263) (by decide +kernel)⟩
theorem lw_p6 : lw_okq (⟨"FogTailors$Told", "unsay", "()V"⟩, 13) := ⟨⟨by decide +kernel, by decide +kernel⟩, List.mem_of_getElem? (i := 51) (by decide +kernel), List.mem_of_getElem? (i := 327) (by decide +kernel), List.mem_of_getElem? (i := 328) (by decide +kernel)⟩
theorem lw_p7 : lw_okq (⟨"FogTailors$Told", "readItem", "(LFogTailors$Text;)Z"⟩, 13) := ⟨⟨by decide +kernel, by decide +kernel⟩, List.mem_of_getElem? (i := 51) (by decide +kernel), List.mem_of_getElem? (i := 346) (by decide +kernel), List.mem_of_getElem? (i := 347) (by decide +kernel)⟩
theorem lw_p8 : lw_okq (⟨"FogTailors$Told", "readDawn", "(LFogTailors$Text;)Z"⟩, 13) := ⟨⟨by decide +kernel, by decide +kernel⟩, List.mem_of_getElem? (i := 51) (by decide +kernel), List.mem_of_getElem? (i := 350) (by decide +kernel), List.mem_of_getElem? (i := 351) (by decide +kernel)⟩
theorem lw_p9 : lw_okq (⟨"FogTailors$Told", "readClient", "(LFogTailors$Text;)Z"⟩, 13) := ⟨⟨by decide +kernel, by decide +kernel⟩, List.mem_of_getElem? (i := 51) (by decide +kernel), List.mem_of_getElem? (i := 360) (by decide +kernel), List.mem_of_getElem? (i := 361) (by decide +kernel)⟩
theorem lw_p10 : lw_okq (⟨"FogTailors$Told", "readTen", "(LFogTailors$Text;)Z"⟩, 13) := ⟨⟨by decide +kernel, by decide +kernel⟩, List.mem_of_getElem? (i := 51) (by decide +kernel), List.mem_of_getElem? (i := 364) (by decide +kernel), List.mem_of_getElem? (i := 365) (by decide +kernel)⟩
theorem lw_p11 : lw_okq (⟨"FogTailors$Told", "readCellar", "(LFogTailors$Text;)Z"⟩, 13) := ⟨⟨by decide +kernel, by decide +kernel⟩, List.mem_of_getElem? (i := 51) (by decide +kernel), List.mem_of_getElem? (i := 368) (by decide +kernel), List.mem_of_getElem? (i := 369) (by decide +kernel)⟩
theorem lw_p12 : lw_okq (⟨"FogTailors", "isDawn", "(I)Z"⟩, 10) := ⟨⟨by decide +kernel, by decide +kernel⟩, List.mem_of_getElem? (i := 13) (by decide +kernel), List.mem_of_getElem? (i := 376) (by decide +kernel), List.mem_of_getElem? (i := 377) (by decide +kernel)⟩
theorem lw_p13 : lw_okq (⟨"FogTailors", "isClient", "(I)Z"⟩, 10) := ⟨⟨by decide +kernel, by decide +kernel⟩, List.mem_of_getElem? (i := 13) (by decide +kernel), List.mem_of_getElem? (i := 384) (by decide +kernel), List.mem_of_getElem? (i := 385) (by decide +kernel)⟩
theorem lw_p14 : lw_okq (⟨"FogTailors", "patchesOfDressed", "()I"⟩, 10) := ⟨⟨by decide +kernel, by decide +kernel⟩, List.mem_of_getElem? (i := 13) (by decide +kernel), List.mem_of_getElem? (i := 414) (by decide +kernel), List.mem_of_getElem? (i := 415) (by decide +kernel)⟩
theorem lw_p15 : lw_okq (⟨"FogTailors", "mayCut", "(II)Z"⟩, 10) := ⟨⟨by decide +kernel, by decide +kernel⟩, List.mem_of_getElem? (i := 13) (by decide +kernel), List.mem_of_getElem? (i := 422) (by decide +kernel), List.mem_of_getElem? (i := 423) (by decide +kernel)⟩
def lw_privs_1 : List (MethodName × Nat) := [(⟨"FogTailors", "beginAnew", "()V"⟩, 10), (⟨"FogTailors$Standing", "loseAll", "(I)V"⟩, 5), (⟨"FogTailors$Coats", "soonestOf", "(LFogTailors$Told;I)I"⟩, 7), (⟨"FogTailors$Told", "sumOf", "([II)I"⟩, 13), (⟨"FogTailors$Coats", "clothedBy", "(LFogTailors$Told;I)J"⟩, 7), (⟨"FogTailors$Coats", "mostOf", "(II)I"⟩, 7), (⟨"FogTailors$Told", "unsay", "()V"⟩, 13), (⟨"FogTailors$Told", "readItem", "(LFogTailors$Text;)Z"⟩, 13), (⟨"FogTailors$Told", "readDawn", "(LFogTailors$Text;)Z"⟩, 13), (⟨"FogTailors$Told", "readClient", "(LFogTailors$Text;)Z"⟩, 13), (⟨"FogTailors$Told", "readTen", "(LFogTailors$Text;)Z"⟩, 13), (⟨"FogTailors$Told", "readCellar", "(LFogTailors$Text;)Z"⟩, 13), (⟨"FogTailors", "isDawn", "(I)Z"⟩, 10), (⟨"FogTailors", "isClient", "(I)Z"⟩, 10), (⟨"FogTailors", "patchesOfDressed", "()I"⟩, 10), (⟨"FogTailors", "mayCut", "(II)Z"⟩, 10)]
theorem lw_r1 : ∀ q ∈ lw_privs_1, lw_okq q := List.forall_mem_cons.mpr ⟨lw_p0, List.forall_mem_cons.mpr ⟨lw_p1, List.forall_mem_cons.mpr ⟨lw_p2, List.forall_mem_cons.mpr ⟨lw_p3, List.forall_mem_cons.mpr ⟨lw_p4, List.forall_mem_cons.mpr ⟨lw_p5, List.forall_mem_cons.mpr ⟨lw_p6, List.forall_mem_cons.mpr ⟨lw_p7, List.forall_mem_cons.mpr ⟨lw_p8, List.forall_mem_cons.mpr ⟨lw_p9, List.forall_mem_cons.mpr ⟨lw_p10, List.forall_mem_cons.mpr ⟨lw_p11, List.forall_mem_cons.mpr ⟨lw_p12, List.forall_mem_cons.mpr ⟨lw_p13, List.forall_mem_cons.mpr ⟨lw_p14, List.forall_mem_cons.mpr ⟨lw_p15, fun _ h => absurd h List.not_mem_nil⟩⟩⟩⟩⟩⟩⟩⟩⟩⟩⟩⟩⟩⟩⟩⟩
theorem lw_p16 : lw_okq (⟨"FogTailors", "maySew", "(I)Z"⟩, 10) := ⟨⟨by decide +kernel, by decide +kernel⟩, List.mem_of_getElem? (i := 13) (by decide +kernel), List.mem_of_getElem? (i := 444) (by decide +kernel), List.mem_of_getElem? (i := 445) (by decide +kernel)⟩
theorem lw_p17 : lw_okq (⟨"FogTailors", "isSet", "(I)Z"⟩, 10) := ⟨⟨by decide +kernel, by decide +kernel⟩, List.mem_of_getElem? (i := 13) (by decide +kernel), List.mem_of_getElem? (i := 474) (by decide +kernel), List.mem_of_getElem? (i := 475) (by decide +kernel)⟩
theorem lw_p18 : lw_okq (⟨"FogTailors$Coats", "lowestInTime", "(LFogTailors$Told;III)I"⟩, 7) := ⟨⟨by decide +kernel, by decide +kernel⟩, List.mem_of_getElem? (i := 180) (by decide +kernel), List.mem_of_getElem? (i := 482) (by decide +kernel), List.mem_of_getElem? (i := 483) (by decide +kernel)⟩
theorem lw_p19 : lw_okq (⟨"FogTailors$Coats", "leastBehind", "(LFogTailors$Told;II)I"⟩, 7) := ⟨⟨by decide +kernel, by decide +kernel⟩, List.mem_of_getElem? (i := 180) (by decide +kernel), List.mem_of_getElem? (i := 486) (by decide +kernel), List.mem_of_getElem? (i := 487) (by decide +kernel)⟩
theorem lw_p20 : lw_okq (⟨"FogTailors$Coats", "tell", "(IIII)Z"⟩, 7) := ⟨⟨by decide +kernel, by decide +kernel⟩, List.mem_of_getElem? (i := 180) (by decide +kernel), List.mem_of_getElem? (i := 507) (by decide +kernel), List.mem_of_getElem? (i := 508) (by decide +kernel)⟩
theorem lw_p21 : lw_okq (⟨"FogTailors$Coats", "tellOne", "(II)Z"⟩, 7) := ⟨⟨by decide +kernel, by decide +kernel⟩, List.mem_of_getElem? (i := 180) (by decide +kernel), List.mem_of_getElem? (i := 511) (by decide +kernel), List.mem_of_getElem? (i := 512) (by decide +kernel)⟩
theorem lw_p22 : lw_okq (⟨"FogTailors", "waysFrom", "(IIII)I"⟩, 10) := ⟨⟨by decide +kernel, by decide +kernel⟩, List.mem_of_getElem? (i := 13) (by decide +kernel), List.mem_of_getElem? (i := 519) (by decide +kernel), List.mem_of_getElem? (i := 520) (by decide +kernel)⟩
theorem lw_p23 : lw_okq (⟨"FogTailors", "greaterPart", "(II)I"⟩, 10) := ⟨⟨by decide +kernel, by decide +kernel⟩, List.mem_of_getElem? (i := 13) (by decide +kernel), List.mem_of_getElem? (i := 561) (by decide +kernel), List.mem_of_getElem? (i := 562) (by decide +kernel)⟩
theorem lw_p24 : lw_okq (⟨"FogTailors", "rateCoat", "(I)I"⟩, 10) := ⟨⟨by decide +kernel, by decide +kernel⟩, List.mem_of_getElem? (i := 13) (by decide +kernel), List.mem_of_getElem? (i := 570) (by decide +kernel), List.mem_of_getElem? (i := 571) (by decide +kernel)⟩
theorem lw_p25 : lw_okq (⟨"FogTailors", "rateCape", "(I)I"⟩, 10) := ⟨⟨by decide +kernel, by decide +kernel⟩, List.mem_of_getElem? (i := 13) (by decide +kernel), List.mem_of_getElem? (i := 574) (by decide +kernel), List.mem_of_getElem? (i := 575) (by decide +kernel)⟩
theorem lw_p26 : lw_okq (⟨"FogTailors", "rateGown", "(I)I"⟩, 10) := ⟨⟨by decide +kernel, by decide +kernel⟩, List.mem_of_getElem? (i := 13) (by decide +kernel), List.mem_of_getElem? (i := 579) (by decide +kernel), List.mem_of_getElem? (i := 580) (by decide +kernel)⟩
theorem lw_p27 : lw_okq (⟨"FogTailors", "rateJudge", "(I)I"⟩, 10) := ⟨⟨by decide +kernel, by decide +kernel⟩, List.mem_of_getElem? (i := 13) (by decide +kernel), List.mem_of_getElem? (i := 584) (by decide +kernel), List.mem_of_getElem? (i := 585) (by decide +kernel)⟩
theorem lw_p28 : lw_okq (⟨"FogTailors", "rateBride", "(I)I"⟩, 10) := ⟨⟨by decide +kernel, by decide +kernel⟩, List.mem_of_getElem? (i := 13) (by decide +kernel), List.mem_of_getElem? (i := 589) (by decide +kernel), List.mem_of_getElem? (i := 590) (by decide +kernel)⟩
theorem lw_p29 : lw_okq (⟨"FogTailors", "rateShirt", "(I)I"⟩, 10) := ⟨⟨by decide +kernel, by decide +kernel⟩, List.mem_of_getElem? (i := 13) (by decide +kernel), List.mem_of_getElem? (i := 594) (by decide +kernel), List.mem_of_getElem? (i := 595) (by decide +kernel)⟩
theorem lw_p30 : lw_okq (⟨"FogTailorsModel", "reads", "()Z"⟩, 21) := ⟨⟨by decide +kernel, by decide +kernel⟩, List.mem_of_getElem? (i := 619) (by decide +kernel), List.mem_of_getElem? (i := 625) (by decide +kernel), List.mem_of_getElem? (i := 626) (by decide +kernel)⟩
theorem lw_p31 : lw_okq (⟨"FogTailorsModel", "token", "()V"⟩, 21) := ⟨⟨by decide +kernel, by decide +kernel⟩, List.mem_of_getElem? (i := 619) (by decide +kernel), List.mem_of_getElem? (i := 629) (by decide +kernel), List.mem_of_getElem? (i := 630) (by decide +kernel)⟩
def lw_privs_2 : List (MethodName × Nat) := [(⟨"FogTailors", "maySew", "(I)Z"⟩, 10), (⟨"FogTailors", "isSet", "(I)Z"⟩, 10), (⟨"FogTailors$Coats", "lowestInTime", "(LFogTailors$Told;III)I"⟩, 7), (⟨"FogTailors$Coats", "leastBehind", "(LFogTailors$Told;II)I"⟩, 7), (⟨"FogTailors$Coats", "tell", "(IIII)Z"⟩, 7), (⟨"FogTailors$Coats", "tellOne", "(II)Z"⟩, 7), (⟨"FogTailors", "waysFrom", "(IIII)I"⟩, 10), (⟨"FogTailors", "greaterPart", "(II)I"⟩, 10), (⟨"FogTailors", "rateCoat", "(I)I"⟩, 10), (⟨"FogTailors", "rateCape", "(I)I"⟩, 10), (⟨"FogTailors", "rateGown", "(I)I"⟩, 10), (⟨"FogTailors", "rateJudge", "(I)I"⟩, 10), (⟨"FogTailors", "rateBride", "(I)I"⟩, 10), (⟨"FogTailors", "rateShirt", "(I)I"⟩, 10), (⟨"FogTailorsModel", "reads", "()Z"⟩, 21), (⟨"FogTailorsModel", "token", "()V"⟩, 21)]
theorem lw_r2 : ∀ q ∈ lw_privs_2, lw_okq q := List.forall_mem_cons.mpr ⟨lw_p16, List.forall_mem_cons.mpr ⟨lw_p17, List.forall_mem_cons.mpr ⟨lw_p18, List.forall_mem_cons.mpr ⟨lw_p19, List.forall_mem_cons.mpr ⟨lw_p20, List.forall_mem_cons.mpr ⟨lw_p21, List.forall_mem_cons.mpr ⟨lw_p22, List.forall_mem_cons.mpr ⟨lw_p23, List.forall_mem_cons.mpr ⟨lw_p24, List.forall_mem_cons.mpr ⟨lw_p25, List.forall_mem_cons.mpr ⟨lw_p26, List.forall_mem_cons.mpr ⟨lw_p27, List.forall_mem_cons.mpr ⟨lw_p28, List.forall_mem_cons.mpr ⟨lw_p29, List.forall_mem_cons.mpr ⟨lw_p30, List.forall_mem_cons.mpr ⟨lw_p31, fun _ h => absurd h List.not_mem_nil⟩⟩⟩⟩⟩⟩⟩⟩⟩⟩⟩⟩⟩⟩⟩⟩
theorem lw_p32 : lw_okq (⟨"FogTailorsModel", "letterAt", "(I)I"⟩, 21) := ⟨⟨by decide +kernel, by decide +kernel⟩, List.mem_of_getElem? (i := 619) (by decide +kernel), List.mem_of_getElem? (i := 633) (by decide +kernel), List.mem_of_getElem? (i := 634) (by decide +kernel)⟩
theorem lw_p33 : lw_okq (⟨"FogTailorsModel", "readsItem", "()Z"⟩, 21) := ⟨⟨by decide +kernel, by decide +kernel⟩, List.mem_of_getElem? (i := 619) (by decide +kernel), List.mem_of_getElem? (i := 646) (by decide +kernel), List.mem_of_getElem? (i := 647) (by decide +kernel)⟩
theorem lw_p34 : lw_okq (⟨"FogTailorsModel", "number", "(III)Z"⟩, 21) := ⟨⟨by decide +kernel, by decide +kernel⟩, List.mem_of_getElem? (i := 619) (by decide +kernel), List.mem_of_getElem? (i := 650) (by decide +kernel), List.mem_of_getElem? (i := 651) (by decide +kernel)⟩
theorem lw_p35 : lw_okq (⟨"FogTailorsModel", "once", "(IIII)Z"⟩, 21) := ⟨⟨by decide +kernel, by decide +kernel⟩, List.mem_of_getElem? (i := 619) (by decide +kernel), List.mem_of_getElem? (i := 654) (by decide +kernel), List.mem_of_getElem? (i := 655) (by decide +kernel)⟩
theorem lw_p36 : lw_okq (⟨"FogTailorsModel", "begins", "()V"⟩, 21) := ⟨⟨by decide +kernel, by decide +kernel⟩, List.mem_of_getElem? (i := 619) (by decide +kernel), List.mem_of_getElem? (i := 658) (by decide +kernel), List.mem_of_getElem? (i := 659) (by decide +kernel)⟩
theorem lw_p37 : lw_okq (⟨"FogTailorsModel", "isDawn", "(I)Z"⟩, 21) := ⟨⟨by decide +kernel, by decide +kernel⟩, List.mem_of_getElem? (i := 619) (by decide +kernel), List.mem_of_getElem? (i := 742) (by decide +kernel), List.mem_of_getElem? (i := 743) (by decide +kernel)⟩
theorem lw_p38 : lw_okq (⟨"FogTailorsModel", "isClient", "(I)Z"⟩, 21) := ⟨⟨by decide +kernel, by decide +kernel⟩, List.mem_of_getElem? (i := 619) (by decide +kernel), List.mem_of_getElem? (i := 750) (by decide +kernel), List.mem_of_getElem? (i := 751) (by decide +kernel)⟩
theorem lw_p39 : lw_okq (⟨"FogTailorsModel", "yardsOf", "(I)I"⟩, 21) := ⟨⟨by decide +kernel, by decide +kernel⟩, List.mem_of_getElem? (i := 619) (by decide +kernel), List.mem_of_getElem? (i := 754) (by decide +kernel), List.mem_of_getElem? (i := 755) (by decide +kernel)⟩
theorem lw_p40 : lw_okq (⟨"FogTailorsModel", "patches", "(I)I"⟩, 21) := ⟨⟨by decide +kernel, by decide +kernel⟩, List.mem_of_getElem? (i := 619) (by decide +kernel), List.mem_of_getElem? (i := 758) (by decide +kernel), List.mem_of_getElem? (i := 759) (by decide +kernel)⟩
theorem lw_p41 : lw_okq (⟨"FogTailorsModel", "suits", "(II)Z"⟩, 21) := ⟨⟨by decide +kernel, by decide +kernel⟩, List.mem_of_getElem? (i := 619) (by decide +kernel), List.mem_of_getElem? (i := 777) (by decide +kernel), List.mem_of_getElem? (i := 778) (by decide +kernel)⟩
theorem lw_p42 : lw_okq (⟨"FogTailorsModel", "keeps", "()V"⟩, 21) := ⟨⟨by decide +kernel, by decide +kernel⟩, List.mem_of_getElem? (i := 619) (by decide +kernel), List.mem_of_getElem? (i := 781) (by decide +kernel), List.mem_of_getElem? (i := 782) (by decide +kernel)⟩
theorem lw_p43 : lw_okq (⟨"FogTailorsModel", "isSet", "(I)Z"⟩, 21) := ⟨⟨by decide +kernel, by decide +kernel⟩, List.mem_of_getElem? (i := 619) (by decide +kernel), List.mem_of_getElem? (i := 801) (by decide +kernel), List.mem_of_getElem? (i := 802) (by decide +kernel)⟩
theorem lw_p44 : lw_okq (⟨"FogTailorsModel", "reckonsSums", "()V"⟩, 21) := ⟨⟨by decide +kernel, by decide +kernel⟩, List.mem_of_getElem? (i := 619) (by decide +kernel), List.mem_of_getElem? (i := 805) (by decide +kernel), List.mem_of_getElem? (i := 806) (by decide +kernel)⟩
theorem lw_p45 : lw_okq (⟨"FogTailorsModel", "reckons", "(II)V"⟩, 21) := ⟨⟨by decide +kernel, by decide +kernel⟩, List.mem_of_getElem? (i := 619) (by decide +kernel), List.mem_of_getElem? (i := 809) (by decide +kernel), List.mem_of_getElem? (i := 810) (by decide +kernel)⟩
theorem lw_p46 : lw_okq (⟨"FogTailorsModel", "canBy", "(II)Z"⟩, 21) := ⟨⟨by decide +kernel, by decide +kernel⟩, List.mem_of_getElem? (i := 619) (by decide +kernel), List.mem_of_getElem? (i := 820) (by decide +kernel), List.mem_of_getElem? (i := 821) (by decide +kernel)⟩
theorem lw_p47 : lw_okq (⟨"FogTailorsModel", "fromNow", "()I"⟩, 21) := ⟨⟨by decide +kernel, by decide +kernel⟩, List.mem_of_getElem? (i := 619) (by decide +kernel), List.mem_of_getElem? (i := 848) (by decide +kernel), List.mem_of_getElem? (i := 849) (by decide +kernel)⟩
def lw_privs_3 : List (MethodName × Nat) := [(⟨"FogTailorsModel", "letterAt", "(I)I"⟩, 21), (⟨"FogTailorsModel", "readsItem", "()Z"⟩, 21), (⟨"FogTailorsModel", "number", "(III)Z"⟩, 21), (⟨"FogTailorsModel", "once", "(IIII)Z"⟩, 21), (⟨"FogTailorsModel", "begins", "()V"⟩, 21), (⟨"FogTailorsModel", "isDawn", "(I)Z"⟩, 21), (⟨"FogTailorsModel", "isClient", "(I)Z"⟩, 21), (⟨"FogTailorsModel", "yardsOf", "(I)I"⟩, 21), (⟨"FogTailorsModel", "patches", "(I)I"⟩, 21), (⟨"FogTailorsModel", "suits", "(II)Z"⟩, 21), (⟨"FogTailorsModel", "keeps", "()V"⟩, 21), (⟨"FogTailorsModel", "isSet", "(I)Z"⟩, 21), (⟨"FogTailorsModel", "reckonsSums", "()V"⟩, 21), (⟨"FogTailorsModel", "reckons", "(II)V"⟩, 21), (⟨"FogTailorsModel", "canBy", "(II)Z"⟩, 21), (⟨"FogTailorsModel", "fromNow", "()I"⟩, 21)]
theorem lw_r3 : ∀ q ∈ lw_privs_3, lw_okq q := List.forall_mem_cons.mpr ⟨lw_p32, List.forall_mem_cons.mpr ⟨lw_p33, List.forall_mem_cons.mpr ⟨lw_p34, List.forall_mem_cons.mpr ⟨lw_p35, List.forall_mem_cons.mpr ⟨lw_p36, List.forall_mem_cons.mpr ⟨lw_p37, List.forall_mem_cons.mpr ⟨lw_p38, List.forall_mem_cons.mpr ⟨lw_p39, List.forall_mem_cons.mpr ⟨lw_p40, List.forall_mem_cons.mpr ⟨lw_p41, List.forall_mem_cons.mpr ⟨lw_p42, List.forall_mem_cons.mpr ⟨lw_p43, List.forall_mem_cons.mpr ⟨lw_p44, List.forall_mem_cons.mpr ⟨lw_p45, List.forall_mem_cons.mpr ⟨lw_p46, List.forall_mem_cons.mpr ⟨lw_p47, fun _ h => absurd h List.not_mem_nil⟩⟩⟩⟩⟩⟩⟩⟩⟩⟩⟩⟩⟩⟩⟩⟩
theorem lw_p48 : lw_okq (⟨"FogTailorsModel", "inFog", "(I)I"⟩, 21) := ⟨⟨by decide +kernel, by decide +kernel⟩, List.mem_of_getElem? (i := 619) (by decide +kernel), List.mem_of_getElem? (i := 852) (by decide +kernel), List.mem_of_getElem? (i := 853) (by decide +kernel)⟩
def lw_privs_4 : List (MethodName × Nat) := [(⟨"FogTailorsModel", "inFog", "(I)I"⟩, 21)]
theorem lw_r4 : ∀ q ∈ lw_privs_4, lw_okq q := List.forall_mem_cons.mpr ⟨lw_p48, fun _ h => absurd h List.not_mem_nil⟩
def lw_privs : List (MethodName × Nat) := lw_privs_1 ++ (lw_privs_2 ++ (lw_privs_3 ++ (lw_privs_4)))
def lw_tbl : List Cond := k2_sels lw_privs ++ tables_1
theorem lw_privs_ok : ∀ q ∈ lw_privs, lw_okq q := by
  show ∀ q ∈ lw_privs_1 ++ (lw_privs_2 ++ (lw_privs_3 ++ (lw_privs_4))), lw_okq q
  exact List.forall_mem_append.mpr ⟨lw_r1, List.forall_mem_append.mpr ⟨lw_r2, List.forall_mem_append.mpr ⟨lw_r3, lw_r4⟩⟩⟩

def RX0 : String := "FogTailors$Coats"
def TX0 : u_T := fun k => match k with
  | 0 => ("FogTailors$Coats", "dawns", "I", false)
  | 1 => ("FogTailors$Coats", "clients", "I", false)
  | 2 => ("FogTailors$Coats", "soonest", "[I", true)
  | 3 => ("FogTailors$Coats", "clothed", "[J", true)
  | 4 => ("FogTailors$Coats", "most", "[[I", true)
  | 5 => ("FogTailors$Coats", "setTold", "[I", true)
  | _ => ("FogTailors$Coats", "dawnOf", "[I", true)
def tyX0 : Nat → FieldType := fun k => match k with
  | 0 => .int
  | 1 => .int
  | 2 => .array .int
  | 3 => .array .long
  | 4 => .array (.array .int)
  | 5 => .array .int
  | _ => .array .int
theorem nmX0 : ∀ a, a < 7 → ∀ b, b < 7 → a ≠ b → (TX0 a).2.1 ≠ (TX0 b).2.1 := by decide +kernel
theorem tyX0_ok : ∀ k, k < 7 → parseFieldDescriptor (TX0 k).2.2.1 = some (tyX0 k) := by decide +kernel
abbrev cX0_init : ByteArray := prog_2_method_1_code
def yX0_init : MethodName := ⟨RX0, "<init>", "()V"⟩
abbrev cX0_reckon : ByteArray := prog_2_method_2_code
def yX0_reckon : MethodName := ⟨RX0, "reckon", "(LFogTailors$Told;)V"⟩
abbrev cX0_soonestOf : ByteArray := prog_2_method_3_code
def yX0_soonestOf : MethodName := ⟨RX0, "soonestOf", "(LFogTailors$Told;I)I"⟩
abbrev cX0_clothedBy : ByteArray := prog_2_method_4_code
def yX0_clothedBy : MethodName := ⟨RX0, "clothedBy", "(LFogTailors$Told;I)J"⟩
abbrev cX0_mostOf : ByteArray := prog_2_method_5_code
def yX0_mostOf : MethodName := ⟨RX0, "mostOf", "(II)I"⟩
abbrev cX0_clothes : ByteArray := prog_2_method_6_code
def yX0_clothes : MethodName := ⟨RX0, "clothes", "(II)Z"⟩
abbrev cX0_inOrder : ByteArray := prog_2_method_7_code
def yX0_inOrder : MethodName := ⟨RX0, "inOrder", "(LFogTailors$Told;II)I"⟩
abbrev cX0_lowestInTime : ByteArray := prog_2_method_8_code
def yX0_lowestInTime : MethodName := ⟨RX0, "lowestInTime", "(LFogTailors$Told;III)I"⟩
abbrev cX0_leastBehind : ByteArray := prog_2_method_9_code
def yX0_leastBehind : MethodName := ⟨RX0, "leastBehind", "(LFogTailors$Told;II)I"⟩
abbrev cX0_dawnTold : ByteArray := prog_2_method_10_code
def yX0_dawnTold : MethodName := ⟨RX0, "dawnTold", "(III)I"⟩
abbrev cX0_tell : ByteArray := prog_2_method_11_code
def yX0_tell : MethodName := ⟨RX0, "tell", "(IIII)Z"⟩
abbrev cX0_tellOne : ByteArray := prog_2_method_12_code
def yX0_tellOne : MethodName := ⟨RX0, "tellOne", "(II)Z"⟩
def RX1 : String := "FogTailors$Past"
def TX1 : u_T := fun k => match k with
  | 0 => ("FogTailors$Past", "known", "[LFogTailors$Standing;", true)
  | 1 => ("FogTailors$Past", "next", "I", false)
  | _ => ("FogTailors$Past", "many", "I", false)
def tyX1 : Nat → FieldType := fun k => match k with
  | 0 => .array (.object "FogTailors$Standing")
  | 1 => .int
  | _ => .int
theorem nmX1 : ∀ a, a < 3 → ∀ b, b < 3 → a ≠ b → (TX1 a).2.1 ≠ (TX1 b).2.1 := by decide +kernel
theorem tyX1_ok : ∀ k, k < 3 → parseFieldDescriptor (TX1 k).2.2.1 = some (tyX1 k) := by decide +kernel
abbrev cX1_init : ByteArray := prog_3_method_1_code
def yX1_init : MethodName := ⟨RX1, "<init>", "()V"⟩
abbrev cX1_remember : ByteArray := prog_3_method_2_code
def yX1_remember : MethodName := ⟨RX1, "remember", "(LFogTailors$Standing;)V"⟩
abbrev cX1_recall : ByteArray := prog_3_method_3_code
def yX1_recall : MethodName := ⟨RX1, "recall", "(LFogTailors$Standing;)V"⟩
def RX2 : String := "FogTailors$Pieces"
def TX2 : u_T := fun k => match k with
  | 0 => ("FogTailors$Pieces", "minutes", "[I", true)
  | 1 => ("FogTailors$Pieces", "could", "[Z", true)
  | _ => ("FogTailors$Pieces", "many", "I", false)
def tyX2 : Nat → FieldType := fun k => match k with
  | 0 => .array .int
  | 1 => .array .boolean
  | _ => .int
theorem nmX2 : ∀ a, a < 3 → ∀ b, b < 3 → a ≠ b → (TX2 a).2.1 ≠ (TX2 b).2.1 := by decide +kernel
theorem tyX2_ok : ∀ k, k < 3 → parseFieldDescriptor (TX2 k).2.2.1 = some (tyX2 k) := by decide +kernel
abbrev cX2_init : ByteArray := prog_4_method_1_code
def yX2_init : MethodName := ⟨RX2, "<init>", "()V"⟩
abbrev cX2_add : ByteArray := prog_4_method_2_code
def yX2_add : MethodName := ⟨RX2, "add", "(IZ)Z"⟩
abbrev cX2_agreeWith : ByteArray := prog_4_method_3_code
def yX2_agreeWith : MethodName := ⟨RX2, "agreeWith", "(I)Z"⟩
def RX3 : String := "FogTailors$Standing"
def TX3 : u_T := fun k => match k with
  | 0 => ("FogTailors$Standing", "dawn", "I", false)
  | 1 => ("FogTailors$Standing", "minute", "I", false)
  | 2 => ("FogTailors$Standing", "dressed", "I", false)
  | 3 => ("FogTailors$Standing", "left", "[I", true)
  | _ => ("FogTailors$Standing", "held", "[I", true)
def tyX3 : Nat → FieldType := fun k => match k with
  | 0 => .int
  | 1 => .int
  | 2 => .int
  | 3 => .array .int
  | _ => .array .int
theorem nmX3 : ∀ a, a < 5 → ∀ b, b < 5 → a ≠ b → (TX3 a).2.1 ≠ (TX3 b).2.1 := by decide +kernel
theorem tyX3_ok : ∀ k, k < 5 → parseFieldDescriptor (TX3 k).2.2.1 = some (tyX3 k) := by decide +kernel
abbrev cX3_init : ByteArray := prog_5_method_1_code
def yX3_init : MethodName := ⟨RX3, "<init>", "()V"⟩
abbrev cX3_begin : ByteArray := prog_5_method_2_code
def yX3_begin : MethodName := ⟨RX3, "begin", "(LFogTailors$Told;)V"⟩
abbrev cX3_become : ByteArray := prog_5_method_3_code
def yX3_become : MethodName := ⟨RX3, "become", "(LFogTailors$Standing;)V"⟩
abbrev cX3_isDressed : ByteArray := prog_5_method_4_code
def yX3_isDressed : MethodName := ⟨RX3, "isDressed", "(I)Z"⟩
abbrev cX3_heldOf : ByteArray := prog_5_method_5_code
def yX3_heldOf : MethodName := ⟨RX3, "heldOf", "(II)I"⟩
abbrev cX3_heldBy : ByteArray := prog_5_method_6_code
def yX3_heldBy : MethodName := ⟨RX3, "heldBy", "(I)I"⟩
abbrev cX3_patchesOf : ByteArray := prog_5_method_7_code
def yX3_patchesOf : MethodName := ⟨RX3, "patchesOf", "(I)I"⟩
abbrev cX3_cut : ByteArray := prog_5_method_8_code
def yX3_cut : MethodName := ⟨RX3, "cut", "(II)V"⟩
abbrev cX3_sew : ByteArray := prog_5_method_9_code
def yX3_sew : MethodName := ⟨RX3, "sew", "(II)V"⟩
abbrev cX3_goBy : ByteArray := prog_5_method_10_code
def yX3_goBy : MethodName := ⟨RX3, "goBy", "(II)I"⟩
abbrev cX3_loseAll : ByteArray := prog_5_method_11_code
def yX3_loseAll : MethodName := ⟨RX3, "loseAll", "(I)V"⟩
def RX4 : String := "FogTailors$Text"
def TX4 : u_T := fun k => match k with
  | 0 => ("FogTailors$Text", "letters", "[I", true)
  | 1 => ("FogTailors$Text", "length", "I", false)
  | 2 => ("FogTailors$Text", "at", "I", false)
  | 3 => ("FogTailors$Text", "start", "I", false)
  | 4 => ("FogTailors$Text", "token", "I", false)
  | _ => ("FogTailors$Text", "number", "I", false)
def tyX4 : Nat → FieldType := fun k => match k with
  | 0 => .array .int
  | 1 => .int
  | 2 => .int
  | 3 => .int
  | 4 => .int
  | _ => .int
theorem nmX4 : ∀ a, a < 6 → ∀ b, b < 6 → a ≠ b → (TX4 a).2.1 ≠ (TX4 b).2.1 := by decide +kernel
theorem tyX4_ok : ∀ k, k < 6 → parseFieldDescriptor (TX4 k).2.2.1 = some (tyX4 k) := by decide +kernel
abbrev cX4_init : ByteArray := prog_6_method_1_code
def yX4_init : MethodName := ⟨RX4, "<init>", "()V"⟩
abbrev cX4_add : ByteArray := prog_6_method_2_code
def yX4_add : MethodName := ⟨RX4, "add", "(I)Z"⟩
abbrev cX4_rewind : ByteArray := prog_6_method_3_code
def yX4_rewind : MethodName := ⟨RX4, "rewind", "()V"⟩
abbrev cX4_step : ByteArray := prog_6_method_4_code
def yX4_step : MethodName := ⟨RX4, "step", "()V"⟩
abbrev cX4_isDigit : ByteArray := prog_6_method_5_code
def yX4_isDigit : MethodName := ⟨RX4, "isDigit", "(I)Z"⟩
abbrev cX4_isSign : ByteArray := prog_6_method_6_code
def yX4_isSign : MethodName := ⟨RX4, "isSign", "(I)Z"⟩
def RX5 : String := "FogTailors$Told"
def TX5 : u_T := fun k => match k with
  | 0 => ("FogTailors$Told", "dawns", "I", false)
  | 1 => ("FogTailors$Told", "yards", "[I", true)
  | 2 => ("FogTailors$Told", "fogs", "[I", true)
  | 3 => ("FogTailors$Told", "lifts", "[I", true)
  | 4 => ("FogTailors$Told", "clients", "I", false)
  | 5 => ("FogTailors$Told", "kinds", "[I", true)
  | 6 => ("FogTailors$Told", "needs", "[I", true)
  | 7 => ("FogTailors$Told", "wants", "[I", true)
  | 8 => ("FogTailors$Told", "sewing", "[I", true)
  | 9 => ("FogTailors$Told", "ten", "I", false)
  | 10 => ("FogTailors$Told", "cellar", "I", false)
  | 11 => ("FogTailors$Told", "tenIsTold", "Z", false)
  | _ => ("FogTailors$Told", "cellarIsTold", "Z", false)
def tyX5 : Nat → FieldType := fun k => match k with
  | 0 => .int
  | 1 => .array .int
  | 2 => .array .int
  | 3 => .array .int
  | 4 => .int
  | 5 => .array .int
  | 6 => .array .int
  | 7 => .array .int
  | 8 => .array .int
  | 9 => .int
  | 10 => .int
  | 11 => .boolean
  | _ => .boolean
theorem nmX5 : ∀ a, a < 13 → ∀ b, b < 13 → a ≠ b → (TX5 a).2.1 ≠ (TX5 b).2.1 := by decide +kernel
theorem tyX5_ok : ∀ k, k < 13 → parseFieldDescriptor (TX5 k).2.2.1 = some (tyX5 k) := by decide +kernel
abbrev cX5_init : ByteArray := prog_7_method_1_code
def yX5_init : MethodName := ⟨RX5, "<init>", "()V"⟩
abbrev cX5_suits : ByteArray := prog_7_method_2_code
def yX5_suits : MethodName := ⟨RX5, "suits", "(II)Z"⟩
abbrev cX5_suitsAll : ByteArray := prog_7_method_3_code
def yX5_suitsAll : MethodName := ⟨RX5, "suitsAll", "(II)Z"⟩
abbrev cX5_needsOf : ByteArray := prog_7_method_4_code
def yX5_needsOf : MethodName := ⟨RX5, "needsOf", "(I)I"⟩
abbrev cX5_sewingOf : ByteArray := prog_7_method_5_code
def yX5_sewingOf : MethodName := ⟨RX5, "sewingOf", "(I)I"⟩
abbrev cX5_sumOf : ByteArray := prog_7_method_6_code
def yX5_sumOf : MethodName := ⟨RX5, "sumOf", "([II)I"⟩
abbrev cX5_read : ByteArray := prog_7_method_7_code
def yX5_read : MethodName := ⟨RX5, "read", "(LFogTailors$Text;)I"⟩
abbrev cX5_unsay : ByteArray := prog_7_method_8_code
def yX5_unsay : MethodName := ⟨RX5, "unsay", "()V"⟩
abbrev cX5_readItem : ByteArray := prog_7_method_9_code
def yX5_readItem : MethodName := ⟨RX5, "readItem", "(LFogTailors$Text;)Z"⟩
abbrev cX5_readDawn : ByteArray := prog_7_method_10_code
def yX5_readDawn : MethodName := ⟨RX5, "readDawn", "(LFogTailors$Text;)Z"⟩
abbrev cX5_readClient : ByteArray := prog_7_method_11_code
def yX5_readClient : MethodName := ⟨RX5, "readClient", "(LFogTailors$Text;)Z"⟩
abbrev cX5_readTen : ByteArray := prog_7_method_12_code
def yX5_readTen : MethodName := ⟨RX5, "readTen", "(LFogTailors$Text;)Z"⟩
abbrev cX5_readCellar : ByteArray := prog_7_method_13_code
def yX5_readCellar : MethodName := ⟨RX5, "readCellar", "(LFogTailors$Text;)Z"⟩
abbrev cX5_readNumber : ByteArray := prog_7_method_14_code
def yX5_readNumber : MethodName := ⟨RX5, "readNumber", "(LFogTailors$Text;II)Z"⟩
abbrev cX5_readItemsEnd : ByteArray := prog_7_method_15_code
def yX5_readItemsEnd : MethodName := ⟨RX5, "readItemsEnd", "(LFogTailors$Text;)Z"⟩
def RX6 : String := "FogTailors"
def TX6 : u_T := fun k => match k with
  | 0 => ("FogTailors", "text", "LFogTailors$Text;", true)
  | 1 => ("FogTailors", "told", "LFogTailors$Told;", false)
  | 2 => ("FogTailors", "spare", "LFogTailors$Told;", false)
  | 3 => ("FogTailors", "standing", "LFogTailors$Standing;", true)
  | 4 => ("FogTailors", "past", "LFogTailors$Past;", true)
  | 5 => ("FogTailors", "images", "[LFogTailors$Standing;", true)
  | 6 => ("FogTailors", "kept", "[Z", true)
  | 7 => ("FogTailors", "pieces", "LFogTailors$Pieces;", true)
  | 8 => ("FogTailors", "coats", "LFogTailors$Coats;", true)
  | _ => ("FogTailors", "traced", "J", false)
def tyX6 : Nat → FieldType := fun k => match k with
  | 0 => .object "FogTailors$Text"
  | 1 => .object "FogTailors$Told"
  | 2 => .object "FogTailors$Told"
  | 3 => .object "FogTailors$Standing"
  | 4 => .object "FogTailors$Past"
  | 5 => .array (.object "FogTailors$Standing")
  | 6 => .array .boolean
  | 7 => .object "FogTailors$Pieces"
  | 8 => .object "FogTailors$Coats"
  | _ => .long
theorem nmX6 : ∀ a, a < 10 → ∀ b, b < 10 → a ≠ b → (TX6 a).2.1 ≠ (TX6 b).2.1 := by decide +kernel
theorem tyX6_ok : ∀ k, k < 10 → parseFieldDescriptor (TX6 k).2.2.1 = some (tyX6 k) := by decide +kernel
abbrev cX6_init : ByteArray := prog_1_method_1_code
def yX6_init : MethodName := ⟨RX6, "<init>", "()V"⟩
abbrev cX6_type : ByteArray := prog_1_method_2_code
def yX6_type : MethodName := ⟨RX6, "type", "(I)I"⟩
abbrev cX6_clear : ByteArray := prog_1_method_3_code
def yX6_clear : MethodName := ⟨RX6, "clear", "()I"⟩
abbrev cX6_marsh : ByteArray := prog_1_method_4_code
def yX6_marsh : MethodName := ⟨RX6, "marsh", "()I"⟩
abbrev cX6_beginAnew : ByteArray := prog_1_method_5_code
def yX6_beginAnew : MethodName := ⟨RX6, "beginAnew", "()V"⟩
abbrev cX6_ofDawn : ByteArray := prog_1_method_6_code
def yX6_ofDawn : MethodName := ⟨RX6, "ofDawn", "(II)I"⟩
abbrev cX6_client : ByteArray := prog_1_method_7_code
def yX6_client : MethodName := ⟨RX6, "client", "(II)I"⟩
abbrev cX6_has : ByteArray := prog_1_method_8_code
def yX6_has : MethodName := ⟨RX6, "has", "(II)I"⟩
abbrev cX6_now : ByteArray := prog_1_method_9_code
def yX6_now : MethodName := ⟨RX6, "now", "(I)I"⟩
abbrev cX6_patchesOfDressed : ByteArray := prog_1_method_10_code
def yX6_patchesOfDressed : MethodName := ⟨RX6, "patchesOfDressed", "()I"⟩
abbrev cX6_isDawn : ByteArray := prog_1_method_11_code
def yX6_isDawn : MethodName := ⟨RX6, "isDawn", "(I)Z"⟩
abbrev cX6_isClient : ByteArray := prog_1_method_12_code
def yX6_isClient : MethodName := ⟨RX6, "isClient", "(I)Z"⟩
abbrev cX6_isSet : ByteArray := prog_1_method_13_code
def yX6_isSet : MethodName := ⟨RX6, "isSet", "(I)Z"⟩
abbrev cX6_isImage : ByteArray := prog_1_method_14_code
def yX6_isImage : MethodName := ⟨RX6, "isImage", "(I)Z"⟩
abbrev cX6_cuts : ByteArray := prog_1_method_15_code
def yX6_cuts : MethodName := ⟨RX6, "cuts", "(II)I"⟩
abbrev cX6_mayCut : ByteArray := prog_1_method_16_code
def yX6_mayCut : MethodName := ⟨RX6, "mayCut", "(II)Z"⟩
abbrev cX6_sews : ByteArray := prog_1_method_17_code
def yX6_sews : MethodName := ⟨RX6, "sews", "(I)I"⟩
abbrev cX6_maySew : ByteArray := prog_1_method_18_code
def yX6_maySew : MethodName := ⟨RX6, "maySew", "(I)Z"⟩
abbrev cX6_dawn : ByteArray := prog_1_method_19_code
def yX6_dawn : MethodName := ⟨RX6, "dawn", "()I"⟩
abbrev cX6_undo : ByteArray := prog_1_method_20_code
def yX6_undo : MethodName := ⟨RX6, "undo", "()I"⟩
abbrev cX6_round : ByteArray := prog_1_method_21_code
def yX6_round : MethodName := ⟨RX6, "round", "(II)I"⟩
abbrev cX6_can : ByteArray := prog_1_method_22_code
def yX6_can : MethodName := ⟨RX6, "can", "(II)I"⟩
abbrev cX6_plan : ByteArray := prog_1_method_23_code
def yX6_plan : MethodName := ⟨RX6, "plan", "(II)I"⟩
abbrev cX6_ways : ByteArray := prog_1_method_24_code
def yX6_ways : MethodName := ⟨RX6, "ways", "(II)I"⟩
abbrev cX6_waysFrom : ByteArray := prog_1_method_25_code
def yX6_waysFrom : MethodName := ⟨RX6, "waysFrom", "(IIII)I"⟩
abbrev cX6_suns : ByteArray := prog_1_method_26_code
def yX6_suns : MethodName := ⟨RX6, "suns", "(III)I"⟩
abbrev cX6_chances : ByteArray := prog_1_method_27_code
def yX6_chances : MethodName := ⟨RX6, "chances", "(III)I"⟩
abbrev cX6_sharedDivisor : ByteArray := prog_1_method_28_code
def yX6_sharedDivisor : MethodName := ⟨RX6, "sharedDivisor", "(II)I"⟩
abbrev cX6_found : ByteArray := prog_1_method_29_code
def yX6_found : MethodName := ⟨RX6, "found", "(II)I"⟩
abbrev cX6_forget : ByteArray := prog_1_method_30_code
def yX6_forget : MethodName := ⟨RX6, "forget", "()I"⟩
abbrev cX6_from : ByteArray := prog_1_method_31_code
def yX6_from : MethodName := ⟨RX6, "from", "()I"⟩
abbrev cX6_look : ByteArray := prog_1_method_32_code
def yX6_look : MethodName := ⟨RX6, "look", "()I"⟩
abbrev cX6_greaterPart : ByteArray := prog_1_method_33_code
def yX6_greaterPart : MethodName := ⟨RX6, "greaterPart", "(II)I"⟩
abbrev cX6_rate : ByteArray := prog_1_method_34_code
def yX6_rate : MethodName := ⟨RX6, "rate", "(II)I"⟩
abbrev cX6_rateCoat : ByteArray := prog_1_method_35_code
def yX6_rateCoat : MethodName := ⟨RX6, "rateCoat", "(I)I"⟩
abbrev cX6_rateCape : ByteArray := prog_1_method_36_code
def yX6_rateCape : MethodName := ⟨RX6, "rateCape", "(I)I"⟩
abbrev cX6_rateGown : ByteArray := prog_1_method_37_code
def yX6_rateGown : MethodName := ⟨RX6, "rateGown", "(I)I"⟩
abbrev cX6_rateJudge : ByteArray := prog_1_method_38_code
def yX6_rateJudge : MethodName := ⟨RX6, "rateJudge", "(I)I"⟩
abbrev cX6_rateBride : ByteArray := prog_1_method_39_code
def yX6_rateBride : MethodName := ⟨RX6, "rateBride", "(I)I"⟩
abbrev cX6_rateShirt : ByteArray := prog_1_method_40_code
def yX6_rateShirt : MethodName := ⟨RX6, "rateShirt", "(I)I"⟩
abbrev cX6_keep : ByteArray := prog_1_method_41_code
def yX6_keep : MethodName := ⟨RX6, "keep", "(I)I"⟩
abbrev cX6_back : ByteArray := prog_1_method_42_code
def yX6_back : MethodName := ⟨RX6, "back", "(I)I"⟩
abbrev cX6_count : ByteArray := prog_1_method_43_code
def yX6_count : MethodName := ⟨RX6, "count", "(I)I"⟩
abbrev cX6_trace : ByteArray := prog_1_method_44_code
def yX6_trace : MethodName := ⟨RX6, "trace", "()J"⟩
def RX7 : String := "FogTailorsModel"
def TX7 : u_T := fun k => match k with
  | 0 => ("FogTailorsModel", "trace", "J", false)
  | 1 => ("FogTailorsModel", "text", "[I", true)
  | 2 => ("FogTailorsModel", "typed", "I", false)
  | 3 => ("FogTailorsModel", "told", "[I", true)
  | 4 => ("FogTailorsModel", "draft", "[I", true)
  | 5 => ("FogTailorsModel", "s", "[I", true)
  | 6 => ("FogTailorsModel", "past", "[I", true)
  | 7 => ("FogTailorsModel", "known", "I", false)
  | 8 => ("FogTailorsModel", "images", "[I", true)
  | 9 => ("FogTailorsModel", "kept", "[Z", true)
  | 10 => ("FogTailorsModel", "notes", "[I", true)
  | 11 => ("FogTailorsModel", "noted", "I", false)
  | 12 => ("FogTailorsModel", "at", "I", false)
  | 13 => ("FogTailorsModel", "sort", "I", false)
  | 14 => ("FogTailorsModel", "start", "I", false)
  | 15 => ("FogTailorsModel", "value", "I", false)
  | 16 => ("FogTailorsModel", "sums", "[I", true)
  | 17 => ("FogTailorsModel", "sewn", "[I", true)
  | 18 => ("FogTailorsModel", "cans", "[J", true)
  | 19 => ("FogTailorsModel", "gives", "[I", true)
  | _ => ("FogTailorsModel", "many", "[I", true)
def tyX7 : Nat → FieldType := fun k => match k with
  | 0 => .long
  | 1 => .array .int
  | 2 => .int
  | 3 => .array .int
  | 4 => .array .int
  | 5 => .array .int
  | 6 => .array .int
  | 7 => .int
  | 8 => .array .int
  | 9 => .array .boolean
  | 10 => .array .int
  | 11 => .int
  | 12 => .int
  | 13 => .int
  | 14 => .int
  | 15 => .int
  | 16 => .array .int
  | 17 => .array .int
  | 18 => .array .long
  | 19 => .array .int
  | _ => .array .int
theorem nmX7 : ∀ a, a < 21 → ∀ b, b < 21 → a ≠ b → (TX7 a).2.1 ≠ (TX7 b).2.1 := by decide +kernel
theorem tyX7_ok : ∀ k, k < 21 → parseFieldDescriptor (TX7 k).2.2.1 = some (tyX7 k) := by decide +kernel
abbrev cX7_init : ByteArray := prog_9_method_1_code
def yX7_init : MethodName := ⟨RX7, "<init>", "()V"⟩
abbrev cX7_in : ByteArray := prog_9_method_3_code
def yX7_in : MethodName := ⟨RX7, "in", "(III)Z"⟩
abbrev cX7_isOf : ByteArray := prog_9_method_4_code
def yX7_isOf : MethodName := ⟨RX7, "isOf", "(II)Z"⟩
abbrev cX7_isDawn : ByteArray := prog_9_method_5_code
def yX7_isDawn : MethodName := ⟨RX7, "isDawn", "(I)Z"⟩
abbrev cX7_isClient : ByteArray := prog_9_method_6_code
def yX7_isClient : MethodName := ⟨RX7, "isClient", "(I)Z"⟩
abbrev cX7_isSet : ByteArray := prog_9_method_7_code
def yX7_isSet : MethodName := ⟨RX7, "isSet", "(I)Z"⟩
abbrev cX7_ones : ByteArray := prog_9_method_8_code
def yX7_ones : MethodName := ⟨RX7, "ones", "(I)I"⟩
abbrev cX7_type : ByteArray := prog_9_method_9_code
def yX7_type : MethodName := ⟨RX7, "type", "(I)I"⟩
abbrev cX7_clear : ByteArray := prog_9_method_10_code
def yX7_clear : MethodName := ⟨RX7, "clear", "()I"⟩
abbrev cX7_letterAt : ByteArray := prog_9_method_11_code
def yX7_letterAt : MethodName := ⟨RX7, "letterAt", "(I)I"⟩
abbrev cX7_isDigit : ByteArray := prog_9_method_12_code
def yX7_isDigit : MethodName := ⟨RX7, "isDigit", "(I)Z"⟩
abbrev cX7_isWord : ByteArray := prog_9_method_13_code
def yX7_isWord : MethodName := ⟨RX7, "isWord", "(I)Z"⟩
abbrev cX7_token : ByteArray := prog_9_method_14_code
def yX7_token : MethodName := ⟨RX7, "token", "()V"⟩
abbrev cX7_number : ByteArray := prog_9_method_15_code
def yX7_number : MethodName := ⟨RX7, "number", "(III)Z"⟩
abbrev cX7_once : ByteArray := prog_9_method_16_code
def yX7_once : MethodName := ⟨RX7, "once", "(IIII)Z"⟩
abbrev cX7_readsItem : ByteArray := prog_9_method_17_code
def yX7_readsItem : MethodName := ⟨RX7, "readsItem", "()Z"⟩
abbrev cX7_reads : ByteArray := prog_9_method_18_code
def yX7_reads : MethodName := ⟨RX7, "reads", "()Z"⟩
abbrev cX7_begins : ByteArray := prog_9_method_19_code
def yX7_begins : MethodName := ⟨RX7, "begins", "()V"⟩
abbrev cX7_marsh : ByteArray := prog_9_method_20_code
def yX7_marsh : MethodName := ⟨RX7, "marsh", "()I"⟩
abbrev cX7_ofDawn : ByteArray := prog_9_method_21_code
def yX7_ofDawn : MethodName := ⟨RX7, "ofDawn", "(II)I"⟩
abbrev cX7_yardsOf : ByteArray := prog_9_method_22_code
def yX7_yardsOf : MethodName := ⟨RX7, "yardsOf", "(I)I"⟩
abbrev cX7_patches : ByteArray := prog_9_method_23_code
def yX7_patches : MethodName := ⟨RX7, "patches", "(I)I"⟩
abbrev cX7_client : ByteArray := prog_9_method_24_code
def yX7_client : MethodName := ⟨RX7, "client", "(II)I"⟩
abbrev cX7_has : ByteArray := prog_9_method_25_code
def yX7_has : MethodName := ⟨RX7, "has", "(II)I"⟩
abbrev cX7_now : ByteArray := prog_9_method_26_code
def yX7_now : MethodName := ⟨RX7, "now", "(I)I"⟩
abbrev cX7_keeps : ByteArray := prog_9_method_27_code
def yX7_keeps : MethodName := ⟨RX7, "keeps", "()V"⟩
abbrev cX7_suits : ByteArray := prog_9_method_28_code
def yX7_suits : MethodName := ⟨RX7, "suits", "(II)Z"⟩
abbrev cX7_cuts : ByteArray := prog_9_method_29_code
def yX7_cuts : MethodName := ⟨RX7, "cuts", "(II)I"⟩
abbrev cX7_sews : ByteArray := prog_9_method_30_code
def yX7_sews : MethodName := ⟨RX7, "sews", "(I)I"⟩
abbrev cX7_dawn : ByteArray := prog_9_method_31_code
def yX7_dawn : MethodName := ⟨RX7, "dawn", "()I"⟩
abbrev cX7_undo : ByteArray := prog_9_method_32_code
def yX7_undo : MethodName := ⟨RX7, "undo", "()I"⟩
abbrev cX7_reckonsSums : ByteArray := prog_9_method_33_code
def yX7_reckonsSums : MethodName := ⟨RX7, "reckonsSums", "()V"⟩
abbrev cX7_reckons : ByteArray := prog_9_method_34_code
def yX7_reckons : MethodName := ⟨RX7, "reckons", "(II)V"⟩
abbrev cX7_round : ByteArray := prog_9_method_35_code
def yX7_round : MethodName := ⟨RX7, "round", "(II)I"⟩
abbrev cX7_canBy : ByteArray := prog_9_method_36_code
def yX7_canBy : MethodName := ⟨RX7, "canBy", "(II)Z"⟩
abbrev cX7_can : ByteArray := prog_9_method_37_code
def yX7_can : MethodName := ⟨RX7, "can", "(II)I"⟩
abbrev cX7_plan : ByteArray := prog_9_method_38_code
def yX7_plan : MethodName := ⟨RX7, "plan", "(II)I"⟩
abbrev cX7_ways : ByteArray := prog_9_method_39_code
def yX7_ways : MethodName := ⟨RX7, "ways", "(II)I"⟩
abbrev cX7_suns : ByteArray := prog_9_method_40_code
def yX7_suns : MethodName := ⟨RX7, "suns", "(III)I"⟩
abbrev cX7_found : ByteArray := prog_9_method_41_code
def yX7_found : MethodName := ⟨RX7, "found", "(II)I"⟩
abbrev cX7_forget : ByteArray := prog_9_method_42_code
def yX7_forget : MethodName := ⟨RX7, "forget", "()I"⟩
abbrev cX7_inFog : ByteArray := prog_9_method_43_code
def yX7_inFog : MethodName := ⟨RX7, "inFog", "(I)I"⟩
abbrev cX7_fromNow : ByteArray := prog_9_method_44_code
def yX7_fromNow : MethodName := ⟨RX7, "fromNow", "()I"⟩
abbrev cX7_from : ByteArray := prog_9_method_45_code
def yX7_from : MethodName := ⟨RX7, "from", "()I"⟩
abbrev cX7_look : ByteArray := prog_9_method_46_code
def yX7_look : MethodName := ⟨RX7, "look", "()I"⟩
abbrev cX7_rate : ByteArray := prog_9_method_47_code
def yX7_rate : MethodName := ⟨RX7, "rate", "(II)I"⟩
abbrev cX7_keep : ByteArray := prog_9_method_48_code
def yX7_keep : MethodName := ⟨RX7, "keep", "(I)I"⟩
abbrev cX7_back : ByteArray := prog_9_method_49_code
def yX7_back : MethodName := ⟨RX7, "back", "(I)I"⟩
abbrev cX7_count : ByteArray := prog_9_method_50_code
def yX7_count : MethodName := ⟨RX7, "count", "(I)I"⟩
abbrev cX7_trace : ByteArray := prog_9_method_51_code
def yX7_trace : MethodName := ⟨RX7, "trace", "()J"⟩
def RJ6 : String := "java/lang/Integer"
abbrev cJ6_bitCount_0f7a4 : ByteArray := prog_10_method_49_code
def yJ6_bitCount_0f7a4 : MethodName := ⟨RJ6, "bitCount", "(I)I"⟩
def RJ9 : String := "java/lang/Math"
abbrev cJ9_max_7cf53 : ByteArray := prog_11_method_65_code
def yJ9_max_7cf53 : MethodName := ⟨RJ9, "max", "(II)I"⟩
abbrev cJ9_min_7cf53 : ByteArray := prog_11_method_69_code
def yJ9_min_7cf53 : MethodName := ⟨RJ9, "min", "(II)I"⟩
def RJ10 : String := "java/lang/System"
def RL : String := "FogTailorsLaw"
abbrev cL_law : ByteArray := code
def yL_law : MethodName := ⟨RL, "law", "([I)Z"⟩
abbrev vwCl : List vw_C := [(RX0, TX0, 7), (RX1, TX1, 3), (RX2, TX2, 3), (RX3, TX3, 5), (RX4, TX4, 6), (RX5, TX5, 13), (RX6, TX6, 10), (RX7, TX7, 21)]
