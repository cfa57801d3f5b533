-- ===== PART A: goes FIRST, ahead of the names: the tables' words, and 'selects' of the private methods out of them =====
/-- a private method of a class that the tables say can be made, by its rows of tables_1 -/
def lw_okq (q : MethodName × Nat) : Prop := (q.1.cls ≠ "java/lang/invoke/MethodHandle" ∧ q.1.cls ≠ "java/lang/invoke/VarHandle") ∧ Cond.instantiable q.1.cls q.2 ∈ tables_1 ∧ Cond.privateMethod q.1 ∈ tables_1 ∧ Cond.instanceMethod q.1 ∈ tables_1
theorem lw_p0 : lw_okq (⟨"GameTables", "refuse", "(I)I"⟩, 5) := ⟨⟨by decide +kernel, by decide +kernel⟩, List.mem_of_getElem? (i := 10) (by decide +kernel), List.mem_of_getElem? (i := 136) (by decide +kernel), List.mem_of_getElem? (i := 137) (by decide +kernel)⟩
theorem lw_p1 : lw_okq (⟨"GameTables", "isPlace", "(III)Z"⟩, 5) := ⟨⟨by decide +kernel, by decide +kernel⟩, List.mem_of_getElem? (i := 10) (by decide +kernel), List.mem_of_getElem? (i := 148) (by decide +kernel), List.mem_of_getElem? (i := 149) (by decide +kernel)⟩
theorem lw_p2 : lw_okq (⟨"GameTables", "refuseAmongPays", "(I)I"⟩, 5) := ⟨⟨by decide +kernel, by decide +kernel⟩, List.mem_of_getElem? (i := 10) (by decide +kernel), List.mem_of_getElem? (i := 159) (by decide +kernel), List.mem_of_getElem? (i := 160) (by decide +kernel)⟩
theorem lw_p3 : lw_okq (⟨"GameTables", "player", "(I)LGameTables$Player;"⟩, 5) := ⟨⟨by decide +kernel, by decide +kernel⟩, List.mem_of_getElem? (i := 10) (by decide +kernel), List.mem_of_getElem? (i := 164) (by decide +kernel), List.mem_of_getElem? (i := 165) (by decide +kernel)⟩
theorem lw_p4 : lw_okq (⟨"GameTables", "refuseAmongLongs", "(I)J"⟩, 5) := ⟨⟨by decide +kernel, by decide +kernel⟩, List.mem_of_getElem? (i := 10) (by decide +kernel), List.mem_of_getElem? (i := 192) (by decide +kernel), List.mem_of_getElem? (i := 193) (by decide +kernel)⟩
theorem lw_p5 : lw_okq (⟨"GameTables", "trayOf", "(I)LGameTables$Mix;"⟩, 5) := ⟨⟨by decide +kernel, by decide +kernel⟩, List.mem_of_getElem? (i := 10) (by decide +kernel), List.mem_of_getElem? (i := 197) (by decide +kernel), List.mem_of_getElem? (i := 198) (by decide +kernel)⟩
theorem lw_p6 : lw_okq (⟨"GameTables$Player", "worthOf", "(ILGameTables$Mix;)J"⟩, 5) := ⟨⟨by decide +kernel, by decide +kernel⟩, List.mem_of_getElem? (i := 18) (by decide +kernel), List.mem_of_getElem? (i := 213) (by decide +kernel), List.mem_of_getElem? (i := 214) (by decide +kernel)⟩
theorem lw_p7 : lw_okq (⟨"GameTables$Player", "paysMore", "(III)Z"⟩, 5) := ⟨⟨by decide +kernel, by decide +kernel⟩, List.mem_of_getElem? (i := 18) (by decide +kernel), List.mem_of_getElem? (i := 266) (by decide +kernel), List.mem_of_getElem? (i := 267) (by decide +kernel)⟩
theorem lw_p8 : lw_okq (⟨"GameTables$Player", "leastFor", "(II)I"⟩, 5) := ⟨⟨by decide +kernel, by decide +kernel⟩, List.mem_of_getElem? (i := 18) (by decide +kernel), List.mem_of_getElem? (i := 296) (by decide +kernel), List.mem_of_getElem? (i := 297) (by decide +kernel)⟩
theorem lw_p9 : lw_okq (⟨"GameTables", "knowCorners", "()V"⟩, 5) := ⟨⟨by decide +kernel, by decide +kernel⟩, List.mem_of_getElem? (i := 10) (by decide +kernel), List.mem_of_getElem? (i := 322) (by decide +kernel), List.mem_of_getElem? (i := 323) (by decide +kernel)⟩
theorem lw_p10 : lw_okq (⟨"GameTables$Corners", "search", "(IILGameTables$Player;)V"⟩, 4) := ⟨⟨by decide +kernel, by decide +kernel⟩, List.mem_of_getElem? (i := 24) (by decide +kernel), List.mem_of_getElem? (i := 337) (by decide +kernel), List.mem_of_getElem? (i := 338) (by decide +kernel)⟩
theorem lw_p11 : lw_okq (⟨"GameTables$Corners", "layGaps", "(IILGameTables$Player;)V"⟩, 4) := ⟨⟨by decide +kernel, by decide +kernel⟩, List.mem_of_getElem? (i := 24) (by decide +kernel), List.mem_of_getElem? (i := 341) (by decide +kernel), List.mem_of_getElem? (i := 342) (by decide +kernel)⟩
theorem lw_p12 : lw_okq (⟨"GameTables$Corners", "layLine", "(IILGameTables$Player;II)V"⟩, 4) := ⟨⟨by decide +kernel, by decide +kernel⟩, List.mem_of_getElem? (i := 24) (by decide +kernel), List.mem_of_getElem? (i := 347) (by decide +kernel), List.mem_of_getElem? (i := 348) (by decide +kernel)⟩
theorem lw_p13 : lw_okq (⟨"GameTables$Corners", "layParts", "(I)V"⟩, 4) := ⟨⟨by decide +kernel, by decide +kernel⟩, List.mem_of_getElem? (i := 24) (by decide +kernel), List.mem_of_getElem? (i := 352) (by decide +kernel), List.mem_of_getElem? (i := 353) (by decide +kernel)⟩
theorem lw_p14 : lw_okq (⟨"GameTables$Corners", "gapsWithout", "(II)J"⟩, 4) := ⟨⟨by decide +kernel, by decide +kernel⟩, List.mem_of_getElem? (i := 24) (by decide +kernel), List.mem_of_getElem? (i := 356) (by decide +kernel), List.mem_of_getElem? (i := 357) (by decide +kernel)⟩
theorem lw_p15 : lw_okq (⟨"GameTables$Corners", "twoLines", "(IIII)J"⟩, 4) := ⟨⟨by decide +kernel, by decide +kernel⟩, List.mem_of_getElem? (i := 24) (by decide +kernel), List.mem_of_getElem? (i := 360) (by decide +kernel), List.mem_of_getElem? (i := 361) (by decide +kernel)⟩
def lw_privs_1 : List (MethodName × Nat) := [(⟨"GameTables", "refuse", "(I)I"⟩, 5), (⟨"GameTables", "isPlace", "(III)Z"⟩, 5), (⟨"GameTables", "refuseAmongPays", "(I)I"⟩, 5), (⟨"GameTables", "player", "(I)LGameTables$Player;"⟩, 5), (⟨"GameTables", "refuseAmongLongs", "(I)J"⟩, 5), (⟨"GameTables", "trayOf", "(I)LGameTables$Mix;"⟩, 5), (⟨"GameTables$Player", "worthOf", "(ILGameTables$Mix;)J"⟩, 5), (⟨"GameTables$Player", "paysMore", "(III)Z"⟩, 5), (⟨"GameTables$Player", "leastFor", "(II)I"⟩, 5), (⟨"GameTables", "knowCorners", "()V"⟩, 5), (⟨"GameTables$Corners", "search", "(IILGameTables$Player;)V"⟩, 4), (⟨"GameTables$Corners", "layGaps", "(IILGameTables$Player;)V"⟩, 4), (⟨"GameTables$Corners", "layLine", "(IILGameTables$Player;II)V"⟩, 4), (⟨"GameTables$Corners", "layParts", "(I)V"⟩, 4), (⟨"GameTables$Corners", "gapsWithout", "(II)J"⟩, 4), (⟨"GameTables$Corners", "twoLines", "(IIII)J"⟩, 4)]
theorem lw_r1 : ∀ q ∈ lw_privs_1, lw_okq q := List.forall_mem_cons.mpr ⟨lw_p0, List.forall_mem_cons.mpr ⟨lw_p1, List.forall_mem_cons.mpr ⟨lw_p2, List.forall_mem_cons.mpr ⟨lw_p3, List.forall_mem_cons.mpr ⟨lw_p4, List.forall_mem_cons.mpr ⟨lw_p5, List.forall_mem_cons.mpr ⟨lw_p6, List.forall_mem_cons.mpr ⟨lw_p7, List.forall_mem_cons.mpr ⟨lw_p8, List.forall_mem_cons.mpr ⟨lw_p9, List.forall_mem_cons.mpr ⟨lw_p10, List.forall_mem_cons.mpr ⟨lw_p11, List.forall_mem_cons.mpr ⟨lw_p12, List.forall_mem_cons.mpr ⟨lw_p13, List.forall_mem_cons.mpr ⟨lw_p14, List.forall_mem_cons.mpr ⟨lw_p15, fun _ h => absurd h List.not_mem_nil⟩⟩⟩⟩⟩⟩⟩⟩⟩⟩⟩⟩⟩⟩⟩⟩
theorem lw_p16 : lw_okq (⟨"GameTables$Corners", "makePositive", "(I)Z"⟩, 4) := ⟨⟨by decide +kernel, by decide +kernel⟩, List.mem_of_getElem? (i := 24) (by decide +kernel), List.mem_of_getElem? (i := 364) (by decide +kernel), List.mem_of_getElem? (i := 365) (by decide +kernel)⟩
theorem lw_p17 : lw_okq (⟨"GameTables$Corners", "signOfFirst", "(I)J"⟩, 4) := ⟨⟨by decide +kernel, by decide +kernel⟩, List.mem_of_getElem? (i := 24) (by decide +kernel), List.mem_of_getElem? (i := 368) (by decide +kernel), List.mem_of_getElem? (i := 369) (by decide +kernel)⟩
theorem lw_p18 : lw_okq (⟨"GameTables$Corners", "keepSpare", "()V"⟩, 4) := ⟨⟨by decide +kernel, by decide +kernel⟩, List.mem_of_getElem? (i := 24) (by decide +kernel), List.mem_of_getElem? (i := 375) (by decide +kernel), List.mem_of_getElem? (i := 376) (by decide +kernel)⟩
theorem lw_p19 : lw_okq (⟨"GameTables$Corners", "insertSpare", "(I)V"⟩, 4) := ⟨⟨by decide +kernel, by decide +kernel⟩, List.mem_of_getElem? (i := 24) (by decide +kernel), List.mem_of_getElem? (i := 383) (by decide +kernel), List.mem_of_getElem? (i := 384) (by decide +kernel)⟩
theorem lw_p20 : lw_okq (⟨"GameTables", "balancesBefore", "(II)I"⟩, 5) := ⟨⟨by decide +kernel, by decide +kernel⟩, List.mem_of_getElem? (i := 10) (by decide +kernel), List.mem_of_getElem? (i := 400) (by decide +kernel), List.mem_of_getElem? (i := 401) (by decide +kernel)⟩
theorem lw_p21 : lw_okq (⟨"GameTables", "balancesOf", "(LGameTables$Mix;I)I"⟩, 5) := ⟨⟨by decide +kernel, by decide +kernel⟩, List.mem_of_getElem? (i := 10) (by decide +kernel), List.mem_of_getElem? (i := 404) (by decide +kernel), List.mem_of_getElem? (i := 405) (by decide +kernel)⟩
theorem lw_p22 : lw_okq (⟨"GameTables", "pairOf", "(I)I"⟩, 5) := ⟨⟨by decide +kernel, by decide +kernel⟩, List.mem_of_getElem? (i := 10) (by decide +kernel), List.mem_of_getElem? (i := 412) (by decide +kernel), List.mem_of_getElem? (i := 413) (by decide +kernel)⟩
theorem lw_p23 : lw_okq (⟨"GameTables", "kindOf", "(LGameTables$Mix;LGameTables$Mix;)I"⟩, 5) := ⟨⟨by decide +kernel, by decide +kernel⟩, List.mem_of_getElem? (i := 10) (by decide +kernel), List.mem_of_getElem? (i := 416) (by decide +kernel), List.mem_of_getElem? (i := 417) (by decide +kernel)⟩
theorem lw_p24 : lw_okq (⟨"GameTables", "refusalsCounted", "(I)I"⟩, 5) := ⟨⟨by decide +kernel, by decide +kernel⟩, List.mem_of_getElem? (i := 10) (by decide +kernel), List.mem_of_getElem? (i := 477) (by decide +kernel), List.mem_of_getElem? (i := 478) (by decide +kernel)⟩
theorem lw_p25 : lw_okq (⟨"GameTablesModel", "refuse", "(I)I"⟩, 19) := ⟨⟨by decide +kernel, by decide +kernel⟩, List.mem_of_getElem? (i := 481) (by decide +kernel), List.mem_of_getElem? (i := 549) (by decide +kernel), List.mem_of_getElem? (i := 550) (by decide +kernel)⟩
theorem lw_p26 : lw_okq (⟨"GameTablesModel", "isChoice", "(II)Z"⟩, 19) := ⟨⟨by decide +kernel, by decide +kernel⟩, List.mem_of_getElem? (i := 481) (by decide +kernel), List.mem_of_getElem? (i := 560) (by decide +kernel), List.mem_of_getElem? (i := 561) (by decide +kernel)⟩
theorem lw_p27 : lw_okq (⟨"GameTablesModel", "refuseBig", "(I)I"⟩, 19) := ⟨⟨by decide +kernel, by decide +kernel⟩, List.mem_of_getElem? (i := 481) (by decide +kernel), List.mem_of_getElem? (i := 567) (by decide +kernel), List.mem_of_getElem? (i := 568) (by decide +kernel)⟩
theorem lw_p28 : lw_okq (⟨"GameTablesModel", "refuseGreat", "(I)J"⟩, 19) := ⟨⟨by decide +kernel, by decide +kernel⟩, List.mem_of_getElem? (i := 481) (by decide +kernel), List.mem_of_getElem? (i := 585) (by decide +kernel), List.mem_of_getElem? (i := 586) (by decide +kernel)⟩
theorem lw_p29 : lw_okq (⟨"GameTablesModel", "sumOf", "(I)I"⟩, 19) := ⟨⟨by decide +kernel, by decide +kernel⟩, List.mem_of_getElem? (i := 481) (by decide +kernel), List.mem_of_getElem? (i := 590) (by decide +kernel), List.mem_of_getElem? (i := 591) (by decide +kernel)⟩
theorem lw_p30 : lw_okq (⟨"GameTablesModel", "showTray", "()V"⟩, 19) := ⟨⟨by decide +kernel, by decide +kernel⟩, List.mem_of_getElem? (i := 481) (by decide +kernel), List.mem_of_getElem? (i := 594) (by decide +kernel), List.mem_of_getElem? (i := 595) (by decide +kernel)⟩
theorem lw_p31 : lw_okq (⟨"GameTablesModel", "meanOf", "(I[JI[JI)J"⟩, 19) := ⟨⟨by decide +kernel, by decide +kernel⟩, List.mem_of_getElem? (i := 481) (by decide +kernel), List.mem_of_getElem? (i := 598) (by decide +kernel), List.mem_of_getElem? (i := 599) (by decide +kernel)⟩
def lw_privs_2 : List (MethodName × Nat) := [(⟨"GameTables$Corners", "makePositive", "(I)Z"⟩, 4), (⟨"GameTables$Corners", "signOfFirst", "(I)J"⟩, 4), (⟨"GameTables$Corners", "keepSpare", "()V"⟩, 4), (⟨"GameTables$Corners", "insertSpare", "(I)V"⟩, 4), (⟨"GameTables", "balancesBefore", "(II)I"⟩, 5), (⟨"GameTables", "balancesOf", "(LGameTables$Mix;I)I"⟩, 5), (⟨"GameTables", "pairOf", "(I)I"⟩, 5), (⟨"GameTables", "kindOf", "(LGameTables$Mix;LGameTables$Mix;)I"⟩, 5), (⟨"GameTables", "refusalsCounted", "(I)I"⟩, 5), (⟨"GameTablesModel", "refuse", "(I)I"⟩, 19), (⟨"GameTablesModel", "isChoice", "(II)Z"⟩, 19), (⟨"GameTablesModel", "refuseBig", "(I)I"⟩, 19), (⟨"GameTablesModel", "refuseGreat", "(I)J"⟩, 19), (⟨"GameTablesModel", "sumOf", "(I)I"⟩, 19), (⟨"GameTablesModel", "showTray", "()V"⟩, 19), (⟨"GameTablesModel", "meanOf", "(I[JI[JI)J"⟩, 19)]
theorem lw_r2 : ∀ q ∈ lw_privs_2, lw_okq q := List.forall_mem_cons.mpr ⟨lw_p16, List.forall_mem_cons.mpr ⟨lw_p17, List.forall_mem_cons.mpr ⟨lw_p18, List.forall_mem_cons.mpr ⟨lw_p19, List.forall_mem_cons.mpr ⟨lw_p20, List.forall_mem_cons.mpr ⟨lw_p21, List.forall_mem_cons.mpr ⟨lw_p22, List.forall_mem_cons.mpr ⟨lw_p23, List.forall_mem_cons.mpr ⟨lw_p24, List.forall_mem_cons.mpr ⟨lw_p25, List.forall_mem_cons.mpr ⟨lw_p26, List.forall_mem_cons.mpr ⟨lw_p27, List.forall_mem_cons.mpr ⟨lw_p28, List.forall_mem_cons.mpr ⟨lw_p29, List.forall_mem_cons.mpr ⟨lw_p30, List.forall_mem_cons.mpr ⟨lw_p31, fun _ h => absurd h List.not_mem_nil⟩⟩⟩⟩⟩⟩⟩⟩⟩⟩⟩⟩⟩⟩⟩⟩
theorem lw_p32 : lw_okq (⟨"GameTablesModel", "trayAnswers", "(I)I"⟩, 19) := ⟨⟨by decide +kernel, by decide +kernel⟩, List.mem_of_getElem? (i := 481) (by decide +kernel), List.mem_of_getElem? (i := 609) (by decide +kernel), List.mem_of_getElem? (i := 610) (by decide +kernel)⟩
theorem lw_p33 : lw_okq (⟨"GameTablesModel", "answersTo", "(I[JI)I"⟩, 19) := ⟨⟨by decide +kernel, by decide +kernel⟩, List.mem_of_getElem? (i := 481) (by decide +kernel), List.mem_of_getElem? (i := 613) (by decide +kernel), List.mem_of_getElem? (i := 614) (by decide +kernel)⟩
theorem lw_p34 : lw_okq (⟨"GameTablesModel", "get", "(III)I"⟩, 19) := ⟨⟨by decide +kernel, by decide +kernel⟩, List.mem_of_getElem? (i := 481) (by decide +kernel), List.mem_of_getElem? (i := 617) (by decide +kernel), List.mem_of_getElem? (i := 618) (by decide +kernel)⟩
theorem lw_p35 : lw_okq (⟨"GameTablesModel", "whyNot", "()I"⟩, 19) := ⟨⟨by decide +kernel, by decide +kernel⟩, List.mem_of_getElem? (i := 481) (by decide +kernel), List.mem_of_getElem? (i := 625) (by decide +kernel), List.mem_of_getElem? (i := 626) (by decide +kernel)⟩
theorem lw_p36 : lw_okq (⟨"GameTablesModel", "worseBy", "(IIII)I"⟩, 19) := ⟨⟨by decide +kernel, by decide +kernel⟩, List.mem_of_getElem? (i := 481) (by decide +kernel), List.mem_of_getElem? (i := 637) (by decide +kernel), List.mem_of_getElem? (i := 638) (by decide +kernel)⟩
theorem lw_p37 : lw_okq (⟨"GameTablesModel", "drop", "()V"⟩, 19) := ⟨⟨by decide +kernel, by decide +kernel⟩, List.mem_of_getElem? (i := 481) (by decide +kernel), List.mem_of_getElem? (i := 645) (by decide +kernel), List.mem_of_getElem? (i := 646) (by decide +kernel)⟩
theorem lw_p38 : lw_okq (⟨"GameTablesModel", "findCorners", "(I)V"⟩, 19) := ⟨⟨by decide +kernel, by decide +kernel⟩, List.mem_of_getElem? (i := 481) (by decide +kernel), List.mem_of_getElem? (i := 665) (by decide +kernel), List.mem_of_getElem? (i := 666) (by decide +kernel)⟩
theorem lw_p39 : lw_okq (⟨"GameTablesModel", "solve", "(II)Z"⟩, 19) := ⟨⟨by decide +kernel, by decide +kernel⟩, List.mem_of_getElem? (i := 481) (by decide +kernel), List.mem_of_getElem? (i := 675) (by decide +kernel), List.mem_of_getElem? (i := 676) (by decide +kernel)⟩
theorem lw_p40 : lw_okq (⟨"GameTablesModel", "without", "(III)J"⟩, 19) := ⟨⟨by decide +kernel, by decide +kernel⟩, List.mem_of_getElem? (i := 481) (by decide +kernel), List.mem_of_getElem? (i := 679) (by decide +kernel), List.mem_of_getElem? (i := 680) (by decide +kernel)⟩
theorem lw_p41 : lw_okq (⟨"GameTablesModel", "put", "(III)V"⟩, 19) := ⟨⟨by decide +kernel, by decide +kernel⟩, List.mem_of_getElem? (i := 481) (by decide +kernel), List.mem_of_getElem? (i := 683) (by decide +kernel), List.mem_of_getElem? (i := 684) (by decide +kernel)⟩
theorem lw_p42 : lw_okq (⟨"GameTablesModel", "ahead", "(I)I"⟩, 19) := ⟨⟨by decide +kernel, by decide +kernel⟩, List.mem_of_getElem? (i := 481) (by decide +kernel), List.mem_of_getElem? (i := 687) (by decide +kernel), List.mem_of_getElem? (i := 688) (by decide +kernel)⟩
theorem lw_p43 : lw_okq (⟨"GameTablesModel", "isBalance", "(II)Z"⟩, 19) := ⟨⟨by decide +kernel, by decide +kernel⟩, List.mem_of_getElem? (i := 481) (by decide +kernel), List.mem_of_getElem? (i := 699) (by decide +kernel), List.mem_of_getElem? (i := 700) (by decide +kernel)⟩
theorem lw_p44 : lw_okq (⟨"GameTablesModel", "told", "(III)J"⟩, 19) := ⟨⟨by decide +kernel, by decide +kernel⟩, List.mem_of_getElem? (i := 481) (by decide +kernel), List.mem_of_getElem? (i := 708) (by decide +kernel), List.mem_of_getElem? (i := 709) (by decide +kernel)⟩
theorem lw_p45 : lw_okq (⟨"GameTablesModel", "kindOf", "(II)I"⟩, 19) := ⟨⟨by decide +kernel, by decide +kernel⟩, List.mem_of_getElem? (i := 481) (by decide +kernel), List.mem_of_getElem? (i := 712) (by decide +kernel), List.mem_of_getElem? (i := 713) (by decide +kernel)⟩
theorem lw_p46 : lw_okq (⟨"GameTablesModel", "cornerOfTray", "(I)I"⟩, 19) := ⟨⟨by decide +kernel, by decide +kernel⟩, List.mem_of_getElem? (i := 481) (by decide +kernel), List.mem_of_getElem? (i := 720) (by decide +kernel), List.mem_of_getElem? (i := 721) (by decide +kernel)⟩
theorem lw_p47 : lw_okq (⟨"GameTablesModel", "placeOf", "(III)I"⟩, 19) := ⟨⟨by decide +kernel, by decide +kernel⟩, List.mem_of_getElem? (i := 481) (by decide +kernel), List.mem_of_getElem? (i := 734) (by decide +kernel), List.mem_of_getElem? (i := 735) (by decide +kernel)⟩
def lw_privs_3 : List (MethodName × Nat) := [(⟨"GameTablesModel", "trayAnswers", "(I)I"⟩, 19), (⟨"GameTablesModel", "answersTo", "(I[JI)I"⟩, 19), (⟨"GameTablesModel", "get", "(III)I"⟩, 19), (⟨"GameTablesModel", "whyNot", "()I"⟩, 19), (⟨"GameTablesModel", "worseBy", "(IIII)I"⟩, 19), (⟨"GameTablesModel", "drop", "()V"⟩, 19), (⟨"GameTablesModel", "findCorners", "(I)V"⟩, 19), (⟨"GameTablesModel", "solve", "(II)Z"⟩, 19), (⟨"GameTablesModel", "without", "(III)J"⟩, 19), (⟨"GameTablesModel", "put", "(III)V"⟩, 19), (⟨"GameTablesModel", "ahead", "(I)I"⟩, 19), (⟨"GameTablesModel", "isBalance", "(II)Z"⟩, 19), (⟨"GameTablesModel", "told", "(III)J"⟩, 19), (⟨"GameTablesModel", "kindOf", "(II)I"⟩, 19), (⟨"GameTablesModel", "cornerOfTray", "(I)I"⟩, 19), (⟨"GameTablesModel", "placeOf", "(III)I"⟩, 19)]
theorem lw_r3 : ∀ q ∈ lw_privs_3, lw_okq q := List.forall_mem_cons.mpr ⟨lw_p32, List.forall_mem_cons.mpr ⟨lw_p33, List.forall_mem_cons.mpr ⟨lw_p34, List.forall_mem_cons.mpr ⟨lw_p35, List.forall_mem_cons.mpr ⟨lw_p36, List.forall_mem_cons.mpr ⟨lw_p37, List.forall_mem_cons.mpr ⟨lw_p38, List.forall_mem_cons.mpr ⟨lw_p39, List.forall_mem_cons.mpr ⟨lw_p40, List.forall_mem_cons.mpr ⟨lw_p41, List.forall_mem_cons.mpr ⟨lw_p42, List.forall_mem_cons.mpr ⟨lw_p43, List.forall_mem_cons.mpr ⟨lw_p44, List.forall_mem_cons.mpr ⟨lw_p45, List.forall_mem_cons.mpr ⟨lw_p46, List.forall_mem_cons.mpr ⟨lw_p47, fun _ h => absurd h List.not_mem_nil⟩⟩⟩⟩⟩⟩⟩⟩⟩⟩⟩⟩⟩⟩⟩⟩
def lw_privs : List (MethodName × Nat) := lw_privs_1 ++ (lw_privs_2 ++ (lw_privs_3))
def lw_tbl : List Cond := k2_sels lw_privs ++ tables_1
theorem lw_privs_ok : ∀ q ∈ lw_privs, lw_okq q := by
  show ∀ q ∈ lw_privs_1 ++ (lw_privs_2 ++ (lw_privs_3)), lw_okq q
  exact List.forall_mem_append.mpr ⟨lw_r1, List.forall_mem_append.mpr ⟨lw_r2, lw_r3⟩⟩
-- ===== end of PART A; then your names; then what follows =====
def RX0 : String := "GameTables$Corners"
def TX0 : u_T := fun k => match k with
  | 0 => ("GameTables$Corners", "count", "I", false)
  | 1 => ("GameTables$Corners", "places", "[LGameTables$Mix;", true)
  | 2 => ("GameTables$Corners", "spare", "LGameTables$Mix;", false)
  | _ => ("GameTables$Corners", "gaps", "[[J", true)
def tyX0 : Nat → FieldType := fun k => match k with
  | 0 => .int
  | 1 => .array (.object "GameTables$Mix")
  | 2 => .object "GameTables$Mix"
  | _ => .array (.array .long)
abbrev wsX00 : List Cond := u_ws RX0 TX0 4
theorem nmX0 : ∀ a, a < 4 → ∀ b, b < 4 → a ≠ b → (TX0 a).2.1 ≠ (TX0 b).2.1 := by decide +kernel
theorem tyX0_ok : ∀ k, k < 4 → parseFieldDescriptor (TX0 k).2.2.1 = some (tyX0 k) := by decide +kernel
abbrev cX0_init : ByteArray := prog_2_method_1_code
def yX0_init : MethodName := ⟨RX0, "<init>", "()V"⟩
abbrev cX0_mixAt : ByteArray := prog_2_method_2_code
def yX0_mixAt : MethodName := ⟨RX0, "mixAt", "(I)LGameTables$Mix;"⟩
abbrev cX0_numberOf : ByteArray := prog_2_method_3_code
def yX0_numberOf : MethodName := ⟨RX0, "numberOf", "(LGameTables$Mix;)I"⟩
abbrev cX0_searchAll : ByteArray := prog_2_method_4_code
def yX0_searchAll : MethodName := ⟨RX0, "searchAll", "(ILGameTables$Player;)V"⟩
abbrev cX0_search : ByteArray := prog_2_method_5_code
def yX0_search : MethodName := ⟨RX0, "search", "(IILGameTables$Player;)V"⟩
abbrev cX0_layGaps : ByteArray := prog_2_method_6_code
def yX0_layGaps : MethodName := ⟨RX0, "layGaps", "(IILGameTables$Player;)V"⟩
abbrev cX0_layLine : ByteArray := prog_2_method_7_code
def yX0_layLine : MethodName := ⟨RX0, "layLine", "(IILGameTables$Player;II)V"⟩
abbrev cX0_layParts : ByteArray := prog_2_method_8_code
def yX0_layParts : MethodName := ⟨RX0, "layParts", "(I)V"⟩
abbrev cX0_gapsWithout : ByteArray := prog_2_method_9_code
def yX0_gapsWithout : MethodName := ⟨RX0, "gapsWithout", "(II)J"⟩
abbrev cX0_twoLines : ByteArray := prog_2_method_10_code
def yX0_twoLines : MethodName := ⟨RX0, "twoLines", "(IIII)J"⟩
abbrev cX0_makePositive : ByteArray := prog_2_method_11_code
def yX0_makePositive : MethodName := ⟨RX0, "makePositive", "(I)Z"⟩
abbrev cX0_signOfFirst : ByteArray := prog_2_method_12_code
def yX0_signOfFirst : MethodName := ⟨RX0, "signOfFirst", "(I)J"⟩
abbrev cX0_keepSpare : ByteArray := prog_2_method_13_code
def yX0_keepSpare : MethodName := ⟨RX0, "keepSpare", "()V"⟩
abbrev cX0_insertSpare : ByteArray := prog_2_method_14_code
def yX0_insertSpare : MethodName := ⟨RX0, "insertSpare", "(I)V"⟩
def RX1 : String := "GameTables$Dropping"
def TX1 : u_T := fun k => match k with
  | 0 => ("GameTables$Dropping", "rowsLeft", "I", false)
  | 1 => ("GameTables$Dropping", "columnsLeft", "I", false)
  | _ => ("GameTables$Dropping", "rounds", "I", false)
def tyX1 : Nat → FieldType := fun k => match k with
  | 0 => .int
  | 1 => .int
  | _ => .int
abbrev wsX10 : List Cond := u_ws RX1 TX1 3
theorem nmX1 : ∀ a, a < 3 → ∀ b, b < 3 → a ≠ b → (TX1 a).2.1 ≠ (TX1 b).2.1 := by decide +kernel
theorem tyX1_ok : ∀ k, k < 3 → parseFieldDescriptor (TX1 k).2.2.1 = some (tyX1 k) := by decide +kernel
abbrev cX1_init : ByteArray := prog_3_method_1_code
def yX1_init : MethodName := ⟨RX1, "<init>", "()V"⟩
abbrev cX1_run : ByteArray := prog_3_method_2_code
def yX1_run : MethodName := ⟨RX1, "run", "(LGameTables$Player;LGameTables$Player;)V"⟩
def RX2 : String := "GameTables$Mix"
def TX2 : u_T := fun k => match k with
  | 0 => ("GameTables$Mix", "parts", "[J", true)
  | 1 => ("GameTables$Mix", "total", "J", false)
  | 2 => ("GameTables$Mix", "used", "I", false)
  | _ => ("GameTables$Mix", "answerBits", "I", false)
def tyX2 : Nat → FieldType := fun k => match k with
  | 0 => .array .long
  | 1 => .long
  | 2 => .int
  | _ => .int
abbrev wsX20 : List Cond := u_ws RX2 TX2 4
theorem nmX2 : ∀ a, a < 4 → ∀ b, b < 4 → a ≠ b → (TX2 a).2.1 ≠ (TX2 b).2.1 := by decide +kernel
theorem tyX2_ok : ∀ k, k < 4 → parseFieldDescriptor (TX2 k).2.2.1 = some (tyX2 k) := by decide +kernel
abbrev cX2_init : ByteArray := prog_4_method_1_code
def yX2_init : MethodName := ⟨RX2, "<init>", "()V"⟩
abbrev cX2_sumUp : ByteArray := prog_4_method_2_code
def yX2_sumUp : MethodName := ⟨RX2, "sumUp", "()V"⟩
abbrev cX2_orderTo : ByteArray := prog_4_method_3_code
def yX2_orderTo : MethodName := ⟨RX2, "orderTo", "(LGameTables$Mix;)I"⟩
abbrev cX2_fits : ByteArray := prog_4_method_4_code
def yX2_fits : MethodName := ⟨RX2, "fits", "(LGameTables$Mix;)Z"⟩
def RX3 : String := "GameTables$Player"
def TX3 : u_T := fun k => match k with
  | 0 => ("GameTables$Player", "choices", "I", false)
  | 1 => ("GameTables$Player", "ownCorners", "LGameTables$Corners;", true)
  | 2 => ("GameTables$Player", "pays", "[I", true)
  | 3 => ("GameTables$Player", "weights", "[I", true)
  | _ => ("GameTables$Player", "tray", "LGameTables$Mix;", true)
def tyX3 : Nat → FieldType := fun k => match k with
  | 0 => .int
  | 1 => .object "GameTables$Corners"
  | 2 => .array .int
  | 3 => .array .int
  | _ => .object "GameTables$Mix"
abbrev wsX30 : List Cond := u_ws RX3 TX3 5
theorem nmX3 : ∀ a, a < 5 → ∀ b, b < 5 → a ≠ b → (TX3 a).2.1 ≠ (TX3 b).2.1 := by decide +kernel
theorem tyX3_ok : ∀ k, k < 5 → parseFieldDescriptor (TX3 k).2.2.1 = some (tyX3 k) := by decide +kernel
abbrev cX3_init : ByteArray := prog_5_method_1_code
def yX3_init : MethodName := ⟨RX3, "<init>", "()V"⟩
abbrev cX3_startAnew : ByteArray := prog_5_method_2_code
def yX3_startAnew : MethodName := ⟨RX3, "startAnew", "(I)V"⟩
abbrev cX3_hasChoice : ByteArray := prog_5_method_3_code
def yX3_hasChoice : MethodName := ⟨RX3, "hasChoice", "(I)Z"⟩
abbrev cX3_allBits : ByteArray := prog_5_method_4_code
def yX3_allBits : MethodName := ⟨RX3, "allBits", "()I"⟩
abbrev cX3_payFor : ByteArray := prog_5_method_5_code
def yX3_payFor : MethodName := ⟨RX3, "payFor", "(II)I"⟩
abbrev cX3_setPay : ByteArray := prog_5_method_6_code
def yX3_setPay : MethodName := ⟨RX3, "setPay", "(III)V"⟩
abbrev cX3_changeWeight : ByteArray := prog_5_method_7_code
def yX3_changeWeight : MethodName := ⟨RX3, "changeWeight", "(II)I"⟩
abbrev cX3_trayMix : ByteArray := prog_5_method_8_code
def yX3_trayMix : MethodName := ⟨RX3, "trayMix", "(LGameTables$Player;)LGameTables$Mix;"⟩
abbrev cX3_worthOf : ByteArray := prog_5_method_9_code
def yX3_worthOf : MethodName := ⟨RX3, "worthOf", "(ILGameTables$Mix;)J"⟩
abbrev cX3_answersTo : ByteArray := prog_5_method_10_code
def yX3_answersTo : MethodName := ⟨RX3, "answersTo", "(LGameTables$Mix;)I"⟩
abbrev cX3_meanPart : ByteArray := prog_5_method_11_code
def yX3_meanPart : MethodName := ⟨RX3, "meanPart", "(LGameTables$Mix;LGameTables$Mix;I)J"⟩
abbrev cX3_paysMore : ByteArray := prog_5_method_12_code
def yX3_paysMore : MethodName := ⟨RX3, "paysMore", "(III)Z"⟩
abbrev cX3_firstBetter : ByteArray := prog_5_method_13_code
def yX3_firstBetter : MethodName := ⟨RX3, "firstBetter", "(III)I"⟩
abbrev cX3_notWorse : ByteArray := prog_5_method_14_code
def yX3_notWorse : MethodName := ⟨RX3, "notWorse", "(II)I"⟩
abbrev cX3_leastFor : ByteArray := prog_5_method_15_code
def yX3_leastFor : MethodName := ⟨RX3, "leastFor", "(II)I"⟩
abbrev cX3_leastAgainst : ByteArray := prog_5_method_16_code
def yX3_leastAgainst : MethodName := ⟨RX3, "leastAgainst", "(I)I"⟩
abbrev cX3_mostAgainst : ByteArray := prog_5_method_17_code
def yX3_mostAgainst : MethodName := ⟨RX3, "mostAgainst", "(I)I"⟩
abbrev cX3_surePay : ByteArray := prog_5_method_18_code
def yX3_surePay : MethodName := ⟨RX3, "surePay", "(I)I"⟩
abbrev cX3_holdPay : ByteArray := prog_5_method_19_code
def yX3_holdPay : MethodName := ⟨RX3, "holdPay", "(I)I"⟩
abbrev cX3_farthestPay : ByteArray := prog_5_method_20_code
def yX3_farthestPay : MethodName := ⟨RX3, "farthestPay", "()I"⟩
abbrev cX3_addAgainst : ByteArray := prog_5_method_21_code
def yX3_addAgainst : MethodName := ⟨RX3, "addAgainst", "(II)V"⟩
abbrev cX3_multiplyPays : ByteArray := prog_5_method_22_code
def yX3_multiplyPays : MethodName := ⟨RX3, "multiplyPays", "(I)V"⟩
abbrev cX3_takesFrom : ByteArray := prog_5_method_23_code
def yX3_takesFrom : MethodName := ⟨RX3, "takesFrom", "(LGameTables$Player;)Z"⟩
abbrev cX3_isLike : ByteArray := prog_5_method_24_code
def yX3_isLike : MethodName := ⟨RX3, "isLike", "(LGameTables$Player;)Z"⟩
def RX4 : String := "GameTables"
def TX4 : u_T := fun k => match k with
  | 0 => ("GameTables", "row", "LGameTables$Player;", false)
  | 1 => ("GameTables", "column", "LGameTables$Player;", false)
  | 2 => ("GameTables", "dropping", "LGameTables$Dropping;", true)
  | 3 => ("GameTables", "refusals", "[I", true)
  | _ => ("GameTables", "cornersKnown", "Z", false)
def tyX4 : Nat → FieldType := fun k => match k with
  | 0 => .object "GameTables$Player"
  | 1 => .object "GameTables$Player"
  | 2 => .object "GameTables$Dropping"
  | 3 => .array .int
  | _ => .boolean
abbrev wsX40 : List Cond := u_ws RX4 TX4 5
theorem nmX4 : ∀ a, a < 5 → ∀ b, b < 5 → a ≠ b → (TX4 a).2.1 ≠ (TX4 b).2.1 := by decide +kernel
theorem tyX4_ok : ∀ k, k < 5 → parseFieldDescriptor (TX4 k).2.2.1 = some (tyX4 k) := by decide +kernel
abbrev cX4_init : ByteArray := prog_1_method_1_code
def yX4_init : MethodName := ⟨RX4, "<init>", "()V"⟩
abbrev cX4_game : ByteArray := prog_1_method_2_code
def yX4_game : MethodName := ⟨RX4, "game", "(II)I"⟩
abbrev cX4_pay : ByteArray := prog_1_method_3_code
def yX4_pay : MethodName := ⟨RX4, "pay", "(IIII)I"⟩
abbrev cX4_paid : ByteArray := prog_1_method_4_code
def yX4_paid : MethodName := ⟨RX4, "paid", "(III)I"⟩
abbrev cX4_weight : ByteArray := prog_1_method_5_code
def yX4_weight : MethodName := ⟨RX4, "weight", "(III)I"⟩
abbrev cX4_mean : ByteArray := prog_1_method_6_code
def yX4_mean : MethodName := ⟨RX4, "mean", "(II)J"⟩
abbrev cX4_answers : ByteArray := prog_1_method_7_code
def yX4_answers : MethodName := ⟨RX4, "answers", "(I)I"⟩
abbrev cX4_is : ByteArray := prog_1_method_8_code
def yX4_is : MethodName := ⟨RX4, "is", "()I"⟩
abbrev cX4_why : ByteArray := prog_1_method_9_code
def yX4_why : MethodName := ⟨RX4, "why", "()I"⟩
abbrev cX4_worse : ByteArray := prog_1_method_10_code
def yX4_worse : MethodName := ⟨RX4, "worse", "(II)I"⟩
abbrev cX4_left : ByteArray := prog_1_method_11_code
def yX4_left : MethodName := ⟨RX4, "left", "(I)I"⟩
abbrev cX4_times : ByteArray := prog_1_method_12_code
def yX4_times : MethodName := ⟨RX4, "times", "()I"⟩
abbrev cX4_sure : ByteArray := prog_1_method_13_code
def yX4_sure : MethodName := ⟨RX4, "sure", "(I)I"⟩
abbrev cX4_hold : ByteArray := prog_1_method_14_code
def yX4_hold : MethodName := ⟨RX4, "hold", "(I)I"⟩
abbrev cX4_corners : ByteArray := prog_1_method_15_code
def yX4_corners : MethodName := ⟨RX4, "corners", "(I)I"⟩
abbrev cX4_corner : ByteArray := prog_1_method_16_code
def yX4_corner : MethodName := ⟨RX4, "corner", "(IIII)I"⟩
abbrev cX4_balances : ByteArray := prog_1_method_17_code
def yX4_balances : MethodName := ⟨RX4, "balances", "()I"⟩
abbrev cX4_balance : ByteArray := prog_1_method_18_code
def yX4_balance : MethodName := ⟨RX4, "balance", "(II)J"⟩
abbrev cX4_find : ByteArray := prog_1_method_19_code
def yX4_find : MethodName := ⟨RX4, "find", "()I"⟩
abbrev cX4_turn : ByteArray := prog_1_method_20_code
def yX4_turn : MethodName := ⟨RX4, "turn", "()I"⟩
abbrev cX4_raise : ByteArray := prog_1_method_21_code
def yX4_raise : MethodName := ⟨RX4, "raise", "(III)I"⟩
abbrev cX4_scale : ByteArray := prog_1_method_22_code
def yX4_scale : MethodName := ⟨RX4, "scale", "(II)I"⟩
abbrev cX4_status : ByteArray := prog_1_method_23_code
def yX4_status : MethodName := ⟨RX4, "status", "(I)I"⟩
abbrev cX4_refusalsCounted : ByteArray := prog_1_method_24_code
def yX4_refusalsCounted : MethodName := ⟨RX4, "refusalsCounted", "(I)I"⟩
abbrev cX4_refuse : ByteArray := prog_1_method_25_code
def yX4_refuse : MethodName := ⟨RX4, "refuse", "(I)I"⟩
abbrev cX4_refuseAmongPays : ByteArray := prog_1_method_26_code
def yX4_refuseAmongPays : MethodName := ⟨RX4, "refuseAmongPays", "(I)I"⟩
abbrev cX4_refuseAmongLongs : ByteArray := prog_1_method_27_code
def yX4_refuseAmongLongs : MethodName := ⟨RX4, "refuseAmongLongs", "(I)J"⟩
abbrev cX4_isWho : ByteArray := prog_1_method_28_code
def yX4_isWho : MethodName := ⟨RX4, "isWho", "(I)Z"⟩
abbrev cX4_isPlace : ByteArray := prog_1_method_29_code
def yX4_isPlace : MethodName := ⟨RX4, "isPlace", "(III)Z"⟩
abbrev cX4_player : ByteArray := prog_1_method_30_code
def yX4_player : MethodName := ⟨RX4, "player", "(I)LGameTables$Player;"⟩
abbrev cX4_trayOf : ByteArray := prog_1_method_31_code
def yX4_trayOf : MethodName := ⟨RX4, "trayOf", "(I)LGameTables$Mix;"⟩
abbrev cX4_knowCorners : ByteArray := prog_1_method_32_code
def yX4_knowCorners : MethodName := ⟨RX4, "knowCorners", "()V"⟩
abbrev cX4_balancesBefore : ByteArray := prog_1_method_33_code
def yX4_balancesBefore : MethodName := ⟨RX4, "balancesBefore", "(II)I"⟩
abbrev cX4_balancesOf : ByteArray := prog_1_method_34_code
def yX4_balancesOf : MethodName := ⟨RX4, "balancesOf", "(LGameTables$Mix;I)I"⟩
abbrev cX4_pairOf : ByteArray := prog_1_method_35_code
def yX4_pairOf : MethodName := ⟨RX4, "pairOf", "(I)I"⟩
abbrev cX4_kindOf : ByteArray := prog_1_method_36_code
def yX4_kindOf : MethodName := ⟨RX4, "kindOf", "(LGameTables$Mix;LGameTables$Mix;)I"⟩
abbrev cX4_hasBit : ByteArray := prog_1_method_37_code
def yX4_hasBit : MethodName := ⟨RX4, "hasBit", "(II)Z"⟩
abbrev cX4_firstOf : ByteArray := prog_1_method_38_code
def yX4_firstOf : MethodName := ⟨RX4, "firstOf", "(I)I"⟩
abbrev cX4_lowest : ByteArray := prog_1_method_39_code
def yX4_lowest : MethodName := ⟨RX4, "lowest", "(JJI)J"⟩
abbrev cX4_commonFactor : ByteArray := prog_1_method_40_code
def yX4_commonFactor : MethodName := ⟨RX4, "commonFactor", "(JJ)J"⟩
def RX5 : String := "GameTablesModel"
def TX5 : u_T := fun k => match k with
  | 0 => ("GameTablesModel", "many", "[I", true)
  | 1 => ("GameTablesModel", "pays", "[I", true)
  | 2 => ("GameTablesModel", "weights", "[I", true)
  | 3 => ("GameTablesModel", "refused", "[I", true)
  | 4 => ("GameTablesModel", "trayRow", "[J", true)
  | 5 => ("GameTablesModel", "trayColumn", "[J", true)
  | 6 => ("GameTablesModel", "leftRow", "I", false)
  | 7 => ("GameTablesModel", "leftColumn", "I", false)
  | 8 => ("GameTablesModel", "drops", "I", false)
  | 9 => ("GameTablesModel", "found", "[I", true)
  | 10 => ("GameTablesModel", "share", "[J", true)
  | 11 => ("GameTablesModel", "whole", "[J", true)
  | 12 => ("GameTablesModel", "bitsOf", "[I", true)
  | 13 => ("GameTablesModel", "answersOf", "[I", true)
  | 14 => ("GameTablesModel", "square", "[J", true)
  | 15 => ("GameTablesModel", "chosen", "[I", true)
  | 16 => ("GameTablesModel", "answered", "[I", true)
  | 17 => ("GameTablesModel", "shares", "[J", true)
  | _ => ("GameTablesModel", "before", "[I", true)
def tyX5 : Nat → FieldType := fun k => match k with
  | 0 => .array .int
  | 1 => .array .int
  | 2 => .array .int
  | 3 => .array .int
  | 4 => .array .long
  | 5 => .array .long
  | 6 => .int
  | 7 => .int
  | 8 => .int
  | 9 => .array .int
  | 10 => .array .long
  | 11 => .array .long
  | 12 => .array .int
  | 13 => .array .int
  | 14 => .array .long
  | 15 => .array .int
  | 16 => .array .int
  | 17 => .array .long
  | _ => .array .int
abbrev wsX50 : List Cond := u_ws RX5 TX5 19
theorem nmX5 : ∀ a, a < 19 → ∀ b, b < 19 → a ≠ b → (TX5 a).2.1 ≠ (TX5 b).2.1 := by decide +kernel
theorem tyX5_ok : ∀ k, k < 19 → parseFieldDescriptor (TX5 k).2.2.1 = some (tyX5 k) := by decide +kernel
abbrev cX5_init : ByteArray := prog_7_method_1_code
def yX5_init : MethodName := ⟨RX5, "<init>", "()V"⟩
abbrev cX5_in : ByteArray := prog_7_method_3_code
def yX5_in : MethodName := ⟨RX5, "in", "(JJJ)Z"⟩
abbrev cX5_refuse : ByteArray := prog_7_method_4_code
def yX5_refuse : MethodName := ⟨RX5, "refuse", "(I)I"⟩
abbrev cX5_refuseBig : ByteArray := prog_7_method_5_code
def yX5_refuseBig : MethodName := ⟨RX5, "refuseBig", "(I)I"⟩
abbrev cX5_refuseGreat : ByteArray := prog_7_method_6_code
def yX5_refuseGreat : MethodName := ⟨RX5, "refuseGreat", "(I)J"⟩
abbrev cX5_isWho : ByteArray := prog_7_method_7_code
def yX5_isWho : MethodName := ⟨RX5, "isWho", "(I)Z"⟩
abbrev cX5_isChoice : ByteArray := prog_7_method_8_code
def yX5_isChoice : MethodName := ⟨RX5, "isChoice", "(II)Z"⟩
abbrev cX5_get : ByteArray := prog_7_method_9_code
def yX5_get : MethodName := ⟨RX5, "get", "(III)I"⟩
abbrev cX5_game : ByteArray := prog_7_method_10_code
def yX5_game : MethodName := ⟨RX5, "game", "(II)I"⟩
abbrev cX5_pay : ByteArray := prog_7_method_11_code
def yX5_pay : MethodName := ⟨RX5, "pay", "(IIII)I"⟩
abbrev cX5_paid : ByteArray := prog_7_method_12_code
def yX5_paid : MethodName := ⟨RX5, "paid", "(III)I"⟩
abbrev cX5_weight : ByteArray := prog_7_method_13_code
def yX5_weight : MethodName := ⟨RX5, "weight", "(III)I"⟩
abbrev cX5_sumOf : ByteArray := prog_7_method_14_code
def yX5_sumOf : MethodName := ⟨RX5, "sumOf", "(I)I"⟩
abbrev cX5_common : ByteArray := prog_7_method_15_code
def yX5_common : MethodName := ⟨RX5, "common", "(JJ)J"⟩
abbrev cX5_meanOf : ByteArray := prog_7_method_16_code
def yX5_meanOf : MethodName := ⟨RX5, "meanOf", "(I[JI[JI)J"⟩
abbrev cX5_showTray : ByteArray := prog_7_method_17_code
def yX5_showTray : MethodName := ⟨RX5, "showTray", "()V"⟩
abbrev cX5_mean : ByteArray := prog_7_method_18_code
def yX5_mean : MethodName := ⟨RX5, "mean", "(II)J"⟩
abbrev cX5_answersTo : ByteArray := prog_7_method_19_code
def yX5_answersTo : MethodName := ⟨RX5, "answersTo", "(I[JI)I"⟩
abbrev cX5_trayAnswers : ByteArray := prog_7_method_20_code
def yX5_trayAnswers : MethodName := ⟨RX5, "trayAnswers", "(I)I"⟩
abbrev cX5_answers : ByteArray := prog_7_method_21_code
def yX5_answers : MethodName := ⟨RX5, "answers", "(I)I"⟩
abbrev cX5_whyNot : ByteArray := prog_7_method_22_code
def yX5_whyNot : MethodName := ⟨RX5, "whyNot", "()I"⟩
abbrev cX5_is : ByteArray := prog_7_method_23_code
def yX5_is : MethodName := ⟨RX5, "is", "()I"⟩
abbrev cX5_why : ByteArray := prog_7_method_24_code
def yX5_why : MethodName := ⟨RX5, "why", "()I"⟩
abbrev cX5_worseBy : ByteArray := prog_7_method_25_code
def yX5_worseBy : MethodName := ⟨RX5, "worseBy", "(IIII)I"⟩
abbrev cX5_worse : ByteArray := prog_7_method_26_code
def yX5_worse : MethodName := ⟨RX5, "worse", "(II)I"⟩
abbrev cX5_drop : ByteArray := prog_7_method_27_code
def yX5_drop : MethodName := ⟨RX5, "drop", "()V"⟩
abbrev cX5_left : ByteArray := prog_7_method_28_code
def yX5_left : MethodName := ⟨RX5, "left", "(I)I"⟩
abbrev cX5_times : ByteArray := prog_7_method_29_code
def yX5_times : MethodName := ⟨RX5, "times", "()I"⟩
abbrev cX5_sure : ByteArray := prog_7_method_30_code
def yX5_sure : MethodName := ⟨RX5, "sure", "(I)I"⟩
abbrev cX5_hold : ByteArray := prog_7_method_31_code
def yX5_hold : MethodName := ⟨RX5, "hold", "(I)I"⟩
abbrev cX5_manyIn : ByteArray := prog_7_method_32_code
def yX5_manyIn : MethodName := ⟨RX5, "manyIn", "(I)I"⟩
abbrev cX5_listed : ByteArray := prog_7_method_33_code
def yX5_listed : MethodName := ⟨RX5, "listed", "(I[I)I"⟩
abbrev cX5_without : ByteArray := prog_7_method_34_code
def yX5_without : MethodName := ⟨RX5, "without", "(III)J"⟩
abbrev cX5_solve : ByteArray := prog_7_method_35_code
def yX5_solve : MethodName := ⟨RX5, "solve", "(II)Z"⟩
abbrev cX5_ahead : ByteArray := prog_7_method_36_code
def yX5_ahead : MethodName := ⟨RX5, "ahead", "(I)I"⟩
abbrev cX5_put : ByteArray := prog_7_method_37_code
def yX5_put : MethodName := ⟨RX5, "put", "(III)V"⟩
abbrev cX5_findCorners : ByteArray := prog_7_method_38_code
def yX5_findCorners : MethodName := ⟨RX5, "findCorners", "(I)V"⟩
abbrev cX5_corners : ByteArray := prog_7_method_39_code
def yX5_corners : MethodName := ⟨RX5, "corners", "(I)I"⟩
abbrev cX5_corner : ByteArray := prog_7_method_40_code
def yX5_corner : MethodName := ⟨RX5, "corner", "(IIII)I"⟩
abbrev cX5_isBalance : ByteArray := prog_7_method_41_code
def yX5_isBalance : MethodName := ⟨RX5, "isBalance", "(II)Z"⟩
abbrev cX5_balances : ByteArray := prog_7_method_42_code
def yX5_balances : MethodName := ⟨RX5, "balances", "()I"⟩
abbrev cX5_kindOf : ByteArray := prog_7_method_43_code
def yX5_kindOf : MethodName := ⟨RX5, "kindOf", "(II)I"⟩
abbrev cX5_told : ByteArray := prog_7_method_44_code
def yX5_told : MethodName := ⟨RX5, "told", "(III)J"⟩
abbrev cX5_balance : ByteArray := prog_7_method_45_code
def yX5_balance : MethodName := ⟨RX5, "balance", "(II)J"⟩
abbrev cX5_cornerOfTray : ByteArray := prog_7_method_46_code
def yX5_cornerOfTray : MethodName := ⟨RX5, "cornerOfTray", "(I)I"⟩
abbrev cX5_find : ByteArray := prog_7_method_47_code
def yX5_find : MethodName := ⟨RX5, "find", "()I"⟩
abbrev cX5_turn : ByteArray := prog_7_method_48_code
def yX5_turn : MethodName := ⟨RX5, "turn", "()I"⟩
abbrev cX5_placeOf : ByteArray := prog_7_method_49_code
def yX5_placeOf : MethodName := ⟨RX5, "placeOf", "(III)I"⟩
abbrev cX5_raise : ByteArray := prog_7_method_50_code
def yX5_raise : MethodName := ⟨RX5, "raise", "(III)I"⟩
abbrev cX5_scale : ByteArray := prog_7_method_51_code
def yX5_scale : MethodName := ⟨RX5, "scale", "(II)I"⟩
abbrev cX5_status : ByteArray := prog_7_method_52_code
def yX5_status : MethodName := ⟨RX5, "status", "(I)I"⟩
def RJ6 : String := "java/lang/Integer"
def TJ6 : u_T := fun k => match k with
  | _ => ("", "", "", false)
def tyJ6 : Nat → FieldType := fun k => match k with
  | _ => .int
abbrev wsJ60 : List Cond := u_ws RJ6 TJ6 0
theorem nmJ6 : ∀ a, a < 0 → ∀ b, b < 0 → a ≠ b → (TJ6 a).2.1 ≠ (TJ6 b).2.1 := by decide +kernel
theorem tyJ6_ok : ∀ k, k < 0 → parseFieldDescriptor (TJ6 k).2.2.1 = some (tyJ6 k) := by decide +kernel
abbrev cJ6_bitCount_0f7a4 : ByteArray := prog_8_method_49_code
def yJ6_bitCount_0f7a4 : MethodName := ⟨RJ6, "bitCount", "(I)I"⟩
def RJ9 : String := "java/lang/Math"
def TJ9 : u_T := fun k => match k with
  | _ => ("", "", "", false)
def tyJ9 : Nat → FieldType := fun k => match k with
  | _ => .int
abbrev wsJ90 : List Cond := u_ws RJ9 TJ9 0
theorem nmJ9 : ∀ a, a < 0 → ∀ b, b < 0 → a ≠ b → (TJ9 a).2.1 ≠ (TJ9 b).2.1 := by decide +kernel
theorem tyJ9_ok : ∀ k, k < 0 → parseFieldDescriptor (TJ9 k).2.2.1 = some (tyJ9 k) := by decide +kernel
abbrev cJ9_abs_0f7a4 : ByteArray := prog_9_method_59_code
def yJ9_abs_0f7a4 : MethodName := ⟨RJ9, "abs", "(I)I"⟩
abbrev cJ9_abs_067f4 : ByteArray := prog_9_method_61_code
def yJ9_abs_067f4 : MethodName := ⟨RJ9, "abs", "(J)J"⟩
abbrev cJ9_max_7cf53 : ByteArray := prog_9_method_65_code
def yJ9_max_7cf53 : MethodName := ⟨RJ9, "max", "(II)I"⟩
abbrev cJ9_min_7cf53 : ByteArray := prog_9_method_69_code
def yJ9_min_7cf53 : MethodName := ⟨RJ9, "min", "(II)I"⟩
def RL : String := "GameTablesLaw"
abbrev cL_law : ByteArray := code
def yL_law : MethodName := ⟨RL, "law", "([I)Z"⟩
abbrev vwCl : List vw_C := [(RX0, TX0, 4), (RX1, TX1, 3), (RX2, TX2, 4), (RX3, TX3, 5), (RX4, TX4, 5), (RX5, TX5, 19)]
