section
-- ===== PART A: goes FIRST, ahead of the names: the tables' words, and 'selects' of the private methods out of them =====
/-- a private method of a class that the tables say can be made, by its rows of tables_1 -/
def lw_okq (q : MethodName × Nat) : Prop := (q.1.cls ≠ "java/lang/invoke/MethodHandle" ∧ q.1.cls ≠ "java/lang/invoke/VarHandle") ∧ Cond.instantiable q.1.cls q.2 ∈ tables_1 ∧ Cond.privateMethod q.1 ∈ tables_1 ∧ Cond.instanceMethod q.1 ∈ tables_1
theorem lw_p0 : lw_okq (⟨"GameTables", "refuse", "(I)I"⟩, 5) := ⟨⟨by decide +kernel, by decide +kernel⟩, List.mem_of_getElem? (i := 10) (by decide +kernel), List.mem_of_getElem? (i := 136) (by decide +kernel), List.mem_of_getElem? (i := 137) (by decide +kernel)⟩
theorem lw_p1 : lw_okq (⟨"GameTables", "isPlace", "(III)Z"⟩, 5) := ⟨⟨by decide +kernel, by decide +kernel⟩, List.mem_of_getElem? (i := 10) (by decide +kernel), List.mem_of_getElem? (i := 148) (by decide +kernel), List.mem_of_getElem? (i := 149) (by decide +kernel)⟩
theorem lw_p2 : lw_okq (⟨"GameTables", "refuseAmongPays", "(I)I"⟩, 5) := ⟨⟨by decide +kernel, by decide +kernel⟩, List.mem_of_getElem? (i := 10) (by decide +kernel), List.mem_of_getElem? (i := 159) (by decide +kernel), List.mem_of_getElem? (i := 160) (by decide +kernel)⟩
theorem lw_p3 : lw_okq (⟨"GameTables", "player", "(I)LGameTables$Player;"⟩, 5) := ⟨⟨by decide +kernel, by decide +kernel⟩, List.mem_of_getElem? (i := 10) (by decide +kernel), List.mem_of_getElem? (i := 164) (by decide +kernel), List.mem_of_getElem? (i := 165) (by decide +kernel)⟩
theorem lw_p4 : lw_okq (⟨"GameTables", "refuseAmongLongs", "(I)J"⟩, 5) := ⟨⟨by decide +kernel, by decide +kernel⟩, List.mem_of_getElem? (i := 10) (by decide +kernel), List.mem_of_getElem? (i := 192) (by decide +kernel), List.mem_of_getElem? (i := 193) (by decide +kernel)⟩
theorem lw_p5 : lw_okq (⟨"GameTables", "trayOf", "(I)LGameTables$Mix;"⟩, 5) := ⟨⟨by decide +kernel, by decide +kernel⟩, List.mem_of_getElem? (i := 10) (by decide +kernel), List.mem_of_getElem? (i := 197) (by decide +kernel), List.mem_of_getElem? (i := 198) (by decide +kernel)⟩
theorem lw_p6 : lw_okq (⟨"GameTables$Player", "worthOf", "(ILGameTables$Mix;)J"⟩, 5) := ⟨⟨by decide +kernel, by decide +kernel⟩, List.mem_of_getElem? (i := 18) (by decide +kernel), List.mem_of_getElem? (i := 213) (by decide +kernel), List.mem_of_getElem? (i := 214) (by decide +kernel)⟩
theorem lw_p7 : lw_okq (⟨"GameTables$Player", "paysMore", "(III)Z"⟩, 5) := ⟨⟨by decide +kernel, by decide +kernel⟩, List.mem_of_getElem? (i := 18) (by decide +kernel), List.mem_of_getElem? (i := 266) (by decide +kernel), List.mem_of_getElem? (i := 267) (by decide +kernel)⟩
theorem lw_p8 : lw_okq (⟨"GameTables$Player", "leastFor", "(II)I"⟩, 5) := ⟨⟨by decide +kernel, by decide +kernel⟩, List.mem_of_getElem? (i := 18) (by decide +kernel), List.mem_of_getElem? (i := 296) (by decide +kernel), List.mem_of_getElem? (i := 297) (by decide +kernel)⟩
theorem lw_p9 : lw_okq (⟨"GameTables", "knowCorners", "()V"⟩, 5) := ⟨⟨by decide +kernel, by decide +kernel⟩, List.mem_of_getElem? (i := 10) (by decide +kernel), List.mem_of_getElem? (i := 322) (by decide +kernel), List.mem_of_getElem? (i := 323) (by decide +kernel)⟩
theorem lw_p10 : lw_okq (⟨"GameTables$Corners", "search", "(IILGameTables$Player;)V"⟩, 4) := ⟨⟨by decide +kernel, by decide +kernel⟩, List.mem_of_getElem? (i := 24) (by decide +kernel), List.mem_of_getElem? (i := 337) (by decide +kernel), List.mem_of_getElem? (i := 338) (by decide +kernel)⟩
theorem lw_p11 : lw_okq (⟨"GameTables$Corners", "layGaps", "(IILGameTables$Player;)V"⟩, 4) := ⟨⟨by decide +kernel, by decide +kernel⟩, List.mem_of_getElem? (i := 24) (by decide +kernel), List.mem_of_getElem? (i := 341) (by decide +kernel), List.mem_of_getElem? (i := 342) (by decide +kernel)⟩
theorem lw_p12 : lw_okq (⟨"GameTables$Corners", "layLine", "(IILGameTables$Player;II)V"⟩, 4) := ⟨⟨by decide +kernel, by decide +kernel⟩, List.mem_of_getElem? (i := 24) (by decide +kernel), List.mem_of_getElem? (i := 347) (by decide +kernel), List.mem_of_getElem? (i := 348) (by decide +kernel)⟩
theorem lw_p13 : lw_okq (⟨"GameTables$Corners", "layParts", "(I)V"⟩, 4) := ⟨⟨by decide +kernel, by decide +kernel⟩, List.mem_of_getElem? (i := 24) (by decide +kernel), List.mem_of_getElem? (i := 352) (by decide +kernel), List.mem_of_getElem? (i := 353) (by decide +kernel)⟩
theorem lw_p14 : lw_okq (⟨"GameTables$Corners", "gapsWithout", "(II)J"⟩, 4) := ⟨⟨by decide +kernel, by decide +kernel⟩, List.mem_of_getElem? (i := 24) (by decide +kernel), List.mem_of_getElem? (i := 356) (by decide +kernel), List.mem_of_getElem? (i := 357) (by decide +kernel)⟩
theorem lw_p15 : lw_okq (⟨"GameTables$Corners", "twoLines", "(IIII)J"⟩, 4) := ⟨⟨by decide +kernel, by decide +kernel⟩, List.mem_of_getElem? (i := 24) (by decide +kernel), List.mem_of_getElem? (i := 360) (by decide +kernel), List.mem_of_getElem? (i := 361) (by decide +kernel)⟩
def lw_privs_1 : List (MethodName × Nat) := [(⟨"GameTables", "refuse", "(I)I"⟩, 5), (⟨"GameTables", "isPlace", "(III)Z"⟩, 5), (⟨"GameTables", "refuseAmongPays", "(I)I"⟩, 5), (⟨"GameTables", "player", "(I)LGameTables$Player;"⟩, 5), (⟨"GameTables", "refuseAmongLongs", "(I)J"⟩, 5), (⟨"GameTables", "trayOf", "(I)LGameTables$Mix;"⟩, 5), (⟨"GameTables$Player", "worthOf", "(ILGameTables$Mix;)J"⟩, 5), (⟨"GameTables$Player", "paysMore", "(III)Z"⟩, 5), (⟨"GameTables$Player", "leastFor", "(II)I"⟩, 5), (⟨"GameTables", "knowCorners", "()V"⟩, 5), (⟨"GameTables$Corners", "search", "(IILGameTables$Player;)V"⟩, 4), (⟨"GameTables$Corners", "layGaps", "(IILGameTables$Player;)V"⟩, 4), (⟨"GameTables$Corners", "layLine", "(IILGameTables$Player;II)V"⟩, 4), (⟨"GameTables$Corners", "layParts", "(I)V"⟩, 4), (⟨"GameTables$Corners", "gapsWithout", "(II)J"⟩, 4), (⟨"GameTables$Corners", "twoLines", "(IIII)J"⟩, 4)]
theorem lw_r1 : ∀ q ∈ lw_privs_1, lw_okq q := List.forall_mem_cons.mpr ⟨lw_p0, List.forall_mem_cons.mpr ⟨lw_p1, List.forall_mem_cons.mpr ⟨lw_p2, List.forall_mem_cons.mpr ⟨lw_p3, List.forall_mem_cons.mpr ⟨lw_p4, List.forall_mem_cons.mpr ⟨lw_p5, List.forall_mem_cons.mpr ⟨lw_p6, List.forall_mem_cons.mpr ⟨lw_p7, List.forall_mem_cons.mpr ⟨lw_p8, List.forall_mem_cons.mpr ⟨lw_p9, List.forall_mem_cons.mpr ⟨lw_p10, List.forall_mem_cons.mpr ⟨lw_p11, List.forall_mem_cons.mpr ⟨lw_p12, List.forall_mem_cons.mpr ⟨lw_p13, List.forall_mem_cons.mpr ⟨lw_p14, List.forall_mem_cons.mpr ⟨lw_p15, fun _ h => absurd h List.not_mem_nil⟩⟩⟩⟩⟩⟩⟩⟩⟩⟩⟩⟩⟩⟩⟩⟩
theorem lw_p16 : lw_okq (⟨"GameTables$Corners", "makePositive", "(I)Z"⟩, 4) := ⟨⟨by decide +kernel, by decide +kernel⟩, List.mem_of_getElem? (i := 24) (by decide +kernel), List.mem_of_getElem? (i := 364) (by decide +kernel), List.mem_of_getElem? (i := 365) (by decide +kernel)⟩
theorem lw_p17 : lw_okq (⟨"GameTables$Corners", "signOfFirst", "(I)J"⟩, 4) := ⟨⟨by decide +kernel, by decide +kernel⟩, List.mem_of_getElem? (i := 24) (by decide +kernel), List.mem_of_getElem? (i := 368) (by decide +kernel), List.mem_of_getElem? (i := 369) (by decide +kernel)⟩
theorem lw_p18 : lw_okq (⟨"GameTables$Corners", "keepSpare", "()V"⟩, 4) := ⟨⟨by decide +kernel, by decide +kernel⟩, List.mem_of_getElem? (i := 24) (by decide +kernel), List.mem_of_getElem? (i := 375) (by decide +kernel), List.mem_of_getElem? (i := 376) (by decide +kernel)⟩
theorem lw_p19 : lw_okq (⟨"GameTables$Corners", "insertSpare", "(I)V"⟩, 4) := ⟨⟨by decide +kernel, by decide +kernel⟩, List.mem_of_getElem? (i := 24) (by decide +kernel), List.mem_of_getElem? (i := 383) (by decide +kernel), List.mem_of_getElem? (i := 384) (by decide +kernel)⟩
theorem lw_p20 : lw_okq (⟨"GameTables", "balancesBefore", "(II)I"⟩, 5) := ⟨⟨by decide +kernel, by decide +kernel⟩, List.mem_of_getElem? (i := 10) (by decide +kernel), List.mem_of_getElem? (i := 400) (by decide +kernel), List.mem_of_getElem? (i := 401) (by decide +kernel)⟩
theorem lw_p21 : lw_okq (⟨"GameTables", "balancesOf", "(LGameTables$Mix;I)I"⟩, 5) := ⟨⟨by decide +kernel, by decide +kernel⟩, List.mem_of_getElem? (i := 10) (by decide +kernel), List.mem_of_getElem? (i := 404) (by decide +kernel), List.mem_of_getElem? (i := 405) (by decide +kernel)⟩
theorem lw_p22 : lw_okq (⟨"GameTables", "pairOf", "(I)I"⟩, 5) := ⟨⟨by decide +kernel, by decide +kernel⟩, List.mem_of_getElem? (i := 10) (by decide +kernel), List.mem_of_getElem? (i := 412) (by decide +kernel), List.mem_of_getElem? (i := 413) (by decide +kernel)⟩
theorem lw_p23 : lw_okq (⟨"GameTables", "kindOf", "(LGameTables$Mix;LGameTables$Mix;)I"⟩, 5) := ⟨⟨by decide +kernel, by decide +kernel⟩, List.mem_of_getElem? (i := 10) (by decide +kernel), List.mem_of_getElem? (i := 416) (by decide +kernel), List.mem_of_getElem? (i := 417) (by decide +kernel)⟩
theorem lw_p24 : lw_okq (⟨"GameTables", "refusalsCounted", "(I)I"⟩, 5) := ⟨⟨by decide +kernel, by decide +kernel⟩, List.mem_of_getElem? (i := 10) (by decide +kernel), List.mem_of_getElem? (i := 477) (by decide +kernel), List.mem_of_getElem? (i := 478) (by decide +kernel)⟩
theorem lw_p25 : lw_okq (⟨"GameTablesModel", "refuse", "(I)I"⟩, 19) := ⟨⟨by decide +kernel, by decide +kernel⟩, List.mem_of_getElem? (i := 481) (by decide +kernel), List.mem_of_getElem? (i := 549) (by decide +kernel), List.mem_of_getElem? (i := 550) (by decide +kernel)⟩
theorem lw_p26 : lw_okq (⟨"GameTablesModel", "isChoice", "(II)Z"⟩, 19) := ⟨⟨by decide +kernel, by decide +kernel⟩, List.mem_of_getElem? (i := 481) (by decide +kernel), List.mem_of_getElem? (i := 560) (by decide +kernel), List.mem_of_getElem? (i := 561) (by decide +kernel)⟩
theorem lw_p27 : lw_okq (⟨"GameTablesModel", "refuseBig", "(I)I"⟩, 19) := ⟨⟨by decide +kernel, by decide +kernel⟩, List.mem_of_getElem? (i := 481) (by decide +kernel), List.mem_of_getElem? (i := 567) (by decide +kernel), List.mem_of_getElem? (i := 568) (by decide +kernel)⟩
theorem lw_p28 : lw_okq (⟨"GameTablesModel", "refuseGreat", "(I)J"⟩, 19) := ⟨⟨by decide +kernel, by decide +kernel⟩, List.mem_of_getElem? (i := 481) (by decide +kernel), List.mem_of_getElem? (i := 585) (by decide +kernel), List.mem_of_getElem? (i := 586) (by decide +kernel)⟩
theorem lw_p29 : lw_okq (⟨"GameTablesModel", "sumOf", "(I)I"⟩, 19) := ⟨⟨by decide +kernel, by decide +kernel⟩, List.mem_of_getElem? (i := 481) (by decide +kernel), List.mem_of_getElem? (i := 590) (by decide +kernel), List.mem_of_getElem? (i := 591) (by decide +kernel)⟩
theorem lw_p30 : lw_okq (⟨"GameTablesModel", "showTray", "()V"⟩, 19) := ⟨⟨by decide +kernel, by decide +kernel⟩, List.mem_of_getElem? (i := 481) (by decide +kernel), List.mem_of_getElem? (i := 594) (by decide +kernel), List.mem_of_getElem? (i := 595) (by decide +kernel)⟩
theorem lw_p31 : lw_okq (⟨"GameTablesModel", "meanOf", "(I[JI[JI)J"⟩, 19) := ⟨⟨by decide +kernel, by decide +kernel⟩, List.mem_of_getElem? (i := 481) (by decide +kernel), List.mem_of_getElem? (i := 598) (by decide +kernel), List.mem_of_getElem? (i := 599) (by decide +kernel)⟩
def lw_privs_2 : List (MethodName × Nat) := [(⟨"GameTables$Corners", "makePositive", "(I)Z"⟩, 4), (⟨"GameTables$Corners", "signOfFirst", "(I)J"⟩, 4), (⟨"GameTables$Corners", "keepSpare", "()V"⟩, 4), (⟨"GameTables$Corners", "insertSpare", "(I)V"⟩, 4), (⟨"GameTables", "balancesBefore", "(II)I"⟩, 5), (⟨"GameTables", "balancesOf", "(LGameTables$Mix;I)I"⟩, 5), (⟨"GameTables", "pairOf", "(I)I"⟩, 5), (⟨"GameTables", "kindOf", "(LGameTables$Mix;LGameTables$Mix;)I"⟩, 5), (⟨"GameTables", "refusalsCounted", "(I)I"⟩, 5), (⟨"GameTablesModel", "refuse", "(I)I"⟩, 19), (⟨"GameTablesModel", "isChoice", "(II)Z"⟩, 19), (⟨"GameTablesModel", "refuseBig", "(I)I"⟩, 19), (⟨"GameTablesModel", "refuseGreat", "(I)J"⟩, 19), (⟨"GameTablesModel", "sumOf", "(I)I"⟩, 19), (⟨"GameTablesModel", "showTray", "()V"⟩, 19), (⟨"GameTablesModel", "meanOf", "(I[JI[JI)J"⟩, 19)]
theorem lw_r2 : ∀ q ∈ lw_privs_2, lw_okq q := List.forall_mem_cons.mpr ⟨lw_p16, List.forall_mem_cons.mpr ⟨lw_p17, List.forall_mem_cons.mpr ⟨lw_p18, List.forall_mem_cons.mpr ⟨lw_p19, List.forall_mem_cons.mpr ⟨lw_p20, List.forall_mem_cons.mpr ⟨lw_p21, List.forall_mem_cons.mpr ⟨lw_p22, List.forall_mem_cons.mpr ⟨lw_p23, List.forall_mem_cons.mpr ⟨lw_p24, List.forall_mem_cons.mpr ⟨lw_p25, List.forall_mem_cons.mpr ⟨lw_p26, List.forall_mem_cons.mpr ⟨lw_p27, List.forall_mem_cons.mpr ⟨lw_p28, List.forall_mem_cons.mpr ⟨lw_p29, List.forall_mem_cons.mpr ⟨lw_p30, List.forall_mem_cons.mpr ⟨lw_p31, fun _ h => absurd h List.not_mem_nil⟩⟩⟩⟩⟩⟩⟩⟩⟩⟩⟩⟩⟩⟩⟩⟩
theorem lw_p32 : lw_okq (⟨"GameTablesModel", "trayAnswers", "(I)I"⟩, 19) := ⟨⟨by decide +kernel, by decide +kernel⟩, List.mem_of_getElem? (i := 481) (by decide +kernel), List.mem_of_getElem? (i := 609) (by decide +kernel), List.mem_of_getElem? (i := 610) (by decide +kernel)⟩
theorem lw_p33 : lw_okq (⟨"GameTablesModel", "answersTo", "(I[JI)I"⟩, 19) := ⟨⟨by decide +kernel, by decide +kernel⟩, List.mem_of_getElem? (i := 481) (by decide +kernel), List.mem_of_getElem? (i := 613) (by decide +kernel), List.mem_of_getElem? (i := 614) (by decide +kernel)⟩
theorem lw_p34 : lw_okq (⟨"GameTablesModel", "get", "(III)I"⟩, 19) := ⟨⟨by decide +kernel, by decide +kernel⟩, List.mem_of_getElem? (i := 481) (by decide +kernel), List.mem_of_getElem? (i := 617) (by decide +kernel), List.mem_of_getElem? (i := 618) (by decide +kernel)⟩
theorem lw_p35 : lw_okq (⟨"GameTablesModel", "whyNot", "()I"⟩, 19) := ⟨⟨by decide +kernel, by decide +kernel⟩, List.mem_of_getElem? (i := 481) (by decide +kernel), List.mem_of_getElem? (i := 625) (by decide +kernel), List.mem_of_getElem? (i := 626) (by decide +kernel)⟩
theorem lw_p36 : lw_okq (⟨"GameTablesModel", "worseBy", "(IIII)I"⟩, 19) := ⟨⟨by decide +kernel, by decide +kernel⟩, List.mem_of_getElem? (i := 481) (by decide +kernel), List.mem_of_getElem? (i := 637) (by decide +kernel), List.mem_of_getElem? (i := 638) (by decide +kernel)⟩
theorem lw_p37 : lw_okq (⟨"GameTablesModel", "drop", "()V"⟩, 19) := ⟨⟨by decide +kernel, by decide +kernel⟩, List.mem_of_getElem? (i := 481) (by decide +kernel), List.mem_of_getElem? (i := 645) (by decide +kernel), List.mem_of_getElem? (i := 646) (by decide +kernel)⟩
theorem lw_p38 : lw_okq (⟨"GameTablesModel", "findCorners", "(I)V"⟩, 19) := ⟨⟨by decide +kernel, by decide +kernel⟩, List.mem_of_getElem? (i := 481) (by decide +kernel), List.mem_of_getElem? (i := 665) (by decide +kernel), List.mem_of_getElem? (i := 666) (by decide +kernel)⟩
theorem lw_p39 : lw_okq (⟨"GameTablesModel", "solve", "(II)Z"⟩, 19) := ⟨⟨by decide +kernel, by decide +kernel⟩, List.mem_of_getElem? (i := 481) (by decide +kernel), List.mem_of_getElem? (i := 675) (by decide +kernel), List.mem_of_getElem? (i := 676) (by decide +kernel)⟩
theorem lw_p40 : lw_okq (⟨"GameTablesModel", "without", "(III)J"⟩, 19) := ⟨⟨by decide +kernel, by decide +kernel⟩, List.mem_of_getElem? (i := 481) (by decide +kernel), List.mem_of_getElem? (i := 679) (by decide +kernel), List.mem_of_getElem? (i := 680) (by decide +kernel)⟩
theorem lw_p41 : lw_okq (⟨"GameTablesModel", "put", "(III)V"⟩, 19) := ⟨⟨by decide +kernel, by decide +kernel⟩, List.mem_of_getElem? (i := 481) (by decide +kernel), List.mem_of_getElem? (i := 683) (by decide +kernel), List.mem_of_getElem? (i := 684) (by decide +kernel)⟩
theorem lw_p42 : lw_okq (⟨"GameTablesModel", "ahead", "(I)I"⟩, 19) := ⟨⟨by decide +kernel, by decide +kernel⟩, List.mem_of_getElem? (i := 481) (by decide +kernel), List.mem_of_getElem? (i := 687) (by decide +kernel), List.mem_of_getElem? (i := 688) (by decide +kernel)⟩
theorem lw_p43 : lw_okq (⟨"GameTablesModel", "isBalance", "(II)Z"⟩, 19) := ⟨⟨by decide +kernel, by decide +kernel⟩, List.mem_of_getElem? (i := 481) (by decide +kernel), List.mem_of_getElem? (i := 699) (by decide +kernel), List.mem_of_getElem? (i := 700) (by decide +kernel)⟩
theorem lw_p44 : lw_okq (⟨"GameTablesModel", "told", "(III)J"⟩, 19) := ⟨⟨by decide +kernel, by decide +kernel⟩, List.mem_of_getElem? (i := 481) (by decide +kernel), List.mem_of_getElem? (i := 708) (by decide +kernel), List.mem_of_getElem? (i := 709) (by decide +kernel)⟩
theorem lw_p45 : lw_okq (⟨"GameTablesModel", "kindOf", "(II)I"⟩, 19) := ⟨⟨by decide +kernel, by decide +kernel⟩, List.mem_of_getElem? (i := 481) (by decide +kernel), List.mem_of_getElem? (i := 712) (by decide +kernel), List.mem_of_getElem? (i := 713) (by decide +kernel)⟩
theorem lw_p46 : lw_okq (⟨"GameTablesModel", "cornerOfTray", "(I)I"⟩, 19) := ⟨⟨by decide +kernel, by decide +kernel⟩, List.mem_of_getElem? (i := 481) (by decide +kernel), List.mem_of_getElem? (i := 720) (by decide +kernel), List.mem_of_getElem? (i := 721) (by decide +kernel)⟩
theorem lw_p47 : lw_okq (⟨"GameTablesModel", "placeOf", "(III)I"⟩, 19) := ⟨⟨by decide +kernel, by decide +kernel⟩, List.mem_of_getElem? (i := 481) (by decide +kernel), List.mem_of_getElem? (i := 734) (by decide +kernel), List.mem_of_getElem? (i := 735) (by decide +kernel)⟩
def lw_privs_3 : List (MethodName × Nat) := [(⟨"GameTablesModel", "trayAnswers", "(I)I"⟩, 19), (⟨"GameTablesModel", "answersTo", "(I[JI)I"⟩, 19), (⟨"GameTablesModel", "get", "(III)I"⟩, 19), (⟨"GameTablesModel", "whyNot", "()I"⟩, 19), (⟨"GameTablesModel", "worseBy", "(IIII)I"⟩, 19), (⟨"GameTablesModel", "drop", "()V"⟩, 19), (⟨"GameTablesModel", "findCorners", "(I)V"⟩, 19), (⟨"GameTablesModel", "solve", "(II)Z"⟩, 19), (⟨"GameTablesModel", "without", "(III)J"⟩, 19), (⟨"GameTablesModel", "put", "(III)V"⟩, 19), (⟨"GameTablesModel", "ahead", "(I)I"⟩, 19), (⟨"GameTablesModel", "isBalance", "(II)Z"⟩, 19), (⟨"GameTablesModel", "told", "(III)J"⟩, 19), (⟨"GameTablesModel", "kindOf", "(II)I"⟩, 19), (⟨"GameTablesModel", "cornerOfTray", "(I)I"⟩, 19), (⟨"GameTablesModel", "placeOf", "(III)I"⟩, 19)]
theorem lw_r3 : ∀ q ∈ lw_privs_3, lw_okq q := List.forall_mem_cons.mpr ⟨lw_p32, List.forall_mem_cons.mpr ⟨lw_p33, List.forall_mem_cons.mpr ⟨lw_p34, List.forall_mem_cons.mpr ⟨lw_p35, List.forall_mem_cons.mpr ⟨lw_p36, List.forall_mem_cons.mpr ⟨lw_p37, List.forall_mem_cons.mpr ⟨lw_p38, List.forall_mem_cons.mpr ⟨lw_p39, List.forall_mem_cons.mpr ⟨lw_p40, List.forall_mem_cons.mpr ⟨lw_p41, List.forall_mem_cons.mpr ⟨lw_p42, List.forall_mem_cons.mpr ⟨lw_p43, List.forall_mem_cons.mpr ⟨lw_p44, List.forall_mem_cons.mpr ⟨lw_p45, List.forall_mem_cons.mpr ⟨lw_p46, List.forall_mem_cons.mpr ⟨lw_p47, fun _ h => absurd h List.not_mem_nil⟩⟩⟩⟩⟩⟩⟩⟩⟩⟩⟩⟩⟩⟩⟩⟩
def lw_privs : List (MethodName × Nat) := lw_privs_1 ++ (lw_privs_2 ++ (lw_privs_3))
def lw_tbl : List Cond := k2_sels lw_privs ++ tables_1
theorem lw_privs_ok : ∀ q ∈ lw_privs, lw_okq q := by
  show ∀ q ∈ lw_privs_1 ++ (lw_privs_2 ++ (lw_privs_3)), lw_okq q
  exact List.forall_mem_append.mpr ⟨lw_r1, List.forall_mem_append.mpr ⟨lw_r2, lw_r3⟩⟩
-- ===== end of PART A; then your names; then what follows =====
def RX0 : String := "GameTables$Corners"
def TX0 : u_T := fun k => match k with
  | 0 => ("GameTables$Corners", "count", "I", false)
  | 1 => ("GameTables$Corners", "places", "[LGameTables$Mix;", true)
  | 2 => ("GameTables$Corners", "spare", "LGameTables$Mix;", false)
  | _ => ("GameTables$Corners", "gaps", "[[J", true)
def tyX0 : Nat → FieldType := fun k => match k with
  | 0 => .int
  | 1 => .array (.object "GameTables$Mix")
  | 2 => .object "GameTables$Mix"
  | _ => .array (.array .long)
abbrev wsX00 : List Cond := u_ws RX0 TX0 4
theorem nmX0 : ∀ a, a < 4 → ∀ b, b < 4 → a ≠ b → (TX0 a).2.1 ≠ (TX0 b).2.1 := by decide +kernel
theorem tyX0_ok : ∀ k, k < 4 → parseFieldDescriptor (TX0 k).2.2.1 = some (tyX0 k) := by decide +kernel
abbrev cX0_init : ByteArray := prog_2_method_1_code
def yX0_init : MethodName := ⟨RX0, "<init>", "()V"⟩
abbrev cX0_mixAt : ByteArray := prog_2_method_2_code
def yX0_mixAt : MethodName := ⟨RX0, "mixAt", "(I)LGameTables$Mix;"⟩
abbrev cX0_numberOf : ByteArray := prog_2_method_3_code
def yX0_numberOf : MethodName := ⟨RX0, "numberOf", "(LGameTables$Mix;)I"⟩
abbrev cX0_searchAll : ByteArray := prog_2_method_4_code
def yX0_searchAll : MethodName := ⟨RX0, "searchAll", "(ILGameTables$Player;)V"⟩
abbrev cX0_search : ByteArray := prog_2_method_5_code
def yX0_search : MethodName := ⟨RX0, "search", "(IILGameTables$Player;)V"⟩
abbrev cX0_layGaps : ByteArray := prog_2_method_6_code
def yX0_layGaps : MethodName := ⟨RX0, "layGaps", "(IILGameTables$Player;)V"⟩
abbrev cX0_layLine : ByteArray := prog_2_method_7_code
def yX0_layLine : MethodName := ⟨RX0, "layLine", "(IILGameTables$Player;II)V"⟩
abbrev cX0_layParts : ByteArray := prog_2_method_8_code
def yX0_layParts : MethodName := ⟨RX0, "layParts", "(I)V"⟩
abbrev cX0_gapsWithout : ByteArray := prog_2_method_9_code
def yX0_gapsWithout : MethodName := ⟨RX0, "gapsWithout", "(II)J"⟩
abbrev cX0_twoLines : ByteArray := prog_2_method_10_code
def yX0_twoLines : MethodName := ⟨RX0, "twoLines", "(IIII)J"⟩
abbrev cX0_makePositive : ByteArray := prog_2_method_11_code
def yX0_makePositive : MethodName := ⟨RX0, "makePositive", "(I)Z"⟩
abbrev cX0_signOfFirst : ByteArray := prog_2_method_12_code
def yX0_signOfFirst : MethodName := ⟨RX0, "signOfFirst", "(I)J"⟩
abbrev cX0_keepSpare : ByteArray := prog_2_method_13_code
def yX0_keepSpare : MethodName := ⟨RX0, "keepSpare", "()V"⟩
abbrev cX0_insertSpare : ByteArray := prog_2_method_14_code
def yX0_insertSpare : MethodName := ⟨RX0, "insertSpare", "(I)V"⟩
def RX1 : String := "GameTables$Dropping"
def TX1 : u_T := fun k => match k with
  | 0 => ("GameTables$Dropping", "rowsLeft", "I", false)
  | 1 => ("GameTables$Dropping", "columnsLeft", "I", false)
  | _ => ("GameTables$Dropping", "rounds", "I", false)
def tyX1 : Nat → FieldType := fun k => match k with
  | 0 => .int
  | 1 => .int
  | _ => .int
abbrev wsX10 : List Cond := u_ws RX1 TX1 3
theorem nmX1 : ∀ a, a < 3 → ∀ b, b < 3 → a ≠ b → (TX1 a).2.1 ≠ (TX1 b).2.1 := by decide +kernel
theorem tyX1_ok : ∀ k, k < 3 → parseFieldDescriptor (TX1 k).2.2.1 = some (tyX1 k) := by decide +kernel
abbrev cX1_init : ByteArray := prog_3_method_1_code
def yX1_init : MethodName := ⟨RX1, "<init>", "()V"⟩
abbrev cX1_run : ByteArray := prog_3_method_2_code
def yX1_run : MethodName := ⟨RX1, "run", "(LGameTables$Player;LGameTables$Player;)V"⟩
def RX2 : String := "GameTables$Mix"
def TX2 : u_T := fun k => match k with
  | 0 => ("GameTables$Mix", "parts", "[J", true)
  | 1 => ("GameTables$Mix", "total", "J", false)
  | 2 => ("GameTables$Mix", "used", "I", false)
  | _ => ("GameTables$Mix", "answerBits", "I", false)
def tyX2 : Nat → FieldType := fun k => match k with
  | 0 => .array .long
  | 1 => .long
  | 2 => .int
  | _ => .int
abbrev wsX20 : List Cond := u_ws RX2 TX2 4
theorem nmX2 : ∀ a, a < 4 → ∀ b, b < 4 → a ≠ b → (TX2 a).2.1 ≠ (TX2 b).2.1 := by decide +kernel
theorem tyX2_ok : ∀ k, k < 4 → parseFieldDescriptor (TX2 k).2.2.1 = some (tyX2 k) := by decide +kernel
abbrev cX2_init : ByteArray := prog_4_method_1_code
def yX2_init : MethodName := ⟨RX2, "<init>", "()V"⟩
abbrev cX2_sumUp : ByteArray := prog_4_method_2_code
def yX2_sumUp : MethodName := ⟨RX2, "sumUp", "()V"⟩
abbrev cX2_orderTo : ByteArray := prog_4_method_3_code
def yX2_orderTo : MethodName := ⟨RX2, "orderTo", "(LGameTables$Mix;)I"⟩
abbrev cX2_fits : ByteArray := prog_4_method_4_code
def yX2_fits : MethodName := ⟨RX2, "fits", "(LGameTables$Mix;)Z"⟩
def RX3 : String := "GameTables$Player"
def TX3 : u_T := fun k => match k with
  | 0 => ("GameTables$Player", "choices", "I", false)
  | 1 => ("GameTables$Player", "ownCorners", "LGameTables$Corners;", true)
  | 2 => ("GameTables$Player", "pays", "[I", true)
  | 3 => ("GameTables$Player", "weights", "[I", true)
  | _ => ("GameTables$Player", "tray", "LGameTables$Mix;", true)
def tyX3 : Nat → FieldType := fun k => match k with
  | 0 => .int
  | 1 => .object "GameTables$Corners"
  | 2 => .array .int
  | 3 => .array .int
  | _ => .object "GameTables$Mix"
abbrev wsX30 : List Cond := u_ws RX3 TX3 5
theorem nmX3 : ∀ a, a < 5 → ∀ b, b < 5 → a ≠ b → (TX3 a).2.1 ≠ (TX3 b).2.1 := by decide +kernel
theorem tyX3_ok : ∀ k, k < 5 → parseFieldDescriptor (TX3 k).2.2.1 = some (tyX3 k) := by decide +kernel
abbrev cX3_init : ByteArray := prog_5_method_1_code
def yX3_init : MethodName := ⟨RX3, "<init>", "()V"⟩
abbrev cX3_startAnew : ByteArray := prog_5_method_2_code
def yX3_startAnew : MethodName := ⟨RX3, "startAnew", "(I)V"⟩
abbrev cX3_hasChoice : ByteArray := prog_5_method_3_code
def yX3_hasChoice : MethodName := ⟨RX3, "hasChoice", "(I)Z"⟩
abbrev cX3_allBits : ByteArray := prog_5_method_4_code
def yX3_allBits : MethodName := ⟨RX3, "allBits", "()I"⟩
abbrev cX3_payFor : ByteArray := prog_5_method_5_code
def yX3_payFor : MethodName := ⟨RX3, "payFor", "(II)I"⟩
abbrev cX3_setPay : ByteArray := prog_5_method_6_code
def yX3_setPay : MethodName := ⟨RX3, "setPay", "(III)V"⟩
abbrev cX3_changeWeight : ByteArray := prog_5_method_7_code
def yX3_changeWeight : MethodName := ⟨RX3, "changeWeight", "(II)I"⟩
abbrev cX3_trayMix : ByteArray := prog_5_method_8_code
def yX3_trayMix : MethodName := ⟨RX3, "trayMix", "(LGameTables$Player;)LGameTables$Mix;"⟩
abbrev cX3_worthOf : ByteArray := prog_5_method_9_code
def yX3_worthOf : MethodName := ⟨RX3, "worthOf", "(ILGameTables$Mix;)J"⟩
abbrev cX3_answersTo : ByteArray := prog_5_method_10_code
def yX3_answersTo : MethodName := ⟨RX3, "answersTo", "(LGameTables$Mix;)I"⟩
abbrev cX3_meanPart : ByteArray := prog_5_method_11_code
def yX3_meanPart : MethodName := ⟨RX3, "meanPart", "(LGameTables$Mix;LGameTables$Mix;I)J"⟩
abbrev cX3_paysMore : ByteArray := prog_5_method_12_code
def yX3_paysMore : MethodName := ⟨RX3, "paysMore", "(III)Z"⟩
abbrev cX3_firstBetter : ByteArray := prog_5_method_13_code
def yX3_firstBetter : MethodName := ⟨RX3, "firstBetter", "(III)I"⟩
abbrev cX3_notWorse : ByteArray := prog_5_method_14_code
def yX3_notWorse : MethodName := ⟨RX3, "notWorse", "(II)I"⟩
abbrev cX3_leastFor : ByteArray := prog_5_method_15_code
def yX3_leastFor : MethodName := ⟨RX3, "leastFor", "(II)I"⟩
abbrev cX3_leastAgainst : ByteArray := prog_5_method_16_code
def yX3_leastAgainst : MethodName := ⟨RX3, "leastAgainst", "(I)I"⟩
abbrev cX3_mostAgainst : ByteArray := prog_5_method_17_code
def yX3_mostAgainst : MethodName := ⟨RX3, "mostAgainst", "(I)I"⟩
abbrev cX3_surePay : ByteArray := prog_5_method_18_code
def yX3_surePay : MethodName := ⟨RX3, "surePay", "(I)I"⟩
abbrev cX3_holdPay : ByteArray := prog_5_method_19_code
def yX3_holdPay : MethodName := ⟨RX3, "holdPay", "(I)I"⟩
abbrev cX3_farthestPay : ByteArray := prog_5_method_20_code
def yX3_farthestPay : MethodName := ⟨RX3, "farthestPay", "()I"⟩
abbrev cX3_addAgainst : ByteArray := prog_5_method_21_code
def yX3_addAgainst : MethodName := ⟨RX3, "addAgainst", "(II)V"⟩
abbrev cX3_multiplyPays : ByteArray := prog_5_method_22_code
def yX3_multiplyPays : MethodName := ⟨RX3, "multiplyPays", "(I)V"⟩
abbrev cX3_takesFrom : ByteArray := prog_5_method_23_code
def yX3_takesFrom : MethodName := ⟨RX3, "takesFrom", "(LGameTables$Player;)Z"⟩
abbrev cX3_isLike : ByteArray := prog_5_method_24_code
def yX3_isLike : MethodName := ⟨RX3, "isLike", "(LGameTables$Player;)Z"⟩
def RX4 : String := "GameTables"
def TX4 : u_T := fun k => match k with
  | 0 => ("GameTables", "row", "LGameTables$Player;", false)
  | 1 => ("GameTables", "column", "LGameTables$Player;", false)
  | 2 => ("GameTables", "dropping", "LGameTables$Dropping;", true)
  | 3 => ("GameTables", "refusals", "[I", true)
  | _ => ("GameTables", "cornersKnown", "Z", false)
def tyX4 : Nat → FieldType := fun k => match k with
  | 0 => .object "GameTables$Player"
  | 1 => .object "GameTables$Player"
  | 2 => .object "GameTables$Dropping"
  | 3 => .array .int
  | _ => .boolean
abbrev wsX40 : List Cond := u_ws RX4 TX4 5
theorem nmX4 : ∀ a, a < 5 → ∀ b, b < 5 → a ≠ b → (TX4 a).2.1 ≠ (TX4 b).2.1 := by decide +kernel
theorem tyX4_ok : ∀ k, k < 5 → parseFieldDescriptor (TX4 k).2.2.1 = some (tyX4 k) := by decide +kernel
abbrev cX4_init : ByteArray := prog_1_method_1_code
def yX4_init : MethodName := ⟨RX4, "<init>", "()V"⟩
abbrev cX4_game : ByteArray := prog_1_method_2_code
def yX4_game : MethodName := ⟨RX4, "game", "(II)I"⟩
abbrev cX4_pay : ByteArray := prog_1_method_3_code
def yX4_pay : MethodName := ⟨RX4, "pay", "(IIII)I"⟩
abbrev cX4_paid : ByteArray := prog_1_method_4_code
def yX4_paid : MethodName := ⟨RX4, "paid", "(III)I"⟩
abbrev cX4_weight : ByteArray := prog_1_method_5_code
def yX4_weight : MethodName := ⟨RX4, "weight", "(III)I"⟩
abbrev cX4_mean : ByteArray := prog_1_method_6_code
def yX4_mean : MethodName := ⟨RX4, "mean", "(II)J"⟩
abbrev cX4_answers : ByteArray := prog_1_method_7_code
def yX4_answers : MethodName := ⟨RX4, "answers", "(I)I"⟩
abbrev cX4_is : ByteArray := prog_1_method_8_code
def yX4_is : MethodName := ⟨RX4, "is", "()I"⟩
abbrev cX4_why : ByteArray := prog_1_method_9_code
def yX4_why : MethodName := ⟨RX4, "why", "()I"⟩
abbrev cX4_worse : ByteArray := prog_1_method_10_code
def yX4_worse : MethodName := ⟨RX4, "worse", "(II)I"⟩
abbrev cX4_left : ByteArray := prog_1_method_11_code
def yX4_left : MethodName := ⟨RX4, "left", "(I)I"⟩
abbrev cX4_times : ByteArray := prog_1_method_12_code
def yX4_times : MethodName := ⟨RX4, "times", "()I"⟩
abbrev cX4_sure : ByteArray := prog_1_method_13_code
def yX4_sure : MethodName := ⟨RX4, "sure", "(I)I"⟩
abbrev cX4_hold : ByteArray := prog_1_method_14_code
def yX4_hold : MethodName := ⟨RX4, "hold", "(I)I"⟩
abbrev cX4_corners : ByteArray := prog_1_method_15_code
def yX4_corners : MethodName := ⟨RX4, "corners", "(I)I"⟩
abbrev cX4_corner : ByteArray := prog_1_method_16_code
def yX4_corner : MethodName := ⟨RX4, "corner", "(IIII)I"⟩
abbrev cX4_balances : ByteArray := prog_1_method_17_code
def yX4_balances : MethodName := ⟨RX4, "balances", "()I"⟩
abbrev cX4_balance : ByteArray := prog_1_method_18_code
def yX4_balance : MethodName := ⟨RX4, "balance", "(II)J"⟩
abbrev cX4_find : ByteArray := prog_1_method_19_code
def yX4_find : MethodName := ⟨RX4, "find", "()I"⟩
abbrev cX4_turn : ByteArray := prog_1_method_20_code
def yX4_turn : MethodName := ⟨RX4, "turn", "()I"⟩
abbrev cX4_raise : ByteArray := prog_1_method_21_code
def yX4_raise : MethodName := ⟨RX4, "raise", "(III)I"⟩
abbrev cX4_scale : ByteArray := prog_1_method_22_code
def yX4_scale : MethodName := ⟨RX4, "scale", "(II)I"⟩
abbrev cX4_status : ByteArray := prog_1_method_23_code
def yX4_status : MethodName := ⟨RX4, "status", "(I)I"⟩
abbrev cX4_refusalsCounted : ByteArray := prog_1_method_24_code
def yX4_refusalsCounted : MethodName := ⟨RX4, "refusalsCounted", "(I)I"⟩
abbrev cX4_refuse : ByteArray := prog_1_method_25_code
def yX4_refuse : MethodName := ⟨RX4, "refuse", "(I)I"⟩
abbrev cX4_refuseAmongPays : ByteArray := prog_1_method_26_code
def yX4_refuseAmongPays : MethodName := ⟨RX4, "refuseAmongPays", "(I)I"⟩
abbrev cX4_refuseAmongLongs : ByteArray := prog_1_method_27_code
def yX4_refuseAmongLongs : MethodName := ⟨RX4, "refuseAmongLongs", "(I)J"⟩
abbrev cX4_isWho : ByteArray := prog_1_method_28_code
def yX4_isWho : MethodName := ⟨RX4, "isWho", "(I)Z"⟩
abbrev cX4_isPlace : ByteArray := prog_1_method_29_code
def yX4_isPlace : MethodName := ⟨RX4, "isPlace", "(III)Z"⟩
abbrev cX4_player : ByteArray := prog_1_method_30_code
def yX4_player : MethodName := ⟨RX4, "player", "(I)LGameTables$Player;"⟩
abbrev cX4_trayOf : ByteArray := prog_1_method_31_code
def yX4_trayOf : MethodName := ⟨RX4, "trayOf", "(I)LGameTables$Mix;"⟩
abbrev cX4_knowCorners : ByteArray := prog_1_method_32_code
def yX4_knowCorners : MethodName := ⟨RX4, "knowCorners", "()V"⟩
abbrev cX4_balancesBefore : ByteArray := prog_1_method_33_code
def yX4_balancesBefore : MethodName := ⟨RX4, "balancesBefore", "(II)I"⟩
abbrev cX4_balancesOf : ByteArray := prog_1_method_34_code
def yX4_balancesOf : MethodName := ⟨RX4, "balancesOf", "(LGameTables$Mix;I)I"⟩
abbrev cX4_pairOf : ByteArray := prog_1_method_35_code
def yX4_pairOf : MethodName := ⟨RX4, "pairOf", "(I)I"⟩
abbrev cX4_kindOf : ByteArray := prog_1_method_36_code
def yX4_kindOf : MethodName := ⟨RX4, "kindOf", "(LGameTables$Mix;LGameTables$Mix;)I"⟩
abbrev cX4_hasBit : ByteArray := prog_1_method_37_code
def yX4_hasBit : MethodName := ⟨RX4, "hasBit", "(II)Z"⟩
abbrev cX4_firstOf : ByteArray := prog_1_method_38_code
def yX4_firstOf : MethodName := ⟨RX4, "firstOf", "(I)I"⟩
abbrev cX4_lowest : ByteArray := prog_1_method_39_code
def yX4_lowest : MethodName := ⟨RX4, "lowest", "(JJI)J"⟩
abbrev cX4_commonFactor : ByteArray := prog_1_method_40_code
def yX4_commonFactor : MethodName := ⟨RX4, "commonFactor", "(JJ)J"⟩
def RX5 : String := "GameTablesModel"
def TX5 : u_T := fun k => match k with
  | 0 => ("GameTablesModel", "many", "[I", true)
  | 1 => ("GameTablesModel", "pays", "[I", true)
  | 2 => ("GameTablesModel", "weights", "[I", true)
  | 3 => ("GameTablesModel", "refused", "[I", true)
  | 4 => ("GameTablesModel", "trayRow", "[J", true)
  | 5 => ("GameTablesModel", "trayColumn", "[J", true)
  | 6 => ("GameTablesModel", "leftRow", "I", false)
  | 7 => ("GameTablesModel", "leftColumn", "I", false)
  | 8 => ("GameTablesModel", "drops", "I", false)
  | 9 => ("GameTablesModel", "found", "[I", true)
  | 10 => ("GameTablesModel", "share", "[J", true)
  | 11 => ("GameTablesModel", "whole", "[J", true)
  | 12 => ("GameTablesModel", "bitsOf", "[I", true)
  | 13 => ("GameTablesModel", "answersOf", "[I", true)
  | 14 => ("GameTablesModel", "square", "[J", true)
  | 15 => ("GameTablesModel", "chosen", "[I", true)
  | 16 => ("GameTablesModel", "answered", "[I", true)
  | 17 => ("GameTablesModel", "shares", "[J", true)
  | _ => ("GameTablesModel", "before", "[I", true)
def tyX5 : Nat → FieldType := fun k => match k with
  | 0 => .array .int
  | 1 => .array .int
  | 2 => .array .int
  | 3 => .array .int
  | 4 => .array .long
  | 5 => .array .long
  | 6 => .int
  | 7 => .int
  | 8 => .int
  | 9 => .array .int
  | 10 => .array .long
  | 11 => .array .long
  | 12 => .array .int
  | 13 => .array .int
  | 14 => .array .long
  | 15 => .array .int
  | 16 => .array .int
  | 17 => .array .long
  | _ => .array .int
abbrev wsX50 : List Cond := u_ws RX5 TX5 19
theorem nmX5 : ∀ a, a < 19 → ∀ b, b < 19 → a ≠ b → (TX5 a).2.1 ≠ (TX5 b).2.1 := by decide +kernel
theorem tyX5_ok : ∀ k, k < 19 → parseFieldDescriptor (TX5 k).2.2.1 = some (tyX5 k) := by decide +kernel
abbrev cX5_init : ByteArray := prog_7_method_1_code
def yX5_init : MethodName := ⟨RX5, "<init>", "()V"⟩
abbrev cX5_in : ByteArray := prog_7_method_3_code
def yX5_in : MethodName := ⟨RX5, "in", "(JJJ)Z"⟩
abbrev cX5_refuse : ByteArray := prog_7_method_4_code
def yX5_refuse : MethodName := ⟨RX5, "refuse", "(I)I"⟩
abbrev cX5_refuseBig : ByteArray := prog_7_method_5_code
def yX5_refuseBig : MethodName := ⟨RX5, "refuseBig", "(I)I"⟩
abbrev cX5_refuseGreat : ByteArray := prog_7_method_6_code
def yX5_refuseGreat : MethodName := ⟨RX5, "refuseGreat", "(I)J"⟩
abbrev cX5_isWho : ByteArray := prog_7_method_7_code
def yX5_isWho : MethodName := ⟨RX5, "isWho", "(I)Z"⟩
abbrev cX5_isChoice : ByteArray := prog_7_method_8_code
def yX5_isChoice : MethodName := ⟨RX5, "isChoice", "(II)Z"⟩
abbrev cX5_get : ByteArray := prog_7_method_9_code
def yX5_get : MethodName := ⟨RX5, "get", "(III)I"⟩
abbrev cX5_game : ByteArray := prog_7_method_10_code
def yX5_game : MethodName := ⟨RX5, "game", "(II)I"⟩
abbrev cX5_pay : ByteArray := prog_7_method_11_code
def yX5_pay : MethodName := ⟨RX5, "pay", "(IIII)I"⟩
abbrev cX5_paid : ByteArray := prog_7_method_12_code
def yX5_paid : MethodName := ⟨RX5, "paid", "(III)I"⟩
abbrev cX5_weight : ByteArray := prog_7_method_13_code
def yX5_weight : MethodName := ⟨RX5, "weight", "(III)I"⟩
abbrev cX5_sumOf : ByteArray := prog_7_method_14_code
def yX5_sumOf : MethodName := ⟨RX5, "sumOf", "(I)I"⟩
abbrev cX5_common : ByteArray := prog_7_method_15_code
def yX5_common : MethodName := ⟨RX5, "common", "(JJ)J"⟩
abbrev cX5_meanOf : ByteArray := prog_7_method_16_code
def yX5_meanOf : MethodName := ⟨RX5, "meanOf", "(I[JI[JI)J"⟩
abbrev cX5_showTray : ByteArray := prog_7_method_17_code
def yX5_showTray : MethodName := ⟨RX5, "showTray", "()V"⟩
abbrev cX5_mean : ByteArray := prog_7_method_18_code
def yX5_mean : MethodName := ⟨RX5, "mean", "(II)J"⟩
abbrev cX5_answersTo : ByteArray := prog_7_method_19_code
def yX5_answersTo : MethodName := ⟨RX5, "answersTo", "(I[JI)I"⟩
abbrev cX5_trayAnswers : ByteArray := prog_7_method_20_code
def yX5_trayAnswers : MethodName := ⟨RX5, "trayAnswers", "(I)I"⟩
abbrev cX5_answers : ByteArray := prog_7_method_21_code
def yX5_answers : MethodName := ⟨RX5, "answers", "(I)I"⟩
abbrev cX5_whyNot : ByteArray := prog_7_method_22_code
def yX5_whyNot : MethodName := ⟨RX5, "whyNot", "()I"⟩
abbrev cX5_is : ByteArray := prog_7_method_23_code
def yX5_is : MethodName := ⟨RX5, "is", "()I"⟩
abbrev cX5_why : ByteArray := prog_7_method_24_code
def yX5_why : MethodName := ⟨RX5, "why", "()I"⟩
abbrev cX5_worseBy : ByteArray := prog_7_method_25_code
def yX5_worseBy : MethodName := ⟨RX5, "worseBy", "(IIII)I"⟩
abbrev cX5_worse : ByteArray := prog_7_method_26_code
def yX5_worse : MethodName := ⟨RX5, "worse", "(II)I"⟩
abbrev cX5_drop : ByteArray := prog_7_method_27_code
def yX5_drop : MethodName := ⟨RX5, "drop", "()V"⟩
abbrev cX5_left : ByteArray := prog_7_method_28_code
def yX5_left : MethodName := ⟨RX5, "left", "(I)I"⟩
abbrev cX5_times : ByteArray := prog_7_method_29_code
def yX5_times : MethodName := ⟨RX5, "times", "()I"⟩
abbrev cX5_sure : ByteArray := prog_7_method_30_code
def yX5_sure : MethodName := ⟨RX5, "sure", "(I)I"⟩
abbrev cX5_hold : ByteArray := prog_7_method_31_code
def yX5_hold : MethodName := ⟨RX5, "hold", "(I)I"⟩
abbrev cX5_manyIn : ByteArray := prog_7_method_32_code
def yX5_manyIn : MethodName := ⟨RX5, "manyIn", "(I)I"⟩
abbrev cX5_listed : ByteArray := prog_7_method_33_code
def yX5_listed : MethodName := ⟨RX5, "listed", "(I[I)I"⟩
abbrev cX5_without : ByteArray := prog_7_method_34_code
def yX5_without : MethodName := ⟨RX5, "without", "(III)J"⟩
abbrev cX5_solve : ByteArray := prog_7_method_35_code
def yX5_solve : MethodName := ⟨RX5, "solve", "(II)Z"⟩
abbrev cX5_ahead : ByteArray := prog_7_method_36_code
def yX5_ahead : MethodName := ⟨RX5, "ahead", "(I)I"⟩
abbrev cX5_put : ByteArray := prog_7_method_37_code
def yX5_put : MethodName := ⟨RX5, "put", "(III)V"⟩
abbrev cX5_findCorners : ByteArray := prog_7_method_38_code
def yX5_findCorners : MethodName := ⟨RX5, "findCorners", "(I)V"⟩
abbrev cX5_corners : ByteArray := prog_7_method_39_code
def yX5_corners : MethodName := ⟨RX5, "corners", "(I)I"⟩
abbrev cX5_corner : ByteArray := prog_7_method_40_code
def yX5_corner : MethodName := ⟨RX5, "corner", "(IIII)I"⟩
abbrev cX5_isBalance : ByteArray := prog_7_method_41_code
def yX5_isBalance : MethodName := ⟨RX5, "isBalance", "(II)Z"⟩
abbrev cX5_balances : ByteArray := prog_7_method_42_code
def yX5_balances : MethodName := ⟨RX5, "balances", "()I"⟩
abbrev cX5_kindOf : ByteArray := prog_7_method_43_code
def yX5_kindOf : MethodName := ⟨RX5, "kindOf", "(II)I"⟩
abbrev cX5_told : ByteArray := prog_7_method_44_code
def yX5_told : MethodName := ⟨RX5, "told", "(III)J"⟩
abbrev cX5_balance : ByteArray := prog_7_method_45_code
def yX5_balance : MethodName := ⟨RX5, "balance", "(II)J"⟩
abbrev cX5_cornerOfTray : ByteArray := prog_7_method_46_code
def yX5_cornerOfTray : MethodName := ⟨RX5, "cornerOfTray", "(I)I"⟩
abbrev cX5_find : ByteArray := prog_7_method_47_code
def yX5_find : MethodName := ⟨RX5, "find", "()I"⟩
abbrev cX5_turn : ByteArray := prog_7_method_48_code
def yX5_turn : MethodName := ⟨RX5, "turn", "()I"⟩
abbrev cX5_placeOf : ByteArray := prog_7_method_49_code
def yX5_placeOf : MethodName := ⟨RX5, "placeOf", "(III)I"⟩
abbrev cX5_raise : ByteArray := prog_7_method_50_code
def yX5_raise : MethodName := ⟨RX5, "raise", "(III)I"⟩
abbrev cX5_scale : ByteArray := prog_7_method_51_code
def yX5_scale : MethodName := ⟨RX5, "scale", "(II)I"⟩
abbrev cX5_status : ByteArray := prog_7_method_52_code
def yX5_status : MethodName := ⟨RX5, "status", "(I)I"⟩
def RJ6 : String := "java/lang/Integer"
def TJ6 : u_T := fun k => match k with
  | _ => ("", "", "", false)
def tyJ6 : Nat → FieldType := fun k => match k with
  | _ => .int
abbrev wsJ60 : List Cond := u_ws RJ6 TJ6 0
theorem nmJ6 : ∀ a, a < 0 → ∀ b, b < 0 → a ≠ b → (TJ6 a).2.1 ≠ (TJ6 b).2.1 := by decide +kernel
theorem tyJ6_ok : ∀ k, k < 0 → parseFieldDescriptor (TJ6 k).2.2.1 = some (tyJ6 k) := by decide +kernel
abbrev cJ6_bitCount_0f7a4 : ByteArray := prog_8_method_49_code
def yJ6_bitCount_0f7a4 : MethodName := ⟨RJ6, "bitCount", "(I)I"⟩
def RJ9 : String := "java/lang/Math"
def TJ9 : u_T := fun k => match k with
  | _ => ("", "", "", false)
def tyJ9 : Nat → FieldType := fun k => match k with
  | _ => .int
abbrev wsJ90 : List Cond := u_ws RJ9 TJ9 0
theorem nmJ9 : ∀ a, a < 0 → ∀ b, b < 0 → a ≠ b → (TJ9 a).2.1 ≠ (TJ9 b).2.1 := by decide +kernel
theorem tyJ9_ok : ∀ k, k < 0 → parseFieldDescriptor (TJ9 k).2.2.1 = some (tyJ9 k) := by decide +kernel
abbrev cJ9_abs_0f7a4 : ByteArray := prog_9_method_59_code
def yJ9_abs_0f7a4 : MethodName := ⟨RJ9, "abs", "(I)I"⟩
abbrev cJ9_abs_067f4 : ByteArray := prog_9_method_61_code
def yJ9_abs_067f4 : MethodName := ⟨RJ9, "abs", "(J)J"⟩
abbrev cJ9_max_7cf53 : ByteArray := prog_9_method_65_code
def yJ9_max_7cf53 : MethodName := ⟨RJ9, "max", "(II)I"⟩
abbrev cJ9_min_7cf53 : ByteArray := prog_9_method_69_code
def yJ9_min_7cf53 : MethodName := ⟨RJ9, "min", "(II)I"⟩
def RL : String := "GameTablesLaw"
abbrev cL_law : ByteArray := code
def yL_law : MethodName := ⟨RL, "law", "([I)Z"⟩
abbrev vwCl : List vw_C := [(RX0, TX0, 4), (RX1, TX1, 3), (RX2, TX2, 4), (RX3, TX3, 5), (RX4, TX4, 5), (RX5, TX5, 19)]
end
section
/-! the words of the tables that stay good under a call -/
def gtb : List Cond := lw_tbl.filter goodWord
theorem gtb_of {w : Cond} (h : w ∈ tables_1) (hg : goodWord w = true) : w ∈ gtb := List.mem_filter.mpr ⟨List.mem_append_right _ h, hg⟩
theorem gtb_1 {w : Cond} (i : Nat) (h : tables_1_1[i]? = some w) (hg : goodWord w = true) : w ∈ gtb := gtb_of (by unfold tables_1; have h := List.mem_of_getElem? h; exact List.mem_append_left _ h) hg
theorem gtn_1 {w : Cond} (i : Nat) (h : tables_1_1[i]? = some w) : w ∈ tables_1 := (by unfold tables_1; have h := List.mem_of_getElem? h; exact List.mem_append_left _ h)
theorem gtb_2 {w : Cond} (i : Nat) (h : tables_1_2[i]? = some w) (hg : goodWord w = true) : w ∈ gtb := gtb_of (by unfold tables_1; have h := List.mem_of_getElem? h; exact List.mem_append_right _ (List.mem_append_left _ h)) hg
theorem gtn_2 {w : Cond} (i : Nat) (h : tables_1_2[i]? = some w) : w ∈ tables_1 := (by unfold tables_1; have h := List.mem_of_getElem? h; exact List.mem_append_right _ (List.mem_append_left _ h))
theorem gtb_3 {w : Cond} (i : Nat) (h : tables_1_3[i]? = some w) (hg : goodWord w = true) : w ∈ gtb := gtb_of (by unfold tables_1; have h := List.mem_of_getElem? h; exact List.mem_append_right _ (List.mem_append_right _ (List.mem_append_left _ h))) hg
theorem gtn_3 {w : Cond} (i : Nat) (h : tables_1_3[i]? = some w) : w ∈ tables_1 := (by unfold tables_1; have h := List.mem_of_getElem? h; exact List.mem_append_right _ (List.mem_append_right _ (List.mem_append_left _ h)))
theorem gtb_4 {w : Cond} (i : Nat) (h : tables_1_4[i]? = some w) (hg : goodWord w = true) : w ∈ gtb := gtb_of (by unfold tables_1; have h := List.mem_of_getElem? h; exact List.mem_append_right _ (List.mem_append_right _ (List.mem_append_right _ (h)))) hg
theorem gtn_4 {w : Cond} (i : Nat) (h : tables_1_4[i]? = some w) : w ∈ tables_1 := (by unfold tables_1; have h := List.mem_of_getElem? h; exact List.mem_append_right _ (List.mem_append_right _ (List.mem_append_right _ (h))))
theorem q1_0 : (Cond.initialized "GameTablesLaw") ∈ gtb := gtb_1 0 rfl rfl
theorem q1_1 : (Cond.initialized "GameTables") ∈ gtb := gtb_1 1 rfl rfl
theorem q1_2 : (Cond.initialized "GameTables$Player") ∈ gtb := gtb_1 2 rfl rfl
theorem q1_3 : (Cond.initialized "GameTables$Corners") ∈ gtb := gtb_1 3 rfl rfl
theorem q1_4 : (Cond.initialized "GameTables$Mix") ∈ gtb := gtb_1 4 rfl rfl
theorem q1_5 : (Cond.initialized "GameTables$Dropping") ∈ gtb := gtb_1 5 rfl rfl
theorem q1_6 : (Cond.initialized "GameTablesModel") ∈ gtb := gtb_1 6 rfl rfl
theorem q1_7 : (Cond.initialized "java/lang/Math") ∈ gtb := gtb_1 7 rfl rfl
theorem q1_8 : (Cond.initialized "java/lang/Integer") ∈ gtb := gtb_1 8 rfl rfl
theorem q1_9 : (Cond.classLink "GameTablesLaw" 7 "GameTables") ∈ gtb := gtb_1 9 rfl rfl
theorem q1_10 : (Cond.instantiable "GameTables" 5) ∈ gtb := gtb_1 10 rfl rfl
theorem q1_11 : (Cond.methodLink "GameTablesLaw" 9 ⟨"GameTables", "<init>", "()V"⟩) ∈ gtb := gtb_1 11 rfl rfl
theorem q1_12 : (Cond.instanceMethod ⟨"GameTables", "<init>", "()V"⟩) ∈ gtb := gtb_1 12 rfl rfl
theorem q1_13 : (Cond.code ⟨"GameTables", "<init>", "()V"⟩ prog_1_method_1_code 1 (Option.none : Option FieldType)) ∈ gtb := gtb_1 13 rfl rfl
theorem q1_14 : (Cond.methodLink "GameTables" 1 ⟨"java/lang/Object", "<init>", "()V"⟩) ∈ gtb := gtb_1 14 rfl rfl
theorem q1_15 : (Cond.instanceMethod ⟨"java/lang/Object", "<init>", "()V"⟩) ∈ gtb := gtb_1 15 rfl rfl
theorem q1_16 : (Cond.code ⟨"java/lang/Object", "<init>", "()V"⟩ object_method_1_code 1 (Option.none : Option FieldType)) ∈ gtb := gtb_1 16 rfl rfl
theorem q1_17 : (Cond.classLink "GameTables" 7 "GameTables$Player") ∈ gtb := gtb_1 17 rfl rfl
theorem q1_18 : (Cond.instantiable "GameTables$Player" 5) ∈ gtb := gtb_1 18 rfl rfl
theorem qn1_19 : (Cond.methodLinkNest "GameTables" 9 ⟨"GameTables$Player", "<init>", "()V"⟩ "GameTables") ∈ tables_1 := gtn_1 19 rfl
theorem q1_20 : (Cond.instanceMethod ⟨"GameTables$Player", "<init>", "()V"⟩) ∈ gtb := gtb_1 20 rfl rfl
theorem q1_21 : (Cond.code ⟨"GameTables$Player", "<init>", "()V"⟩ prog_5_method_1_code 1 (Option.none : Option FieldType)) ∈ gtb := gtb_1 21 rfl rfl
theorem q1_22 : (Cond.methodLink "GameTables$Player" 3 ⟨"java/lang/Object", "<init>", "()V"⟩) ∈ gtb := gtb_1 22 rfl rfl
theorem q1_23 : (Cond.classLink "GameTables$Player" 15 "GameTables$Corners") ∈ gtb := gtb_1 23 rfl rfl
theorem q1_24 : (Cond.instantiable "GameTables$Corners" 4) ∈ gtb := gtb_1 24 rfl rfl
theorem qn1_25 : (Cond.methodLinkNest "GameTables$Player" 17 ⟨"GameTables$Corners", "<init>", "()V"⟩ "GameTables") ∈ tables_1 := gtn_1 25 rfl
theorem q1_26 : (Cond.instanceMethod ⟨"GameTables$Corners", "<init>", "()V"⟩) ∈ gtb := gtb_1 26 rfl rfl
theorem q1_27 : (Cond.code ⟨"GameTables$Corners", "<init>", "()V"⟩ prog_2_method_1_code 1 (Option.none : Option FieldType)) ∈ gtb := gtb_1 27 rfl rfl
theorem q1_28 : (Cond.methodLink "GameTables$Corners" 3 ⟨"java/lang/Object", "<init>", "()V"⟩) ∈ gtb := gtb_1 28 rfl rfl
theorem q1_29 : (Cond.classLink "GameTables$Corners" 9 "GameTables$Mix") ∈ gtb := gtb_1 29 rfl rfl
theorem qn1_30 : (Cond.arrayOver (FieldType.object "GameTables$Mix")) ∈ tables_1 := gtn_1 30 rfl
theorem q1_31 : (Cond.instantiable "GameTables$Mix" 4) ∈ gtb := gtb_1 31 rfl rfl
theorem qn1_32 : (Cond.methodLinkNest "GameTables$Corners" 17 ⟨"GameTables$Mix", "<init>", "()V"⟩ "GameTables") ∈ tables_1 := gtn_1 32 rfl
theorem q1_33 : (Cond.instanceMethod ⟨"GameTables$Mix", "<init>", "()V"⟩) ∈ gtb := gtb_1 33 rfl rfl
theorem q1_34 : (Cond.code ⟨"GameTables$Mix", "<init>", "()V"⟩ prog_4_method_1_code 1 (Option.none : Option FieldType)) ∈ gtb := gtb_1 34 rfl rfl
theorem q1_35 : (Cond.methodLink "GameTables$Mix" 3 ⟨"java/lang/Object", "<init>", "()V"⟩) ∈ gtb := gtb_1 35 rfl rfl
theorem q1_36 : (Cond.fieldLink "GameTables$Mix" 9 "GameTables$Mix" "parts" "[J") ∈ gtb := gtb_1 36 rfl rfl
theorem q1_37 : (Cond.fieldLink "GameTables$Player" 36 "GameTables$Mix" "parts" "[J") ∈ gtb := gtb_1 37 rfl rfl
theorem q1_38 : (Cond.fieldLink "GameTables$Corners" 93 "GameTables$Mix" "parts" "[J") ∈ gtb := gtb_1 38 rfl rfl
theorem q1_39 : (Cond.fieldLink "GameTables" 144 "GameTables$Mix" "parts" "[J") ∈ gtb := gtb_1 39 rfl rfl
theorem q1_40 : (Cond.fieldLink "GameTables$Mix" 15 "GameTables$Mix" "total" "J") ∈ gtb := gtb_1 40 rfl rfl
theorem q1_41 : (Cond.fieldLink "GameTables$Player" 43 "GameTables$Mix" "total" "J") ∈ gtb := gtb_1 41 rfl rfl
theorem q1_42 : (Cond.fieldLink "GameTables" 148 "GameTables$Mix" "total" "J") ∈ gtb := gtb_1 42 rfl rfl
theorem q1_43 : (Cond.fieldLink "GameTables$Mix" 19 "GameTables$Mix" "used" "I") ∈ gtb := gtb_1 43 rfl rfl
theorem q1_44 : (Cond.fieldLink "GameTables" 90 "GameTables$Mix" "used" "I") ∈ gtb := gtb_1 44 rfl rfl
theorem q1_45 : (Cond.fieldLink "GameTables$Mix" 23 "GameTables$Mix" "answerBits" "I") ∈ gtb := gtb_1 45 rfl rfl
theorem q1_46 : (Cond.fieldLink "GameTables$Corners" 72 "GameTables$Mix" "answerBits" "I") ∈ gtb := gtb_1 46 rfl rfl
theorem q1_47 : (Cond.fieldLink "GameTables" 80 "GameTables$Mix" "answerBits" "I") ∈ gtb := gtb_1 47 rfl rfl
theorem q1_48 : (Cond.fieldLink "GameTables$Player" 51 "GameTables$Mix" "answerBits" "I") ∈ gtb := gtb_1 48 rfl rfl
theorem q1_49 : (Cond.laysFinal "GameTables$Mix" "GameTables$Mix" "parts" "[J") ∈ gtb := gtb_1 49 rfl rfl
theorem q1_51 : (Cond.lays "GameTables$Mix" "GameTables$Mix" "total" "J") ∈ gtb := gtb_1 51 rfl rfl
theorem q1_53 : (Cond.lays "GameTables$Mix" "GameTables$Mix" "used" "I") ∈ gtb := gtb_1 53 rfl rfl
theorem q1_55 : (Cond.lays "GameTables$Mix" "GameTables$Mix" "answerBits" "I") ∈ gtb := gtb_1 55 rfl rfl
theorem q1_58 : (Cond.arrayClass FieldType.long) ∈ gtb := gtb_1 58 rfl rfl
theorem q1_59 : (Cond.classLink "GameTables$Corners" 22 "[[J") ∈ gtb := gtb_1 59 rfl rfl
theorem qn1_60 : (Cond.arrayOver (FieldType.array FieldType.long)) ∈ tables_1 := gtn_1 60 rfl
theorem q1_61 : (Cond.fieldLink "GameTables$Corners" 27 "GameTables$Corners" "count" "I") ∈ gtb := gtb_1 61 rfl rfl
theorem q1_62 : (Cond.fieldLink "GameTables" 136 "GameTables$Corners" "count" "I") ∈ gtb := gtb_1 62 rfl rfl
theorem q1_63 : (Cond.fieldLink "GameTables$Corners" 11 "GameTables$Corners" "places" "[LGameTables$Mix;") ∈ gtb := gtb_1 63 rfl rfl
theorem q1_64 : (Cond.fieldLink "GameTables$Corners" 18 "GameTables$Corners" "spare" "LGameTables$Mix;") ∈ gtb := gtb_1 64 rfl rfl
theorem q1_65 : (Cond.fieldLink "GameTables$Corners" 24 "GameTables$Corners" "gaps" "[[J") ∈ gtb := gtb_1 65 rfl rfl
theorem q1_66 : (Cond.lays "GameTables$Corners" "GameTables$Corners" "count" "I") ∈ gtb := gtb_1 66 rfl rfl
theorem q1_68 : (Cond.laysFinal "GameTables$Corners" "GameTables$Corners" "places" "[LGameTables$Mix;") ∈ gtb := gtb_1 68 rfl rfl
theorem q1_70 : (Cond.lays "GameTables$Corners" "GameTables$Corners" "spare" "LGameTables$Mix;") ∈ gtb := gtb_1 70 rfl rfl
theorem q1_72 : (Cond.laysFinal "GameTables$Corners" "GameTables$Corners" "gaps" "[[J") ∈ gtb := gtb_1 72 rfl rfl
theorem q1_75 : (Cond.classLink "GameTables$Player" 29 "GameTables$Mix") ∈ gtb := gtb_1 75 rfl rfl
theorem qn1_76 : (Cond.methodLinkNest "GameTables$Player" 31 ⟨"GameTables$Mix", "<init>", "()V"⟩ "GameTables") ∈ tables_1 := gtn_1 76 rfl
theorem q1_77 : (Cond.fieldLink "GameTables$Player" 9 "GameTables$Player" "choices" "I") ∈ gtb := gtb_1 77 rfl rfl
theorem q1_78 : (Cond.fieldLink "GameTables" 120 "GameTables$Player" "choices" "I") ∈ gtb := gtb_1 78 rfl rfl
theorem q1_79 : (Cond.fieldLink "GameTables$Player" 18 "GameTables$Player" "ownCorners" "LGameTables$Corners;") ∈ gtb := gtb_1 79 rfl rfl
theorem q1_80 : (Cond.fieldLink "GameTables" 132 "GameTables$Player" "ownCorners" "LGameTables$Corners;") ∈ gtb := gtb_1 80 rfl rfl
theorem q1_81 : (Cond.fieldLink "GameTables$Player" 22 "GameTables$Player" "pays" "[I") ∈ gtb := gtb_1 81 rfl rfl
theorem q1_82 : (Cond.fieldLink "GameTables$Player" 26 "GameTables$Player" "weights" "[I") ∈ gtb := gtb_1 82 rfl rfl
theorem q1_83 : (Cond.fieldLink "GameTables$Player" 32 "GameTables$Player" "tray" "LGameTables$Mix;") ∈ gtb := gtb_1 83 rfl rfl
theorem q1_84 : (Cond.lays "GameTables$Player" "GameTables$Player" "choices" "I") ∈ gtb := gtb_1 84 rfl rfl
theorem q1_86 : (Cond.laysFinal "GameTables$Player" "GameTables$Player" "ownCorners" "LGameTables$Corners;") ∈ gtb := gtb_1 86 rfl rfl
theorem q1_88 : (Cond.laysFinal "GameTables$Player" "GameTables$Player" "pays" "[I") ∈ gtb := gtb_1 88 rfl rfl
theorem q1_90 : (Cond.laysFinal "GameTables$Player" "GameTables$Player" "weights" "[I") ∈ gtb := gtb_1 90 rfl rfl
theorem q1_92 : (Cond.laysFinal "GameTables$Player" "GameTables$Player" "tray" "LGameTables$Mix;") ∈ gtb := gtb_1 92 rfl rfl
theorem q1_95 : (Cond.arrayClass FieldType.int) ∈ gtb := gtb_1 95 rfl rfl
theorem q1_96 : (Cond.classLink "GameTables" 19 "GameTables$Dropping") ∈ gtb := gtb_1 96 rfl rfl
theorem q1_97 : (Cond.instantiable "GameTables$Dropping" 3) ∈ gtb := gtb_1 97 rfl rfl
theorem qn1_98 : (Cond.methodLinkNest "GameTables" 21 ⟨"GameTables$Dropping", "<init>", "()V"⟩ "GameTables") ∈ tables_1 := gtn_1 98 rfl
theorem q1_99 : (Cond.instanceMethod ⟨"GameTables$Dropping", "<init>", "()V"⟩) ∈ gtb := gtb_1 99 rfl rfl
theorem q1_100 : (Cond.code ⟨"GameTables$Dropping", "<init>", "()V"⟩ prog_3_method_1_code 1 (Option.none : Option FieldType)) ∈ gtb := gtb_1 100 rfl rfl
theorem q1_101 : (Cond.methodLink "GameTables$Dropping" 3 ⟨"java/lang/Object", "<init>", "()V"⟩) ∈ gtb := gtb_1 101 rfl rfl
theorem q1_102 : (Cond.fieldLink "GameTables$Dropping" 15 "GameTables$Dropping" "rowsLeft" "I") ∈ gtb := gtb_1 102 rfl rfl
theorem q1_103 : (Cond.fieldLink "GameTables" 111 "GameTables$Dropping" "rowsLeft" "I") ∈ gtb := gtb_1 103 rfl rfl
theorem q1_104 : (Cond.fieldLink "GameTables$Dropping" 21 "GameTables$Dropping" "columnsLeft" "I") ∈ gtb := gtb_1 104 rfl rfl
theorem q1_105 : (Cond.fieldLink "GameTables" 114 "GameTables$Dropping" "columnsLeft" "I") ∈ gtb := gtb_1 105 rfl rfl
theorem q1_106 : (Cond.fieldLink "GameTables$Dropping" 24 "GameTables$Dropping" "rounds" "I") ∈ gtb := gtb_1 106 rfl rfl
theorem q1_107 : (Cond.fieldLink "GameTables" 117 "GameTables$Dropping" "rounds" "I") ∈ gtb := gtb_1 107 rfl rfl
theorem q1_108 : (Cond.lays "GameTables$Dropping" "GameTables$Dropping" "rowsLeft" "I") ∈ gtb := gtb_1 108 rfl rfl
theorem q1_110 : (Cond.lays "GameTables$Dropping" "GameTables$Dropping" "columnsLeft" "I") ∈ gtb := gtb_1 110 rfl rfl
theorem q1_112 : (Cond.lays "GameTables$Dropping" "GameTables$Dropping" "rounds" "I") ∈ gtb := gtb_1 112 rfl rfl
theorem q1_115 : (Cond.fieldLink "GameTables" 10 "GameTables" "row" "LGameTables$Player;") ∈ gtb := gtb_1 115 rfl rfl
theorem q1_116 : (Cond.fieldLink "GameTables" 16 "GameTables" "column" "LGameTables$Player;") ∈ gtb := gtb_1 116 rfl rfl
theorem q1_117 : (Cond.fieldLink "GameTables" 22 "GameTables" "dropping" "LGameTables$Dropping;") ∈ gtb := gtb_1 117 rfl rfl
theorem q1_118 : (Cond.fieldLink "GameTables" 26 "GameTables" "refusals" "[I") ∈ gtb := gtb_1 118 rfl rfl
theorem q1_119 : (Cond.fieldLink "GameTables" 30 "GameTables" "cornersKnown" "Z") ∈ gtb := gtb_1 119 rfl rfl
theorem q1_120 : (Cond.lays "GameTables" "GameTables" "row" "LGameTables$Player;") ∈ gtb := gtb_1 120 rfl rfl
theorem q1_122 : (Cond.lays "GameTables" "GameTables" "column" "LGameTables$Player;") ∈ gtb := gtb_1 122 rfl rfl
theorem q1_124 : (Cond.laysFinal "GameTables" "GameTables" "dropping" "LGameTables$Dropping;") ∈ gtb := gtb_1 124 rfl rfl
theorem q1_126 : (Cond.laysFinal "GameTables" "GameTables" "refusals" "[I") ∈ gtb := gtb_1 126 rfl rfl
theorem q1_128 : (Cond.lays "GameTables" "GameTables" "cornersKnown" "Z") ∈ gtb := gtb_1 128 rfl rfl
theorem q1_131 : (Cond.methodLink "GameTablesLaw" 13 ⟨"GameTables", "game", "(II)I"⟩) ∈ gtb := gtb_1 131 rfl rfl
theorem q1_132 : (Cond.instanceMethod ⟨"GameTables", "game", "(II)I"⟩) ∈ gtb := gtb_1 132 rfl rfl
theorem q1_133 : (Cond.selects "GameTables" ⟨"GameTables", "game", "(II)I"⟩ ⟨"GameTables", "game", "(II)I"⟩) ∈ gtb := gtb_1 133 rfl rfl
theorem q1_134 : (Cond.code ⟨"GameTables", "game", "(II)I"⟩ prog_1_method_2_code 3 (Option.some FieldType.int)) ∈ gtb := gtb_1 134 rfl rfl
theorem q1_135 : (Cond.methodLink "GameTables" 34 ⟨"GameTables", "refuse", "(I)I"⟩) ∈ gtb := gtb_1 135 rfl rfl
theorem q1_137 : (Cond.instanceMethod ⟨"GameTables", "refuse", "(I)I"⟩) ∈ gtb := gtb_1 137 rfl rfl
theorem q1_138 : (Cond.code ⟨"GameTables", "refuse", "(I)I"⟩ prog_1_method_25_code 2 (Option.some FieldType.int)) ∈ gtb := gtb_1 138 rfl rfl
theorem q1_139 : (Cond.methodLink "GameTables" 38 ⟨"GameTables$Player", "startAnew", "(I)V"⟩) ∈ gtb := gtb_1 139 rfl rfl
theorem q1_140 : (Cond.instanceMethod ⟨"GameTables$Player", "startAnew", "(I)V"⟩) ∈ gtb := gtb_1 140 rfl rfl
theorem q1_141 : (Cond.selects "GameTables$Player" ⟨"GameTables$Player", "startAnew", "(I)V"⟩ ⟨"GameTables$Player", "startAnew", "(I)V"⟩) ∈ gtb := gtb_1 141 rfl rfl
theorem q1_142 : (Cond.code ⟨"GameTables$Player", "startAnew", "(I)V"⟩ prog_5_method_2_code 3 (Option.none : Option FieldType)) ∈ gtb := gtb_1 142 rfl rfl
theorem q1_143 : (Cond.methodLink "GameTablesLaw" 18 ⟨"GameTables", "pay", "(IIII)I"⟩) ∈ gtb := gtb_1 143 rfl rfl
theorem q1_144 : (Cond.instanceMethod ⟨"GameTables", "pay", "(IIII)I"⟩) ∈ gtb := gtb_1 144 rfl rfl
theorem q1_145 : (Cond.selects "GameTables" ⟨"GameTables", "pay", "(IIII)I"⟩ ⟨"GameTables", "pay", "(IIII)I"⟩) ∈ gtb := gtb_1 145 rfl rfl
theorem q1_146 : (Cond.code ⟨"GameTables", "pay", "(IIII)I"⟩ prog_1_method_3_code 8 (Option.some FieldType.int)) ∈ gtb := gtb_1 146 rfl rfl
theorem q1_147 : (Cond.methodLink "GameTables" 42 ⟨"GameTables", "isPlace", "(III)Z"⟩) ∈ gtb := gtb_1 147 rfl rfl
theorem q1_149 : (Cond.instanceMethod ⟨"GameTables", "isPlace", "(III)Z"⟩) ∈ gtb := gtb_1 149 rfl rfl
theorem q1_150 : (Cond.code ⟨"GameTables", "isPlace", "(III)Z"⟩ prog_1_method_29_code 4 (Option.some FieldType.boolean)) ∈ gtb := gtb_1 150 rfl rfl
theorem q1_151 : (Cond.methodLink "GameTables" 61 ⟨"GameTables", "isWho", "(I)Z"⟩) ∈ gtb := gtb_1 151 rfl rfl
theorem q1_152 : (Cond.static ⟨"GameTables", "isWho", "(I)Z"⟩) ∈ gtb := gtb_1 152 rfl rfl
theorem q1_153 : (Cond.code ⟨"GameTables", "isWho", "(I)Z"⟩ prog_1_method_28_code 1 (Option.some FieldType.boolean)) ∈ gtb := gtb_1 153 rfl rfl
theorem q1_154 : (Cond.methodLink "GameTables" 96 ⟨"GameTables$Player", "hasChoice", "(I)Z"⟩) ∈ gtb := gtb_1 154 rfl rfl
theorem q1_155 : (Cond.instanceMethod ⟨"GameTables$Player", "hasChoice", "(I)Z"⟩) ∈ gtb := gtb_1 155 rfl rfl
theorem q1_156 : (Cond.selects "GameTables$Player" ⟨"GameTables$Player", "hasChoice", "(I)Z"⟩ ⟨"GameTables$Player", "hasChoice", "(I)Z"⟩) ∈ gtb := gtb_1 156 rfl rfl
theorem q1_157 : (Cond.code ⟨"GameTables$Player", "hasChoice", "(I)Z"⟩ prog_5_method_3_code 2 (Option.some FieldType.boolean)) ∈ gtb := gtb_1 157 rfl rfl
theorem q1_158 : (Cond.methodLink "GameTables" 46 ⟨"GameTables", "refuseAmongPays", "(I)I"⟩) ∈ gtb := gtb_1 158 rfl rfl
theorem q1_160 : (Cond.instanceMethod ⟨"GameTables", "refuseAmongPays", "(I)I"⟩) ∈ gtb := gtb_1 160 rfl rfl
theorem q1_161 : (Cond.code ⟨"GameTables", "refuseAmongPays", "(I)I"⟩ prog_1_method_26_code 2 (Option.some FieldType.int)) ∈ gtb := gtb_1 161 rfl rfl
theorem q1_162 : (Cond.constant "GameTables" 200 (1000000000 : Int32)) ∈ gtb := gtb_1 162 rfl rfl
theorem q1_163 : (Cond.methodLink "GameTables" 49 ⟨"GameTables", "player", "(I)LGameTables$Player;"⟩) ∈ gtb := gtb_1 163 rfl rfl
theorem q1_165 : (Cond.instanceMethod ⟨"GameTables", "player", "(I)LGameTables$Player;"⟩) ∈ gtb := gtb_1 165 rfl rfl
theorem q1_166 : (Cond.code ⟨"GameTables", "player", "(I)LGameTables$Player;"⟩ prog_1_method_30_code 2 (Option.some (FieldType.object "GameTables$Player"))) ∈ gtb := gtb_1 166 rfl rfl
theorem q1_167 : (Cond.methodLink "GameTables" 53 ⟨"GameTables$Player", "payFor", "(II)I"⟩) ∈ gtb := gtb_1 167 rfl rfl
theorem q1_168 : (Cond.instanceMethod ⟨"GameTables$Player", "payFor", "(II)I"⟩) ∈ gtb := gtb_1 168 rfl rfl
theorem q1_169 : (Cond.selects "GameTables$Player" ⟨"GameTables$Player", "payFor", "(II)I"⟩ ⟨"GameTables$Player", "payFor", "(II)I"⟩) ∈ gtb := gtb_1 169 rfl rfl
theorem q1_170 : (Cond.code ⟨"GameTables$Player", "payFor", "(II)I"⟩ prog_5_method_5_code 3 (Option.some FieldType.int)) ∈ gtb := gtb_1 170 rfl rfl
theorem q1_171 : (Cond.methodLink "GameTables" 57 ⟨"GameTables$Player", "setPay", "(III)V"⟩) ∈ gtb := gtb_1 171 rfl rfl
theorem q1_172 : (Cond.instanceMethod ⟨"GameTables$Player", "setPay", "(III)V"⟩) ∈ gtb := gtb_1 172 rfl rfl
theorem q1_173 : (Cond.selects "GameTables$Player" ⟨"GameTables$Player", "setPay", "(III)V"⟩ ⟨"GameTables$Player", "setPay", "(III)V"⟩) ∈ gtb := gtb_1 173 rfl rfl
theorem q1_174 : (Cond.code ⟨"GameTables$Player", "setPay", "(III)V"⟩ prog_5_method_6_code 4 (Option.none : Option FieldType)) ∈ gtb := gtb_1 174 rfl rfl
theorem q1_175 : (Cond.methodLink "GameTablesLaw" 23 ⟨"GameTables", "paid", "(III)I"⟩) ∈ gtb := gtb_1 175 rfl rfl
theorem q1_176 : (Cond.instanceMethod ⟨"GameTables", "paid", "(III)I"⟩) ∈ gtb := gtb_1 176 rfl rfl
theorem q1_177 : (Cond.selects "GameTables" ⟨"GameTables", "paid", "(III)I"⟩ ⟨"GameTables", "paid", "(III)I"⟩) ∈ gtb := gtb_1 177 rfl rfl
theorem q1_178 : (Cond.code ⟨"GameTables", "paid", "(III)I"⟩ prog_1_method_4_code 4 (Option.some FieldType.int)) ∈ gtb := gtb_1 178 rfl rfl
theorem q1_179 : (Cond.methodLink "GameTablesLaw" 28 ⟨"GameTables", "weight", "(III)I"⟩) ∈ gtb := gtb_1 179 rfl rfl
theorem q1_180 : (Cond.instanceMethod ⟨"GameTables", "weight", "(III)I"⟩) ∈ gtb := gtb_1 180 rfl rfl
theorem q1_181 : (Cond.selects "GameTables" ⟨"GameTables", "weight", "(III)I"⟩ ⟨"GameTables", "weight", "(III)I"⟩) ∈ gtb := gtb_1 181 rfl rfl
theorem q1_182 : (Cond.code ⟨"GameTables", "weight", "(III)I"⟩ prog_1_method_5_code 4 (Option.some FieldType.int)) ∈ gtb := gtb_1 182 rfl rfl
theorem q1_183 : (Cond.methodLink "GameTables" 65 ⟨"GameTables$Player", "changeWeight", "(II)I"⟩) ∈ gtb := gtb_1 183 rfl rfl
theorem q1_184 : (Cond.instanceMethod ⟨"GameTables$Player", "changeWeight", "(II)I"⟩) ∈ gtb := gtb_1 184 rfl rfl
theorem q1_185 : (Cond.selects "GameTables$Player" ⟨"GameTables$Player", "changeWeight", "(II)I"⟩ ⟨"GameTables$Player", "changeWeight", "(II)I"⟩) ∈ gtb := gtb_1 185 rfl rfl
theorem q1_186 : (Cond.code ⟨"GameTables$Player", "changeWeight", "(II)I"⟩ prog_5_method_7_code 4 (Option.some FieldType.int)) ∈ gtb := gtb_1 186 rfl rfl
theorem q1_187 : (Cond.methodLink "GameTablesLaw" 32 ⟨"GameTables", "mean", "(II)J"⟩) ∈ gtb := gtb_1 187 rfl rfl
theorem q1_188 : (Cond.instanceMethod ⟨"GameTables", "mean", "(II)J"⟩) ∈ gtb := gtb_1 188 rfl rfl
theorem q1_189 : (Cond.selects "GameTables" ⟨"GameTables", "mean", "(II)J"⟩ ⟨"GameTables", "mean", "(II)J"⟩) ∈ gtb := gtb_1 189 rfl rfl
theorem q1_190 : (Cond.code ⟨"GameTables", "mean", "(II)J"⟩ prog_1_method_6_code 5 (Option.some FieldType.long)) ∈ gtb := gtb_1 190 rfl rfl
theorem q1_191 : (Cond.methodLink "GameTables" 68 ⟨"GameTables", "refuseAmongLongs", "(I)J"⟩) ∈ gtb := gtb_1 191 rfl rfl
theorem q1_193 : (Cond.instanceMethod ⟨"GameTables", "refuseAmongLongs", "(I)J"⟩) ∈ gtb := gtb_1 193 rfl rfl
theorem q1_194 : (Cond.code ⟨"GameTables", "refuseAmongLongs", "(I)J"⟩ prog_1_method_27_code 2 (Option.some FieldType.long)) ∈ gtb := gtb_1 194 rfl rfl
theorem q1_195 : (Cond.constantLong "GameTables" 201 (4000000000000000000 : Int64)) ∈ gtb := gtb_1 195 rfl rfl
theorem q1_196 : (Cond.methodLink "GameTables" 72 ⟨"GameTables", "trayOf", "(I)LGameTables$Mix;"⟩) ∈ gtb := gtb_1 196 rfl rfl
theorem q1_198 : (Cond.instanceMethod ⟨"GameTables", "trayOf", "(I)LGameTables$Mix;"⟩) ∈ gtb := gtb_1 198 rfl rfl
theorem q1_199 : (Cond.code ⟨"GameTables", "trayOf", "(I)LGameTables$Mix;"⟩ prog_1_method_31_code 2 (Option.some (FieldType.object "GameTables$Mix"))) ∈ gtb := gtb_1 199 rfl rfl
theorem q1_200 : (Cond.methodLink "GameTables" 203 ⟨"GameTables$Player", "trayMix", "(LGameTables$Player;)LGameTables$Mix;"⟩) ∈ gtb := gtb_1 200 rfl rfl
theorem q1_201 : (Cond.instanceMethod ⟨"GameTables$Player", "trayMix", "(LGameTables$Player;)LGameTables$Mix;"⟩) ∈ gtb := gtb_1 201 rfl rfl
theorem q1_202 : (Cond.selects "GameTables$Player" ⟨"GameTables$Player", "trayMix", "(LGameTables$Player;)LGameTables$Mix;"⟩ ⟨"GameTables$Player", "trayMix", "(LGameTables$Player;)LGameTables$Mix;"⟩) ∈ gtb := gtb_1 202 rfl rfl
theorem q1_203 : (Cond.code ⟨"GameTables$Player", "trayMix", "(LGameTables$Player;)LGameTables$Mix;"⟩ prog_5_method_8_code 3 (Option.some (FieldType.object "GameTables$Mix"))) ∈ gtb := gtb_1 203 rfl rfl
theorem q1_204 : (Cond.methodLink "GameTables$Player" 40 ⟨"GameTables$Mix", "sumUp", "()V"⟩) ∈ gtb := gtb_1 204 rfl rfl
theorem q1_205 : (Cond.instanceMethod ⟨"GameTables$Mix", "sumUp", "()V"⟩) ∈ gtb := gtb_1 205 rfl rfl
theorem q1_206 : (Cond.selects "GameTables$Mix" ⟨"GameTables$Mix", "sumUp", "()V"⟩ ⟨"GameTables$Mix", "sumUp", "()V"⟩) ∈ gtb := gtb_1 206 rfl rfl
theorem q1_207 : (Cond.code ⟨"GameTables$Mix", "sumUp", "()V"⟩ prog_4_method_2_code 2 (Option.none : Option FieldType)) ∈ gtb := gtb_1 207 rfl rfl
theorem q1_208 : (Cond.methodLink "GameTables$Player" 47 ⟨"GameTables$Player", "answersTo", "(LGameTables$Mix;)I"⟩) ∈ gtb := gtb_1 208 rfl rfl
theorem q1_209 : (Cond.instanceMethod ⟨"GameTables$Player", "answersTo", "(LGameTables$Mix;)I"⟩) ∈ gtb := gtb_1 209 rfl rfl
theorem q1_210 : (Cond.selects "GameTables$Player" ⟨"GameTables$Player", "answersTo", "(LGameTables$Mix;)I"⟩ ⟨"GameTables$Player", "answersTo", "(LGameTables$Mix;)I"⟩) ∈ gtb := gtb_1 210 rfl rfl
theorem q1_211 : (Cond.code ⟨"GameTables$Player", "answersTo", "(LGameTables$Mix;)I"⟩ prog_5_method_10_code 8 (Option.some FieldType.int)) ∈ gtb := gtb_1 211 rfl rfl
theorem q1_212 : (Cond.methodLink "GameTables$Player" 58 ⟨"GameTables$Player", "worthOf", "(ILGameTables$Mix;)J"⟩) ∈ gtb := gtb_1 212 rfl rfl
theorem q1_214 : (Cond.instanceMethod ⟨"GameTables$Player", "worthOf", "(ILGameTables$Mix;)J"⟩) ∈ gtb := gtb_1 214 rfl rfl
theorem q1_215 : (Cond.code ⟨"GameTables$Player", "worthOf", "(ILGameTables$Mix;)J"⟩ prog_5_method_9_code 6 (Option.some FieldType.long)) ∈ gtb := gtb_1 215 rfl rfl
theorem q1_216 : (Cond.methodLink "GameTables$Player" 54 ⟨"GameTables$Player", "payFor", "(II)I"⟩) ∈ gtb := gtb_1 216 rfl rfl
theorem q1_217 : (Cond.methodLink "GameTables" 76 ⟨"GameTables$Player", "meanPart", "(LGameTables$Mix;LGameTables$Mix;I)J"⟩) ∈ gtb := gtb_1 217 rfl rfl
theorem q1_218 : (Cond.instanceMethod ⟨"GameTables$Player", "meanPart", "(LGameTables$Mix;LGameTables$Mix;I)J"⟩) ∈ gtb := gtb_1 218 rfl rfl
theorem q1_219 : (Cond.selects "GameTables$Player" ⟨"GameTables$Player", "meanPart", "(LGameTables$Mix;LGameTables$Mix;I)J"⟩ ⟨"GameTables$Player", "meanPart", "(LGameTables$Mix;LGameTables$Mix;I)J"⟩) ∈ gtb := gtb_1 219 rfl rfl
theorem q1_220 : (Cond.code ⟨"GameTables$Player", "meanPart", "(LGameTables$Mix;LGameTables$Mix;I)J"⟩ prog_5_method_11_code 7 (Option.some FieldType.long)) ∈ gtb := gtb_1 220 rfl rfl
theorem qn1_221 : (Cond.methodLinkNest "GameTables$Player" 62 ⟨"GameTables", "lowest", "(JJI)J"⟩ "GameTables") ∈ tables_1 := gtn_1 221 rfl
theorem q1_222 : (Cond.static ⟨"GameTables", "lowest", "(JJI)J"⟩) ∈ gtb := gtb_1 222 rfl rfl
theorem q1_223 : (Cond.code ⟨"GameTables", "lowest", "(JJI)J"⟩ prog_1_method_39_code 7 (Option.some FieldType.long)) ∈ gtb := gtb_1 223 rfl rfl
theorem q1_224 : (Cond.methodLink "GameTables" 224 ⟨"java/lang/Math", "abs", "(J)J"⟩) ∈ gtb := gtb_1 224 rfl rfl
theorem q1_225 : (Cond.static ⟨"java/lang/Math", "abs", "(J)J"⟩) ∈ gtb := gtb_1 225 rfl rfl
theorem q1_226 : (Cond.code ⟨"java/lang/Math", "abs", "(J)J"⟩ prog_9_method_61_code 2 (Option.some FieldType.long)) ∈ gtb := gtb_1 226 rfl rfl
theorem q1_227 : (Cond.methodLink "GameTables" 230 ⟨"GameTables", "commonFactor", "(JJ)J"⟩) ∈ gtb := gtb_1 227 rfl rfl
theorem q1_228 : (Cond.static ⟨"GameTables", "commonFactor", "(JJ)J"⟩) ∈ gtb := gtb_1 228 rfl rfl
theorem q1_229 : (Cond.code ⟨"GameTables", "commonFactor", "(JJ)J"⟩ prog_1_method_40_code 11 (Option.some FieldType.long)) ∈ gtb := gtb_1 229 rfl rfl
theorem q1_230 : (Cond.methodLink "GameTablesLaw" 37 ⟨"GameTables", "answers", "(I)I"⟩) ∈ gtb := gtb_1 230 rfl rfl
theorem q1_231 : (Cond.instanceMethod ⟨"GameTables", "answers", "(I)I"⟩) ∈ gtb := gtb_1 231 rfl rfl
theorem q1_232 : (Cond.selects "GameTables" ⟨"GameTables", "answers", "(I)I"⟩ ⟨"GameTables", "answers", "(I)I"⟩) ∈ gtb := gtb_1 232 rfl rfl
theorem q1_233 : (Cond.code ⟨"GameTables", "answers", "(I)I"⟩ prog_1_method_7_code 3 (Option.some FieldType.int)) ∈ gtb := gtb_1 233 rfl rfl
theorem q1_234 : (Cond.methodLink "GameTablesLaw" 42 ⟨"GameTables", "is", "()I"⟩) ∈ gtb := gtb_1 234 rfl rfl
theorem q1_235 : (Cond.instanceMethod ⟨"GameTables", "is", "()I"⟩) ∈ gtb := gtb_1 235 rfl rfl
theorem q1_236 : (Cond.selects "GameTables" ⟨"GameTables", "is", "()I"⟩ ⟨"GameTables", "is", "()I"⟩) ∈ gtb := gtb_1 236 rfl rfl
theorem q1_237 : (Cond.code ⟨"GameTables", "is", "()I"⟩ prog_1_method_8_code 3 (Option.some FieldType.int)) ∈ gtb := gtb_1 237 rfl rfl
theorem q1_238 : (Cond.methodLink "GameTables" 86 ⟨"GameTables$Mix", "fits", "(LGameTables$Mix;)Z"⟩) ∈ gtb := gtb_1 238 rfl rfl
theorem q1_239 : (Cond.instanceMethod ⟨"GameTables$Mix", "fits", "(LGameTables$Mix;)Z"⟩) ∈ gtb := gtb_1 239 rfl rfl
theorem q2_0 : (Cond.selects "GameTables$Mix" ⟨"GameTables$Mix", "fits", "(LGameTables$Mix;)Z"⟩ ⟨"GameTables$Mix", "fits", "(LGameTables$Mix;)Z"⟩) ∈ gtb := gtb_2 0 rfl rfl
theorem q2_1 : (Cond.code ⟨"GameTables$Mix", "fits", "(LGameTables$Mix;)Z"⟩ prog_4_method_4_code 2 (Option.some FieldType.boolean)) ∈ gtb := gtb_2 1 rfl rfl
theorem q2_2 : (Cond.methodLink "GameTablesLaw" 47 ⟨"GameTables", "why", "()I"⟩) ∈ gtb := gtb_2 2 rfl rfl
theorem q2_3 : (Cond.instanceMethod ⟨"GameTables", "why", "()I"⟩) ∈ gtb := gtb_2 3 rfl rfl
theorem q2_4 : (Cond.selects "GameTables" ⟨"GameTables", "why", "()I"⟩ ⟨"GameTables", "why", "()I"⟩) ∈ gtb := gtb_2 4 rfl rfl
theorem q2_5 : (Cond.code ⟨"GameTables", "why", "()I"⟩ prog_1_method_9_code 5 (Option.some FieldType.int)) ∈ gtb := gtb_2 5 rfl rfl
theorem q2_6 : (Cond.methodLink "GameTables" 93 ⟨"GameTables", "firstOf", "(I)I"⟩) ∈ gtb := gtb_2 6 rfl rfl
theorem q2_7 : (Cond.static ⟨"GameTables", "firstOf", "(I)I"⟩) ∈ gtb := gtb_2 7 rfl rfl
theorem q2_8 : (Cond.code ⟨"GameTables", "firstOf", "(I)I"⟩ prog_1_method_38_code 2 (Option.some FieldType.int)) ∈ gtb := gtb_2 8 rfl rfl
theorem q2_9 : (Cond.methodLink "GameTables" 220 ⟨"GameTables", "hasBit", "(II)Z"⟩) ∈ gtb := gtb_2 9 rfl rfl
theorem q2_10 : (Cond.static ⟨"GameTables", "hasBit", "(II)Z"⟩) ∈ gtb := gtb_2 10 rfl rfl
theorem q2_11 : (Cond.code ⟨"GameTables", "hasBit", "(II)Z"⟩ prog_1_method_37_code 2 (Option.some FieldType.boolean)) ∈ gtb := gtb_2 11 rfl rfl
theorem q2_12 : (Cond.methodLink "GameTablesLaw" 51 ⟨"GameTables", "worse", "(II)I"⟩) ∈ gtb := gtb_2 12 rfl rfl
theorem q2_13 : (Cond.instanceMethod ⟨"GameTables", "worse", "(II)I"⟩) ∈ gtb := gtb_2 13 rfl rfl
theorem q2_14 : (Cond.selects "GameTables" ⟨"GameTables", "worse", "(II)I"⟩ ⟨"GameTables", "worse", "(II)I"⟩) ∈ gtb := gtb_2 14 rfl rfl
theorem q2_15 : (Cond.code ⟨"GameTables", "worse", "(II)I"⟩ prog_1_method_10_code 3 (Option.some FieldType.int)) ∈ gtb := gtb_2 15 rfl rfl
theorem q2_16 : (Cond.methodLink "GameTables" 99 ⟨"GameTables$Player", "allBits", "()I"⟩) ∈ gtb := gtb_2 16 rfl rfl
theorem q2_17 : (Cond.instanceMethod ⟨"GameTables$Player", "allBits", "()I"⟩) ∈ gtb := gtb_2 17 rfl rfl
theorem q2_18 : (Cond.selects "GameTables$Player" ⟨"GameTables$Player", "allBits", "()I"⟩ ⟨"GameTables$Player", "allBits", "()I"⟩) ∈ gtb := gtb_2 18 rfl rfl
theorem q2_19 : (Cond.code ⟨"GameTables$Player", "allBits", "()I"⟩ prog_5_method_4_code 1 (Option.some FieldType.int)) ∈ gtb := gtb_2 19 rfl rfl
theorem q2_20 : (Cond.methodLink "GameTables" 103 ⟨"GameTables$Player", "firstBetter", "(III)I"⟩) ∈ gtb := gtb_2 20 rfl rfl
theorem q2_21 : (Cond.instanceMethod ⟨"GameTables$Player", "firstBetter", "(III)I"⟩) ∈ gtb := gtb_2 21 rfl rfl
theorem q2_22 : (Cond.selects "GameTables$Player" ⟨"GameTables$Player", "firstBetter", "(III)I"⟩ ⟨"GameTables$Player", "firstBetter", "(III)I"⟩) ∈ gtb := gtb_2 22 rfl rfl
theorem q2_23 : (Cond.code ⟨"GameTables$Player", "firstBetter", "(III)I"⟩ prog_5_method_13_code 5 (Option.some FieldType.int)) ∈ gtb := gtb_2 23 rfl rfl
theorem qn2_24 : (Cond.methodLinkNest "GameTables$Player" 66 ⟨"GameTables", "hasBit", "(II)Z"⟩ "GameTables") ∈ tables_1 := gtn_2 24 rfl
theorem q2_25 : (Cond.methodLink "GameTables$Player" 70 ⟨"GameTables$Player", "paysMore", "(III)Z"⟩) ∈ gtb := gtb_2 25 rfl rfl
theorem q2_27 : (Cond.instanceMethod ⟨"GameTables$Player", "paysMore", "(III)Z"⟩) ∈ gtb := gtb_2 27 rfl rfl
theorem q2_28 : (Cond.code ⟨"GameTables$Player", "paysMore", "(III)Z"⟩ prog_5_method_12_code 5 (Option.some FieldType.boolean)) ∈ gtb := gtb_2 28 rfl rfl
theorem q2_29 : (Cond.methodLink "GameTablesLaw" 55 ⟨"GameTables", "left", "(I)I"⟩) ∈ gtb := gtb_2 29 rfl rfl
theorem q2_30 : (Cond.instanceMethod ⟨"GameTables", "left", "(I)I"⟩) ∈ gtb := gtb_2 30 rfl rfl
theorem q2_31 : (Cond.selects "GameTables" ⟨"GameTables", "left", "(I)I"⟩ ⟨"GameTables", "left", "(I)I"⟩) ∈ gtb := gtb_2 31 rfl rfl
theorem q2_32 : (Cond.code ⟨"GameTables", "left", "(I)I"⟩ prog_1_method_11_code 2 (Option.some FieldType.int)) ∈ gtb := gtb_2 32 rfl rfl
theorem q2_33 : (Cond.methodLink "GameTables" 107 ⟨"GameTables$Dropping", "run", "(LGameTables$Player;LGameTables$Player;)V"⟩) ∈ gtb := gtb_2 33 rfl rfl
theorem q2_34 : (Cond.instanceMethod ⟨"GameTables$Dropping", "run", "(LGameTables$Player;LGameTables$Player;)V"⟩) ∈ gtb := gtb_2 34 rfl rfl
theorem q2_35 : (Cond.selects "GameTables$Dropping" ⟨"GameTables$Dropping", "run", "(LGameTables$Player;LGameTables$Player;)V"⟩ ⟨"GameTables$Dropping", "run", "(LGameTables$Player;LGameTables$Player;)V"⟩) ∈ gtb := gtb_2 35 rfl rfl
theorem q2_36 : (Cond.code ⟨"GameTables$Dropping", "run", "(LGameTables$Player;LGameTables$Player;)V"⟩ prog_3_method_2_code 7 (Option.none : Option FieldType)) ∈ gtb := gtb_2 36 rfl rfl
theorem q2_37 : (Cond.methodLink "GameTables$Dropping" 9 ⟨"GameTables$Player", "allBits", "()I"⟩) ∈ gtb := gtb_2 37 rfl rfl
theorem q2_38 : (Cond.methodLink "GameTables$Dropping" 27 ⟨"GameTables$Player", "notWorse", "(II)I"⟩) ∈ gtb := gtb_2 38 rfl rfl
theorem q2_39 : (Cond.instanceMethod ⟨"GameTables$Player", "notWorse", "(II)I"⟩) ∈ gtb := gtb_2 39 rfl rfl
theorem q2_40 : (Cond.selects "GameTables$Player" ⟨"GameTables$Player", "notWorse", "(II)I"⟩ ⟨"GameTables$Player", "notWorse", "(II)I"⟩) ∈ gtb := gtb_2 40 rfl rfl
theorem q2_41 : (Cond.code ⟨"GameTables$Player", "notWorse", "(II)I"⟩ prog_5_method_14_code 5 (Option.some FieldType.int)) ∈ gtb := gtb_2 41 rfl rfl
theorem q2_42 : (Cond.methodLink "GameTables$Player" 74 ⟨"GameTables$Player", "firstBetter", "(III)I"⟩) ∈ gtb := gtb_2 42 rfl rfl
theorem q2_43 : (Cond.methodLink "GameTablesLaw" 59 ⟨"GameTables", "times", "()I"⟩) ∈ gtb := gtb_2 43 rfl rfl
theorem q2_44 : (Cond.instanceMethod ⟨"GameTables", "times", "()I"⟩) ∈ gtb := gtb_2 44 rfl rfl
theorem q2_45 : (Cond.selects "GameTables" ⟨"GameTables", "times", "()I"⟩ ⟨"GameTables", "times", "()I"⟩) ∈ gtb := gtb_2 45 rfl rfl
theorem q2_46 : (Cond.code ⟨"GameTables", "times", "()I"⟩ prog_1_method_12_code 1 (Option.some FieldType.int)) ∈ gtb := gtb_2 46 rfl rfl
theorem q2_47 : (Cond.methodLink "GameTablesLaw" 63 ⟨"GameTables", "sure", "(I)I"⟩) ∈ gtb := gtb_2 47 rfl rfl
theorem q2_48 : (Cond.instanceMethod ⟨"GameTables", "sure", "(I)I"⟩) ∈ gtb := gtb_2 48 rfl rfl
theorem q2_49 : (Cond.selects "GameTables" ⟨"GameTables", "sure", "(I)I"⟩ ⟨"GameTables", "sure", "(I)I"⟩) ∈ gtb := gtb_2 49 rfl rfl
theorem q2_50 : (Cond.code ⟨"GameTables", "sure", "(I)I"⟩ prog_1_method_13_code 2 (Option.some FieldType.int)) ∈ gtb := gtb_2 50 rfl rfl
theorem q2_51 : (Cond.methodLink "GameTables" 123 ⟨"GameTables$Player", "surePay", "(I)I"⟩) ∈ gtb := gtb_2 51 rfl rfl
theorem q2_52 : (Cond.instanceMethod ⟨"GameTables$Player", "surePay", "(I)I"⟩) ∈ gtb := gtb_2 52 rfl rfl
theorem q2_53 : (Cond.selects "GameTables$Player" ⟨"GameTables$Player", "surePay", "(I)I"⟩ ⟨"GameTables$Player", "surePay", "(I)I"⟩) ∈ gtb := gtb_2 53 rfl rfl
theorem q2_54 : (Cond.code ⟨"GameTables$Player", "surePay", "(I)I"⟩ prog_5_method_18_code 4 (Option.some FieldType.int)) ∈ gtb := gtb_2 54 rfl rfl
theorem q2_55 : (Cond.methodLink "GameTables$Player" 86 ⟨"GameTables$Player", "leastFor", "(II)I"⟩) ∈ gtb := gtb_2 55 rfl rfl
theorem q2_57 : (Cond.instanceMethod ⟨"GameTables$Player", "leastFor", "(II)I"⟩) ∈ gtb := gtb_2 57 rfl rfl
theorem q2_58 : (Cond.code ⟨"GameTables$Player", "leastFor", "(II)I"⟩ prog_5_method_15_code 5 (Option.some FieldType.int)) ∈ gtb := gtb_2 58 rfl rfl
theorem q2_59 : (Cond.methodLink "GameTables$Player" 78 ⟨"java/lang/Math", "min", "(II)I"⟩) ∈ gtb := gtb_2 59 rfl rfl
theorem q2_60 : (Cond.static ⟨"java/lang/Math", "min", "(II)I"⟩) ∈ gtb := gtb_2 60 rfl rfl
theorem q2_61 : (Cond.code ⟨"java/lang/Math", "min", "(II)I"⟩ prog_9_method_69_code 2 (Option.some FieldType.int)) ∈ gtb := gtb_2 61 rfl rfl
theorem q2_62 : (Cond.methodLink "GameTables$Player" 83 ⟨"java/lang/Math", "max", "(II)I"⟩) ∈ gtb := gtb_2 62 rfl rfl
theorem q2_63 : (Cond.static ⟨"java/lang/Math", "max", "(II)I"⟩) ∈ gtb := gtb_2 63 rfl rfl
theorem q2_64 : (Cond.code ⟨"java/lang/Math", "max", "(II)I"⟩ prog_9_method_65_code 2 (Option.some FieldType.int)) ∈ gtb := gtb_2 64 rfl rfl
theorem q2_65 : (Cond.methodLink "GameTablesLaw" 67 ⟨"GameTables", "hold", "(I)I"⟩) ∈ gtb := gtb_2 65 rfl rfl
theorem q2_66 : (Cond.instanceMethod ⟨"GameTables", "hold", "(I)I"⟩) ∈ gtb := gtb_2 66 rfl rfl
theorem q2_67 : (Cond.selects "GameTables" ⟨"GameTables", "hold", "(I)I"⟩ ⟨"GameTables", "hold", "(I)I"⟩) ∈ gtb := gtb_2 67 rfl rfl
theorem q2_68 : (Cond.code ⟨"GameTables", "hold", "(I)I"⟩ prog_1_method_14_code 2 (Option.some FieldType.int)) ∈ gtb := gtb_2 68 rfl rfl
theorem q2_69 : (Cond.methodLink "GameTables" 126 ⟨"GameTables$Player", "holdPay", "(I)I"⟩) ∈ gtb := gtb_2 69 rfl rfl
theorem q2_70 : (Cond.instanceMethod ⟨"GameTables$Player", "holdPay", "(I)I"⟩) ∈ gtb := gtb_2 70 rfl rfl
theorem q2_71 : (Cond.selects "GameTables$Player" ⟨"GameTables$Player", "holdPay", "(I)I"⟩ ⟨"GameTables$Player", "holdPay", "(I)I"⟩) ∈ gtb := gtb_2 71 rfl rfl
theorem q2_72 : (Cond.code ⟨"GameTables$Player", "holdPay", "(I)I"⟩ prog_5_method_19_code 4 (Option.some FieldType.int)) ∈ gtb := gtb_2 72 rfl rfl
theorem q2_73 : (Cond.methodLink "GameTables$Player" 89 ⟨"GameTables$Player", "mostAgainst", "(I)I"⟩) ∈ gtb := gtb_2 73 rfl rfl
theorem q2_74 : (Cond.instanceMethod ⟨"GameTables$Player", "mostAgainst", "(I)I"⟩) ∈ gtb := gtb_2 74 rfl rfl
theorem q2_75 : (Cond.selects "GameTables$Player" ⟨"GameTables$Player", "mostAgainst", "(I)I"⟩ ⟨"GameTables$Player", "mostAgainst", "(I)I"⟩) ∈ gtb := gtb_2 75 rfl rfl
theorem q2_76 : (Cond.code ⟨"GameTables$Player", "mostAgainst", "(I)I"⟩ prog_5_method_17_code 4 (Option.some FieldType.int)) ∈ gtb := gtb_2 76 rfl rfl
theorem q2_77 : (Cond.methodLink "GameTablesLaw" 71 ⟨"GameTables", "corners", "(I)I"⟩) ∈ gtb := gtb_2 77 rfl rfl
theorem q2_78 : (Cond.instanceMethod ⟨"GameTables", "corners", "(I)I"⟩) ∈ gtb := gtb_2 78 rfl rfl
theorem q2_79 : (Cond.selects "GameTables" ⟨"GameTables", "corners", "(I)I"⟩ ⟨"GameTables", "corners", "(I)I"⟩) ∈ gtb := gtb_2 79 rfl rfl
theorem q2_80 : (Cond.code ⟨"GameTables", "corners", "(I)I"⟩ prog_1_method_15_code 2 (Option.some FieldType.int)) ∈ gtb := gtb_2 80 rfl rfl
theorem q2_81 : (Cond.methodLink "GameTables" 129 ⟨"GameTables", "knowCorners", "()V"⟩) ∈ gtb := gtb_2 81 rfl rfl
theorem q2_83 : (Cond.instanceMethod ⟨"GameTables", "knowCorners", "()V"⟩) ∈ gtb := gtb_2 83 rfl rfl
theorem q2_84 : (Cond.code ⟨"GameTables", "knowCorners", "()V"⟩ prog_1_method_32_code 1 (Option.none : Option FieldType)) ∈ gtb := gtb_2 84 rfl rfl
theorem q2_85 : (Cond.methodLink "GameTables" 207 ⟨"GameTables$Corners", "searchAll", "(ILGameTables$Player;)V"⟩) ∈ gtb := gtb_2 85 rfl rfl
theorem q2_86 : (Cond.instanceMethod ⟨"GameTables$Corners", "searchAll", "(ILGameTables$Player;)V"⟩) ∈ gtb := gtb_2 86 rfl rfl
theorem q2_87 : (Cond.selects "GameTables$Corners" ⟨"GameTables$Corners", "searchAll", "(ILGameTables$Player;)V"⟩ ⟨"GameTables$Corners", "searchAll", "(ILGameTables$Player;)V"⟩) ∈ gtb := gtb_2 87 rfl rfl
theorem q2_88 : (Cond.code ⟨"GameTables$Corners", "searchAll", "(ILGameTables$Player;)V"⟩ prog_2_method_4_code 5 (Option.none : Option FieldType)) ∈ gtb := gtb_2 88 rfl rfl
theorem q2_89 : (Cond.methodLink "GameTables$Corners" 39 ⟨"GameTables$Player", "allBits", "()I"⟩) ∈ gtb := gtb_2 89 rfl rfl
theorem q2_90 : (Cond.methodLink "GameTables$Corners" 45 ⟨"java/lang/Integer", "bitCount", "(I)I"⟩) ∈ gtb := gtb_2 90 rfl rfl
theorem q2_91 : (Cond.static ⟨"java/lang/Integer", "bitCount", "(I)I"⟩) ∈ gtb := gtb_2 91 rfl rfl
theorem q2_92 : (Cond.code ⟨"java/lang/Integer", "bitCount", "(I)I"⟩ prog_8_method_49_code 1 (Option.some FieldType.int)) ∈ gtb := gtb_2 92 rfl rfl
theorem q2_93 : (Cond.constant "java/lang/Integer" 265 (1431655765 : Int32)) ∈ gtb := gtb_2 93 rfl rfl
theorem q2_94 : (Cond.constant "java/lang/Integer" 266 (858993459 : Int32)) ∈ gtb := gtb_2 94 rfl rfl
theorem q2_95 : (Cond.constant "java/lang/Integer" 267 (252645135 : Int32)) ∈ gtb := gtb_2 95 rfl rfl
theorem q2_96 : (Cond.methodLink "GameTables$Corners" 51 ⟨"GameTables$Corners", "search", "(IILGameTables$Player;)V"⟩) ∈ gtb := gtb_2 96 rfl rfl
theorem q2_98 : (Cond.instanceMethod ⟨"GameTables$Corners", "search", "(IILGameTables$Player;)V"⟩) ∈ gtb := gtb_2 98 rfl rfl
theorem q2_99 : (Cond.code ⟨"GameTables$Corners", "search", "(IILGameTables$Player;)V"⟩ prog_2_method_5_code 4 (Option.none : Option FieldType)) ∈ gtb := gtb_2 99 rfl rfl
theorem q2_100 : (Cond.methodLink "GameTables$Corners" 55 ⟨"GameTables$Corners", "layGaps", "(IILGameTables$Player;)V"⟩) ∈ gtb := gtb_2 100 rfl rfl
theorem q2_102 : (Cond.instanceMethod ⟨"GameTables$Corners", "layGaps", "(IILGameTables$Player;)V"⟩) ∈ gtb := gtb_2 102 rfl rfl
theorem q2_103 : (Cond.code ⟨"GameTables$Corners", "layGaps", "(IILGameTables$Player;)V"⟩ prog_2_method_6_code 7 (Option.none : Option FieldType)) ∈ gtb := gtb_2 103 rfl rfl
theorem qn2_104 : (Cond.methodLinkNest "GameTables$Corners" 78 ⟨"GameTables", "firstOf", "(I)I"⟩ "GameTables") ∈ tables_1 := gtn_2 104 rfl
theorem qn2_105 : (Cond.methodLinkNest "GameTables$Corners" 81 ⟨"GameTables", "hasBit", "(II)Z"⟩ "GameTables") ∈ tables_1 := gtn_2 105 rfl
theorem q2_106 : (Cond.methodLink "GameTables$Corners" 85 ⟨"GameTables$Corners", "layLine", "(IILGameTables$Player;II)V"⟩) ∈ gtb := gtb_2 106 rfl rfl
theorem q2_108 : (Cond.instanceMethod ⟨"GameTables$Corners", "layLine", "(IILGameTables$Player;II)V"⟩) ∈ gtb := gtb_2 108 rfl rfl
theorem q2_109 : (Cond.code ⟨"GameTables$Corners", "layLine", "(IILGameTables$Player;II)V"⟩ prog_2_method_7_code 8 (Option.none : Option FieldType)) ∈ gtb := gtb_2 109 rfl rfl
theorem q2_110 : (Cond.methodLink "GameTables$Corners" 89 ⟨"GameTables$Player", "payFor", "(II)I"⟩) ∈ gtb := gtb_2 110 rfl rfl
theorem q2_111 : (Cond.methodLink "GameTables$Corners" 58 ⟨"GameTables$Corners", "layParts", "(I)V"⟩) ∈ gtb := gtb_2 111 rfl rfl
theorem q2_113 : (Cond.instanceMethod ⟨"GameTables$Corners", "layParts", "(I)V"⟩) ∈ gtb := gtb_2 113 rfl rfl
theorem q2_114 : (Cond.code ⟨"GameTables$Corners", "layParts", "(I)V"⟩ prog_2_method_8_code 7 (Option.none : Option FieldType)) ∈ gtb := gtb_2 114 rfl rfl
theorem q2_115 : (Cond.methodLink "GameTables$Corners" 97 ⟨"GameTables$Corners", "gapsWithout", "(II)J"⟩) ∈ gtb := gtb_2 115 rfl rfl
theorem q2_117 : (Cond.instanceMethod ⟨"GameTables$Corners", "gapsWithout", "(II)J"⟩) ∈ gtb := gtb_2 117 rfl rfl
theorem q2_118 : (Cond.code ⟨"GameTables$Corners", "gapsWithout", "(II)J"⟩ prog_2_method_9_code 6 (Option.some FieldType.long)) ∈ gtb := gtb_2 118 rfl rfl
theorem q2_119 : (Cond.methodLink "GameTables$Corners" 101 ⟨"GameTables$Corners", "twoLines", "(IIII)J"⟩) ∈ gtb := gtb_2 119 rfl rfl
theorem q2_121 : (Cond.instanceMethod ⟨"GameTables$Corners", "twoLines", "(IIII)J"⟩) ∈ gtb := gtb_2 121 rfl rfl
theorem q2_122 : (Cond.code ⟨"GameTables$Corners", "twoLines", "(IIII)J"⟩ prog_2_method_10_code 5 (Option.some FieldType.long)) ∈ gtb := gtb_2 122 rfl rfl
theorem q2_123 : (Cond.methodLink "GameTables$Corners" 62 ⟨"GameTables$Corners", "makePositive", "(I)Z"⟩) ∈ gtb := gtb_2 123 rfl rfl
theorem q2_125 : (Cond.instanceMethod ⟨"GameTables$Corners", "makePositive", "(I)Z"⟩) ∈ gtb := gtb_2 125 rfl rfl
theorem q2_126 : (Cond.code ⟨"GameTables$Corners", "makePositive", "(I)Z"⟩ prog_2_method_11_code 5 (Option.some FieldType.boolean)) ∈ gtb := gtb_2 126 rfl rfl
theorem q2_127 : (Cond.methodLink "GameTables$Corners" 105 ⟨"GameTables$Corners", "signOfFirst", "(I)J"⟩) ∈ gtb := gtb_2 127 rfl rfl
theorem q2_129 : (Cond.instanceMethod ⟨"GameTables$Corners", "signOfFirst", "(I)J"⟩) ∈ gtb := gtb_2 129 rfl rfl
theorem q2_130 : (Cond.code ⟨"GameTables$Corners", "signOfFirst", "(I)J"⟩ prog_2_method_12_code 3 (Option.some FieldType.long)) ∈ gtb := gtb_2 130 rfl rfl
theorem q2_131 : (Cond.constantLong "GameTables$Corners" 109 (-1 : Int64)) ∈ gtb := gtb_2 131 rfl rfl
theorem q2_132 : (Cond.methodLink "GameTables$Corners" 66 ⟨"GameTables$Mix", "sumUp", "()V"⟩) ∈ gtb := gtb_2 132 rfl rfl
theorem q2_133 : (Cond.methodLink "GameTables$Corners" 69 ⟨"GameTables$Player", "answersTo", "(LGameTables$Mix;)I"⟩) ∈ gtb := gtb_2 133 rfl rfl
theorem q2_134 : (Cond.methodLink "GameTables$Corners" 75 ⟨"GameTables$Corners", "keepSpare", "()V"⟩) ∈ gtb := gtb_2 134 rfl rfl
theorem q2_136 : (Cond.instanceMethod ⟨"GameTables$Corners", "keepSpare", "()V"⟩) ∈ gtb := gtb_2 136 rfl rfl
theorem q2_137 : (Cond.code ⟨"GameTables$Corners", "keepSpare", "()V"⟩ prog_2_method_13_code 5 (Option.none : Option FieldType)) ∈ gtb := gtb_2 137 rfl rfl
theorem q2_138 : (Cond.methodLink "GameTables$Corners" 35 ⟨"GameTables$Mix", "orderTo", "(LGameTables$Mix;)I"⟩) ∈ gtb := gtb_2 138 rfl rfl
theorem q2_139 : (Cond.instanceMethod ⟨"GameTables$Mix", "orderTo", "(LGameTables$Mix;)I"⟩) ∈ gtb := gtb_2 139 rfl rfl
theorem q2_140 : (Cond.selects "GameTables$Mix" ⟨"GameTables$Mix", "orderTo", "(LGameTables$Mix;)I"⟩ ⟨"GameTables$Mix", "orderTo", "(LGameTables$Mix;)I"⟩) ∈ gtb := gtb_2 140 rfl rfl
theorem q2_141 : (Cond.code ⟨"GameTables$Mix", "orderTo", "(LGameTables$Mix;)I"⟩ prog_4_method_3_code 7 (Option.some FieldType.int)) ∈ gtb := gtb_2 141 rfl rfl
theorem q2_142 : (Cond.methodLink "GameTables$Corners" 111 ⟨"GameTables$Corners", "insertSpare", "(I)V"⟩) ∈ gtb := gtb_2 142 rfl rfl
theorem q2_144 : (Cond.instanceMethod ⟨"GameTables$Corners", "insertSpare", "(I)V"⟩) ∈ gtb := gtb_2 144 rfl rfl
theorem q2_145 : (Cond.code ⟨"GameTables$Corners", "insertSpare", "(I)V"⟩ prog_2_method_14_code 4 (Option.none : Option FieldType)) ∈ gtb := gtb_2 145 rfl rfl
theorem q2_146 : (Cond.methodLink "GameTablesLaw" 75 ⟨"GameTables", "corner", "(IIII)I"⟩) ∈ gtb := gtb_2 146 rfl rfl
theorem q2_147 : (Cond.instanceMethod ⟨"GameTables", "corner", "(IIII)I"⟩) ∈ gtb := gtb_2 147 rfl rfl
theorem q2_148 : (Cond.selects "GameTables" ⟨"GameTables", "corner", "(IIII)I"⟩ ⟨"GameTables", "corner", "(IIII)I"⟩) ∈ gtb := gtb_2 148 rfl rfl
theorem q2_149 : (Cond.code ⟨"GameTables", "corner", "(IIII)I"⟩ prog_1_method_16_code 6 (Option.some FieldType.int)) ∈ gtb := gtb_2 149 rfl rfl
theorem q2_150 : (Cond.methodLink "GameTables" 141 ⟨"GameTables$Corners", "mixAt", "(I)LGameTables$Mix;"⟩) ∈ gtb := gtb_2 150 rfl rfl
theorem q2_151 : (Cond.instanceMethod ⟨"GameTables$Corners", "mixAt", "(I)LGameTables$Mix;"⟩) ∈ gtb := gtb_2 151 rfl rfl
theorem q2_152 : (Cond.selects "GameTables$Corners" ⟨"GameTables$Corners", "mixAt", "(I)LGameTables$Mix;"⟩ ⟨"GameTables$Corners", "mixAt", "(I)LGameTables$Mix;"⟩) ∈ gtb := gtb_2 152 rfl rfl
theorem q2_153 : (Cond.code ⟨"GameTables$Corners", "mixAt", "(I)LGameTables$Mix;"⟩ prog_2_method_2_code 2 (Option.some (FieldType.object "GameTables$Mix"))) ∈ gtb := gtb_2 153 rfl rfl
theorem q2_154 : (Cond.methodLink "GameTables" 152 ⟨"GameTables", "lowest", "(JJI)J"⟩) ∈ gtb := gtb_2 154 rfl rfl
theorem q2_155 : (Cond.methodLink "GameTablesLaw" 79 ⟨"GameTables", "balances", "()I"⟩) ∈ gtb := gtb_2 155 rfl rfl
theorem q2_156 : (Cond.instanceMethod ⟨"GameTables", "balances", "()I"⟩) ∈ gtb := gtb_2 156 rfl rfl
theorem q2_157 : (Cond.selects "GameTables" ⟨"GameTables", "balances", "()I"⟩ ⟨"GameTables", "balances", "()I"⟩) ∈ gtb := gtb_2 157 rfl rfl
theorem q2_158 : (Cond.code ⟨"GameTables", "balances", "()I"⟩ prog_1_method_17_code 1 (Option.some FieldType.int)) ∈ gtb := gtb_2 158 rfl rfl
theorem q2_159 : (Cond.methodLink "GameTables" 156 ⟨"GameTables", "balancesBefore", "(II)I"⟩) ∈ gtb := gtb_2 159 rfl rfl
theorem q2_161 : (Cond.instanceMethod ⟨"GameTables", "balancesBefore", "(II)I"⟩) ∈ gtb := gtb_2 161 rfl rfl
theorem q2_162 : (Cond.code ⟨"GameTables", "balancesBefore", "(II)I"⟩ prog_1_method_33_code 6 (Option.some FieldType.int)) ∈ gtb := gtb_2 162 rfl rfl
theorem q2_163 : (Cond.methodLink "GameTables" 211 ⟨"GameTables", "balancesOf", "(LGameTables$Mix;I)I"⟩) ∈ gtb := gtb_2 163 rfl rfl
theorem q2_165 : (Cond.instanceMethod ⟨"GameTables", "balancesOf", "(LGameTables$Mix;I)I"⟩) ∈ gtb := gtb_2 165 rfl rfl
theorem q2_166 : (Cond.code ⟨"GameTables", "balancesOf", "(LGameTables$Mix;I)I"⟩ prog_1_method_34_code 7 (Option.some FieldType.int)) ∈ gtb := gtb_2 166 rfl rfl
theorem q2_167 : (Cond.methodLink "GameTablesLaw" 83 ⟨"GameTables", "balance", "(II)J"⟩) ∈ gtb := gtb_2 167 rfl rfl
theorem q2_168 : (Cond.instanceMethod ⟨"GameTables", "balance", "(II)J"⟩) ∈ gtb := gtb_2 168 rfl rfl
theorem q2_169 : (Cond.selects "GameTables" ⟨"GameTables", "balance", "(II)J"⟩ ⟨"GameTables", "balance", "(II)J"⟩) ∈ gtb := gtb_2 169 rfl rfl
theorem q2_170 : (Cond.code ⟨"GameTables", "balance", "(II)J"⟩ prog_1_method_18_code 6 (Option.some FieldType.long)) ∈ gtb := gtb_2 170 rfl rfl
theorem q2_171 : (Cond.methodLink "GameTables" 159 ⟨"GameTables", "pairOf", "(I)I"⟩) ∈ gtb := gtb_2 171 rfl rfl
theorem q2_173 : (Cond.instanceMethod ⟨"GameTables", "pairOf", "(I)I"⟩) ∈ gtb := gtb_2 173 rfl rfl
theorem q2_174 : (Cond.code ⟨"GameTables", "pairOf", "(I)I"⟩ prog_1_method_35_code 7 (Option.some FieldType.int)) ∈ gtb := gtb_2 174 rfl rfl
theorem q2_175 : (Cond.methodLink "GameTables" 162 ⟨"GameTables", "kindOf", "(LGameTables$Mix;LGameTables$Mix;)I"⟩) ∈ gtb := gtb_2 175 rfl rfl
theorem q2_177 : (Cond.instanceMethod ⟨"GameTables", "kindOf", "(LGameTables$Mix;LGameTables$Mix;)I"⟩) ∈ gtb := gtb_2 177 rfl rfl
theorem q2_178 : (Cond.code ⟨"GameTables", "kindOf", "(LGameTables$Mix;LGameTables$Mix;)I"⟩ prog_1_method_36_code 6 (Option.some FieldType.int)) ∈ gtb := gtb_2 178 rfl rfl
theorem q2_179 : (Cond.methodLink "GameTables" 215 ⟨"java/lang/Integer", "bitCount", "(I)I"⟩) ∈ gtb := gtb_2 179 rfl rfl
theorem q2_180 : (Cond.methodLink "GameTablesLaw" 87 ⟨"GameTables", "find", "()I"⟩) ∈ gtb := gtb_2 180 rfl rfl
theorem q2_181 : (Cond.instanceMethod ⟨"GameTables", "find", "()I"⟩) ∈ gtb := gtb_2 181 rfl rfl
theorem q2_182 : (Cond.selects "GameTables" ⟨"GameTables", "find", "()I"⟩ ⟨"GameTables", "find", "()I"⟩) ∈ gtb := gtb_2 182 rfl rfl
theorem q2_183 : (Cond.code ⟨"GameTables", "find", "()I"⟩ prog_1_method_19_code 5 (Option.some FieldType.int)) ∈ gtb := gtb_2 183 rfl rfl
theorem q2_184 : (Cond.methodLink "GameTables" 166 ⟨"GameTables$Corners", "numberOf", "(LGameTables$Mix;)I"⟩) ∈ gtb := gtb_2 184 rfl rfl
theorem q2_185 : (Cond.instanceMethod ⟨"GameTables$Corners", "numberOf", "(LGameTables$Mix;)I"⟩) ∈ gtb := gtb_2 185 rfl rfl
theorem q2_186 : (Cond.selects "GameTables$Corners" ⟨"GameTables$Corners", "numberOf", "(LGameTables$Mix;)I"⟩ ⟨"GameTables$Corners", "numberOf", "(LGameTables$Mix;)I"⟩) ∈ gtb := gtb_2 186 rfl rfl
theorem q2_187 : (Cond.code ⟨"GameTables$Corners", "numberOf", "(LGameTables$Mix;)I"⟩ prog_2_method_3_code 4 (Option.some FieldType.int)) ∈ gtb := gtb_2 187 rfl rfl
theorem q2_188 : (Cond.methodLink "GameTables$Corners" 31 ⟨"GameTables$Corners", "mixAt", "(I)LGameTables$Mix;"⟩) ∈ gtb := gtb_2 188 rfl rfl
theorem q2_189 : (Cond.methodLink "GameTablesLaw" 91 ⟨"GameTables", "turn", "()I"⟩) ∈ gtb := gtb_2 189 rfl rfl
theorem q2_190 : (Cond.instanceMethod ⟨"GameTables", "turn", "()I"⟩) ∈ gtb := gtb_2 190 rfl rfl
theorem q2_191 : (Cond.selects "GameTables" ⟨"GameTables", "turn", "()I"⟩ ⟨"GameTables", "turn", "()I"⟩) ∈ gtb := gtb_2 191 rfl rfl
theorem q2_192 : (Cond.code ⟨"GameTables", "turn", "()I"⟩ prog_1_method_20_code 2 (Option.some FieldType.int)) ∈ gtb := gtb_2 192 rfl rfl
theorem q2_193 : (Cond.methodLink "GameTablesLaw" 95 ⟨"GameTables", "raise", "(III)I"⟩) ∈ gtb := gtb_2 193 rfl rfl
theorem q2_194 : (Cond.instanceMethod ⟨"GameTables", "raise", "(III)I"⟩) ∈ gtb := gtb_2 194 rfl rfl
theorem q2_195 : (Cond.selects "GameTables" ⟨"GameTables", "raise", "(III)I"⟩ ⟨"GameTables", "raise", "(III)I"⟩) ∈ gtb := gtb_2 195 rfl rfl
theorem q2_196 : (Cond.code ⟨"GameTables", "raise", "(III)I"⟩ prog_1_method_21_code 5 (Option.some FieldType.int)) ∈ gtb := gtb_2 196 rfl rfl
theorem q2_197 : (Cond.methodLink "GameTables" 170 ⟨"GameTables$Player", "leastAgainst", "(I)I"⟩) ∈ gtb := gtb_2 197 rfl rfl
theorem q2_198 : (Cond.instanceMethod ⟨"GameTables$Player", "leastAgainst", "(I)I"⟩) ∈ gtb := gtb_2 198 rfl rfl
theorem q2_199 : (Cond.selects "GameTables$Player" ⟨"GameTables$Player", "leastAgainst", "(I)I"⟩ ⟨"GameTables$Player", "leastAgainst", "(I)I"⟩) ∈ gtb := gtb_2 199 rfl rfl
theorem q2_200 : (Cond.code ⟨"GameTables$Player", "leastAgainst", "(I)I"⟩ prog_5_method_16_code 4 (Option.some FieldType.int)) ∈ gtb := gtb_2 200 rfl rfl
theorem q2_201 : (Cond.constantLong "GameTables" 173 (-20 : Int64)) ∈ gtb := gtb_2 201 rfl rfl
theorem q2_202 : (Cond.methodLink "GameTables" 175 ⟨"GameTables$Player", "mostAgainst", "(I)I"⟩) ∈ gtb := gtb_2 202 rfl rfl
theorem q2_203 : (Cond.constantLong "GameTables" 178 (20 : Int64)) ∈ gtb := gtb_2 203 rfl rfl
theorem q2_204 : (Cond.methodLink "GameTables" 180 ⟨"GameTables$Player", "addAgainst", "(II)V"⟩) ∈ gtb := gtb_2 204 rfl rfl
theorem q2_205 : (Cond.instanceMethod ⟨"GameTables$Player", "addAgainst", "(II)V"⟩) ∈ gtb := gtb_2 205 rfl rfl
theorem q2_206 : (Cond.selects "GameTables$Player" ⟨"GameTables$Player", "addAgainst", "(II)V"⟩ ⟨"GameTables$Player", "addAgainst", "(II)V"⟩) ∈ gtb := gtb_2 206 rfl rfl
theorem q2_207 : (Cond.code ⟨"GameTables$Player", "addAgainst", "(II)V"⟩ prog_5_method_21_code 4 (Option.none : Option FieldType)) ∈ gtb := gtb_2 207 rfl rfl
theorem q2_208 : (Cond.methodLink "GameTables$Player" 96 ⟨"GameTables$Player", "setPay", "(III)V"⟩) ∈ gtb := gtb_2 208 rfl rfl
theorem q2_209 : (Cond.methodLink "GameTablesLaw" 99 ⟨"GameTables", "scale", "(II)I"⟩) ∈ gtb := gtb_2 209 rfl rfl
theorem q2_210 : (Cond.instanceMethod ⟨"GameTables", "scale", "(II)I"⟩) ∈ gtb := gtb_2 210 rfl rfl
theorem q2_211 : (Cond.selects "GameTables" ⟨"GameTables", "scale", "(II)I"⟩ ⟨"GameTables", "scale", "(II)I"⟩) ∈ gtb := gtb_2 211 rfl rfl
theorem q2_212 : (Cond.code ⟨"GameTables", "scale", "(II)I"⟩ prog_1_method_22_code 3 (Option.some FieldType.int)) ∈ gtb := gtb_2 212 rfl rfl
theorem q2_213 : (Cond.methodLink "GameTables" 184 ⟨"GameTables$Player", "farthestPay", "()I"⟩) ∈ gtb := gtb_2 213 rfl rfl
theorem q2_214 : (Cond.instanceMethod ⟨"GameTables$Player", "farthestPay", "()I"⟩) ∈ gtb := gtb_2 214 rfl rfl
theorem q2_215 : (Cond.selects "GameTables$Player" ⟨"GameTables$Player", "farthestPay", "()I"⟩ ⟨"GameTables$Player", "farthestPay", "()I"⟩) ∈ gtb := gtb_2 215 rfl rfl
theorem q2_216 : (Cond.code ⟨"GameTables$Player", "farthestPay", "()I"⟩ prog_5_method_20_code 3 (Option.some FieldType.int)) ∈ gtb := gtb_2 216 rfl rfl
theorem q2_217 : (Cond.methodLink "GameTables$Player" 93 ⟨"java/lang/Math", "abs", "(I)I"⟩) ∈ gtb := gtb_2 217 rfl rfl
theorem q2_218 : (Cond.static ⟨"java/lang/Math", "abs", "(I)I"⟩) ∈ gtb := gtb_2 218 rfl rfl
theorem q2_219 : (Cond.code ⟨"java/lang/Math", "abs", "(I)I"⟩ prog_9_method_59_code 1 (Option.some FieldType.int)) ∈ gtb := gtb_2 219 rfl rfl
theorem q2_220 : (Cond.methodLink "GameTables" 187 ⟨"GameTables$Player", "multiplyPays", "(I)V"⟩) ∈ gtb := gtb_2 220 rfl rfl
theorem q2_221 : (Cond.instanceMethod ⟨"GameTables$Player", "multiplyPays", "(I)V"⟩) ∈ gtb := gtb_2 221 rfl rfl
theorem q2_222 : (Cond.selects "GameTables$Player" ⟨"GameTables$Player", "multiplyPays", "(I)V"⟩ ⟨"GameTables$Player", "multiplyPays", "(I)V"⟩) ∈ gtb := gtb_2 222 rfl rfl
theorem q2_223 : (Cond.code ⟨"GameTables$Player", "multiplyPays", "(I)V"⟩ prog_5_method_22_code 3 (Option.none : Option FieldType)) ∈ gtb := gtb_2 223 rfl rfl
theorem q2_224 : (Cond.methodLink "GameTablesLaw" 103 ⟨"GameTables", "status", "(I)I"⟩) ∈ gtb := gtb_2 224 rfl rfl
theorem q2_225 : (Cond.instanceMethod ⟨"GameTables", "status", "(I)I"⟩) ∈ gtb := gtb_2 225 rfl rfl
theorem q2_226 : (Cond.selects "GameTables" ⟨"GameTables", "status", "(I)I"⟩ ⟨"GameTables", "status", "(I)I"⟩) ∈ gtb := gtb_2 226 rfl rfl
theorem q2_227 : (Cond.code ⟨"GameTables", "status", "(I)I"⟩ prog_1_method_23_code 2 (Option.some FieldType.int)) ∈ gtb := gtb_2 227 rfl rfl
theorem q2_228 : (Cond.methodLink "GameTables" 190 ⟨"GameTables$Player", "takesFrom", "(LGameTables$Player;)Z"⟩) ∈ gtb := gtb_2 228 rfl rfl
theorem q2_229 : (Cond.instanceMethod ⟨"GameTables$Player", "takesFrom", "(LGameTables$Player;)Z"⟩) ∈ gtb := gtb_2 229 rfl rfl
theorem q2_230 : (Cond.selects "GameTables$Player" ⟨"GameTables$Player", "takesFrom", "(LGameTables$Player;)Z"⟩ ⟨"GameTables$Player", "takesFrom", "(LGameTables$Player;)Z"⟩) ∈ gtb := gtb_2 230 rfl rfl
theorem q2_231 : (Cond.code ⟨"GameTables$Player", "takesFrom", "(LGameTables$Player;)Z"⟩ prog_5_method_23_code 4 (Option.some FieldType.boolean)) ∈ gtb := gtb_2 231 rfl rfl
theorem q2_232 : (Cond.methodLink "GameTables" 194 ⟨"GameTables$Player", "isLike", "(LGameTables$Player;)Z"⟩) ∈ gtb := gtb_2 232 rfl rfl
theorem q2_233 : (Cond.instanceMethod ⟨"GameTables$Player", "isLike", "(LGameTables$Player;)Z"⟩) ∈ gtb := gtb_2 233 rfl rfl
theorem q2_234 : (Cond.selects "GameTables$Player" ⟨"GameTables$Player", "isLike", "(LGameTables$Player;)Z"⟩ ⟨"GameTables$Player", "isLike", "(LGameTables$Player;)Z"⟩) ∈ gtb := gtb_2 234 rfl rfl
theorem q2_235 : (Cond.code ⟨"GameTables$Player", "isLike", "(LGameTables$Player;)Z"⟩ prog_5_method_24_code 3 (Option.some FieldType.boolean)) ∈ gtb := gtb_2 235 rfl rfl
theorem q2_236 : (Cond.methodLink "GameTables" 197 ⟨"GameTables", "refusalsCounted", "(I)I"⟩) ∈ gtb := gtb_2 236 rfl rfl
theorem q2_238 : (Cond.instanceMethod ⟨"GameTables", "refusalsCounted", "(I)I"⟩) ∈ gtb := gtb_2 238 rfl rfl
theorem q2_239 : (Cond.code ⟨"GameTables", "refusalsCounted", "(I)I"⟩ prog_1_method_24_code 2 (Option.some FieldType.int)) ∈ gtb := gtb_2 239 rfl rfl
theorem q3_0 : (Cond.classLink "GameTablesLaw" 10 "GameTablesModel") ∈ gtb := gtb_3 0 rfl rfl
theorem q3_1 : (Cond.instantiable "GameTablesModel" 19) ∈ gtb := gtb_3 1 rfl rfl
theorem q3_2 : (Cond.methodLink "GameTablesLaw" 12 ⟨"GameTablesModel", "<init>", "()V"⟩) ∈ gtb := gtb_3 2 rfl rfl
theorem q3_3 : (Cond.instanceMethod ⟨"GameTablesModel", "<init>", "()V"⟩) ∈ gtb := gtb_3 3 rfl rfl
theorem q3_4 : (Cond.code ⟨"GameTablesModel", "<init>", "()V"⟩ prog_7_method_1_code 1 (Option.none : Option FieldType)) ∈ gtb := gtb_3 4 rfl rfl
theorem q3_5 : (Cond.methodLink "GameTablesModel" 1 ⟨"java/lang/Object", "<init>", "()V"⟩) ∈ gtb := gtb_3 5 rfl rfl
theorem q3_6 : (Cond.fieldLink "GameTablesModel" 7 "GameTablesModel" "many" "[I") ∈ gtb := gtb_3 6 rfl rfl
theorem q3_7 : (Cond.fieldLink "GameTablesModel" 13 "GameTablesModel" "pays" "[I") ∈ gtb := gtb_3 7 rfl rfl
theorem q3_8 : (Cond.fieldLink "GameTablesModel" 16 "GameTablesModel" "weights" "[I") ∈ gtb := gtb_3 8 rfl rfl
theorem q3_9 : (Cond.fieldLink "GameTablesModel" 19 "GameTablesModel" "refused" "[I") ∈ gtb := gtb_3 9 rfl rfl
theorem q3_10 : (Cond.fieldLink "GameTablesModel" 22 "GameTablesModel" "trayRow" "[J") ∈ gtb := gtb_3 10 rfl rfl
theorem q3_11 : (Cond.fieldLink "GameTablesModel" 26 "GameTablesModel" "trayColumn" "[J") ∈ gtb := gtb_3 11 rfl rfl
theorem q3_12 : (Cond.fieldLink "GameTablesModel" 120 "GameTablesModel" "leftRow" "I") ∈ gtb := gtb_3 12 rfl rfl
theorem q3_13 : (Cond.fieldLink "GameTablesModel" 124 "GameTablesModel" "leftColumn" "I") ∈ gtb := gtb_3 13 rfl rfl
theorem q3_14 : (Cond.fieldLink "GameTablesModel" 127 "GameTablesModel" "drops" "I") ∈ gtb := gtb_3 14 rfl rfl
theorem q3_15 : (Cond.fieldLink "GameTablesModel" 29 "GameTablesModel" "found" "[I") ∈ gtb := gtb_3 15 rfl rfl
theorem q3_16 : (Cond.fieldLink "GameTablesModel" 32 "GameTablesModel" "share" "[J") ∈ gtb := gtb_3 16 rfl rfl
theorem q3_17 : (Cond.fieldLink "GameTablesModel" 35 "GameTablesModel" "whole" "[J") ∈ gtb := gtb_3 17 rfl rfl
theorem q3_18 : (Cond.fieldLink "GameTablesModel" 38 "GameTablesModel" "bitsOf" "[I") ∈ gtb := gtb_3 18 rfl rfl
theorem q3_19 : (Cond.fieldLink "GameTablesModel" 41 "GameTablesModel" "answersOf" "[I") ∈ gtb := gtb_3 19 rfl rfl
theorem q3_20 : (Cond.fieldLink "GameTablesModel" 44 "GameTablesModel" "square" "[J") ∈ gtb := gtb_3 20 rfl rfl
theorem q3_21 : (Cond.fieldLink "GameTablesModel" 47 "GameTablesModel" "chosen" "[I") ∈ gtb := gtb_3 21 rfl rfl
theorem q3_22 : (Cond.fieldLink "GameTablesModel" 50 "GameTablesModel" "answered" "[I") ∈ gtb := gtb_3 22 rfl rfl
theorem q3_23 : (Cond.fieldLink "GameTablesModel" 53 "GameTablesModel" "shares" "[J") ∈ gtb := gtb_3 23 rfl rfl
theorem q3_24 : (Cond.fieldLink "GameTablesModel" 56 "GameTablesModel" "before" "[I") ∈ gtb := gtb_3 24 rfl rfl
theorem q3_25 : (Cond.laysFinal "GameTablesModel" "GameTablesModel" "many" "[I") ∈ gtb := gtb_3 25 rfl rfl
theorem q3_27 : (Cond.laysFinal "GameTablesModel" "GameTablesModel" "pays" "[I") ∈ gtb := gtb_3 27 rfl rfl
theorem q3_29 : (Cond.laysFinal "GameTablesModel" "GameTablesModel" "weights" "[I") ∈ gtb := gtb_3 29 rfl rfl
theorem q3_31 : (Cond.laysFinal "GameTablesModel" "GameTablesModel" "refused" "[I") ∈ gtb := gtb_3 31 rfl rfl
theorem q3_33 : (Cond.laysFinal "GameTablesModel" "GameTablesModel" "trayRow" "[J") ∈ gtb := gtb_3 33 rfl rfl
theorem q3_35 : (Cond.laysFinal "GameTablesModel" "GameTablesModel" "trayColumn" "[J") ∈ gtb := gtb_3 35 rfl rfl
theorem q3_37 : (Cond.lays "GameTablesModel" "GameTablesModel" "leftRow" "I") ∈ gtb := gtb_3 37 rfl rfl
theorem q3_39 : (Cond.lays "GameTablesModel" "GameTablesModel" "leftColumn" "I") ∈ gtb := gtb_3 39 rfl rfl
theorem q3_41 : (Cond.lays "GameTablesModel" "GameTablesModel" "drops" "I") ∈ gtb := gtb_3 41 rfl rfl
theorem q3_43 : (Cond.laysFinal "GameTablesModel" "GameTablesModel" "found" "[I") ∈ gtb := gtb_3 43 rfl rfl
theorem q3_45 : (Cond.laysFinal "GameTablesModel" "GameTablesModel" "share" "[J") ∈ gtb := gtb_3 45 rfl rfl
theorem q3_47 : (Cond.laysFinal "GameTablesModel" "GameTablesModel" "whole" "[J") ∈ gtb := gtb_3 47 rfl rfl
theorem q3_49 : (Cond.laysFinal "GameTablesModel" "GameTablesModel" "bitsOf" "[I") ∈ gtb := gtb_3 49 rfl rfl
theorem q3_51 : (Cond.laysFinal "GameTablesModel" "GameTablesModel" "answersOf" "[I") ∈ gtb := gtb_3 51 rfl rfl
theorem q3_53 : (Cond.laysFinal "GameTablesModel" "GameTablesModel" "square" "[J") ∈ gtb := gtb_3 53 rfl rfl
theorem q3_55 : (Cond.laysFinal "GameTablesModel" "GameTablesModel" "chosen" "[I") ∈ gtb := gtb_3 55 rfl rfl
theorem q3_57 : (Cond.laysFinal "GameTablesModel" "GameTablesModel" "answered" "[I") ∈ gtb := gtb_3 57 rfl rfl
theorem q3_59 : (Cond.laysFinal "GameTablesModel" "GameTablesModel" "shares" "[J") ∈ gtb := gtb_3 59 rfl rfl
theorem q3_61 : (Cond.laysFinal "GameTablesModel" "GameTablesModel" "before" "[I") ∈ gtb := gtb_3 61 rfl rfl
theorem q3_64 : (Cond.methodLink "GameTablesLaw" 17 ⟨"GameTablesModel", "game", "(II)I"⟩) ∈ gtb := gtb_3 64 rfl rfl
theorem q3_65 : (Cond.instanceMethod ⟨"GameTablesModel", "game", "(II)I"⟩) ∈ gtb := gtb_3 65 rfl rfl
theorem q3_66 : (Cond.selects "GameTablesModel" ⟨"GameTablesModel", "game", "(II)I"⟩ ⟨"GameTablesModel", "game", "(II)I"⟩) ∈ gtb := gtb_3 66 rfl rfl
theorem q3_67 : (Cond.code ⟨"GameTablesModel", "game", "(II)I"⟩ prog_7_method_10_code 4 (Option.some FieldType.int)) ∈ gtb := gtb_3 67 rfl rfl
theorem q3_68 : (Cond.methodLink "GameTablesModel" 70 ⟨"GameTablesModel", "refuse", "(I)I"⟩) ∈ gtb := gtb_3 68 rfl rfl
theorem q3_70 : (Cond.instanceMethod ⟨"GameTablesModel", "refuse", "(I)I"⟩) ∈ gtb := gtb_3 70 rfl rfl
theorem q3_71 : (Cond.code ⟨"GameTablesModel", "refuse", "(I)I"⟩ prog_7_method_4_code 2 (Option.some FieldType.int)) ∈ gtb := gtb_3 71 rfl rfl
theorem q3_72 : (Cond.methodLink "GameTablesLaw" 22 ⟨"GameTablesModel", "pay", "(IIII)I"⟩) ∈ gtb := gtb_3 72 rfl rfl
theorem q3_73 : (Cond.instanceMethod ⟨"GameTablesModel", "pay", "(IIII)I"⟩) ∈ gtb := gtb_3 73 rfl rfl
theorem q3_74 : (Cond.selects "GameTablesModel" ⟨"GameTablesModel", "pay", "(IIII)I"⟩ ⟨"GameTablesModel", "pay", "(IIII)I"⟩) ∈ gtb := gtb_3 74 rfl rfl
theorem q3_75 : (Cond.code ⟨"GameTablesModel", "pay", "(IIII)I"⟩ prog_7_method_11_code 7 (Option.some FieldType.int)) ∈ gtb := gtb_3 75 rfl rfl
theorem q3_76 : (Cond.methodLink "GameTablesModel" 62 ⟨"GameTablesModel", "isWho", "(I)Z"⟩) ∈ gtb := gtb_3 76 rfl rfl
theorem q3_77 : (Cond.static ⟨"GameTablesModel", "isWho", "(I)Z"⟩) ∈ gtb := gtb_3 77 rfl rfl
theorem q3_78 : (Cond.code ⟨"GameTablesModel", "isWho", "(I)Z"⟩ prog_7_method_7_code 1 (Option.some FieldType.boolean)) ∈ gtb := gtb_3 78 rfl rfl
theorem q3_79 : (Cond.methodLink "GameTablesModel" 74 ⟨"GameTablesModel", "isChoice", "(II)Z"⟩) ∈ gtb := gtb_3 79 rfl rfl
theorem q3_81 : (Cond.instanceMethod ⟨"GameTablesModel", "isChoice", "(II)Z"⟩) ∈ gtb := gtb_3 81 rfl rfl
theorem q3_82 : (Cond.code ⟨"GameTablesModel", "isChoice", "(II)Z"⟩ prog_7_method_8_code 3 (Option.some FieldType.boolean)) ∈ gtb := gtb_3 82 rfl rfl
theorem q3_83 : (Cond.methodLink "GameTablesModel" 66 ⟨"GameTablesModel", "in", "(JJJ)Z"⟩) ∈ gtb := gtb_3 83 rfl rfl
theorem q3_84 : (Cond.static ⟨"GameTablesModel", "in", "(JJJ)Z"⟩) ∈ gtb := gtb_3 84 rfl rfl
theorem q3_85 : (Cond.code ⟨"GameTablesModel", "in", "(JJJ)Z"⟩ prog_7_method_3_code 6 (Option.some FieldType.boolean)) ∈ gtb := gtb_3 85 rfl rfl
theorem q3_86 : (Cond.methodLink "GameTablesModel" 78 ⟨"GameTablesModel", "refuseBig", "(I)I"⟩) ∈ gtb := gtb_3 86 rfl rfl
theorem q3_88 : (Cond.instanceMethod ⟨"GameTablesModel", "refuseBig", "(I)I"⟩) ∈ gtb := gtb_3 88 rfl rfl
theorem q3_89 : (Cond.code ⟨"GameTablesModel", "refuseBig", "(I)I"⟩ prog_7_method_5_code 2 (Option.some FieldType.int)) ∈ gtb := gtb_3 89 rfl rfl
theorem q3_90 : (Cond.constant "GameTablesModel" 59 (1000000000 : Int32)) ∈ gtb := gtb_3 90 rfl rfl
theorem q3_91 : (Cond.methodLink "GameTablesLaw" 27 ⟨"GameTablesModel", "paid", "(III)I"⟩) ∈ gtb := gtb_3 91 rfl rfl
theorem q3_92 : (Cond.instanceMethod ⟨"GameTablesModel", "paid", "(III)I"⟩) ∈ gtb := gtb_3 92 rfl rfl
theorem q3_93 : (Cond.selects "GameTablesModel" ⟨"GameTablesModel", "paid", "(III)I"⟩ ⟨"GameTablesModel", "paid", "(III)I"⟩) ∈ gtb := gtb_3 93 rfl rfl
theorem q3_94 : (Cond.code ⟨"GameTablesModel", "paid", "(III)I"⟩ prog_7_method_12_code 4 (Option.some FieldType.int)) ∈ gtb := gtb_3 94 rfl rfl
theorem q3_95 : (Cond.methodLink "GameTablesLaw" 31 ⟨"GameTablesModel", "weight", "(III)I"⟩) ∈ gtb := gtb_3 95 rfl rfl
theorem q3_96 : (Cond.instanceMethod ⟨"GameTablesModel", "weight", "(III)I"⟩) ∈ gtb := gtb_3 96 rfl rfl
theorem q3_97 : (Cond.selects "GameTablesModel" ⟨"GameTablesModel", "weight", "(III)I"⟩ ⟨"GameTablesModel", "weight", "(III)I"⟩) ∈ gtb := gtb_3 97 rfl rfl
theorem q3_98 : (Cond.code ⟨"GameTablesModel", "weight", "(III)I"⟩ prog_7_method_13_code 5 (Option.some FieldType.int)) ∈ gtb := gtb_3 98 rfl rfl
theorem q3_99 : (Cond.constantLong "GameTablesModel" 81 (3 : Int64)) ∈ gtb := gtb_3 99 rfl rfl
theorem q3_100 : (Cond.methodLink "GameTablesLaw" 36 ⟨"GameTablesModel", "mean", "(II)J"⟩) ∈ gtb := gtb_3 100 rfl rfl
theorem q3_101 : (Cond.instanceMethod ⟨"GameTablesModel", "mean", "(II)J"⟩) ∈ gtb := gtb_3 101 rfl rfl
theorem q3_102 : (Cond.selects "GameTablesModel" ⟨"GameTablesModel", "mean", "(II)J"⟩ ⟨"GameTablesModel", "mean", "(II)J"⟩) ∈ gtb := gtb_3 102 rfl rfl
theorem q3_103 : (Cond.code ⟨"GameTablesModel", "mean", "(II)J"⟩ prog_7_method_18_code 9 (Option.some FieldType.long)) ∈ gtb := gtb_3 103 rfl rfl
theorem q3_104 : (Cond.methodLink "GameTablesModel" 83 ⟨"GameTablesModel", "refuseGreat", "(I)J"⟩) ∈ gtb := gtb_3 104 rfl rfl
theorem q3_106 : (Cond.instanceMethod ⟨"GameTablesModel", "refuseGreat", "(I)J"⟩) ∈ gtb := gtb_3 106 rfl rfl
theorem q3_107 : (Cond.code ⟨"GameTablesModel", "refuseGreat", "(I)J"⟩ prog_7_method_6_code 2 (Option.some FieldType.long)) ∈ gtb := gtb_3 107 rfl rfl
theorem q3_108 : (Cond.constantLong "GameTablesModel" 60 (4000000000000000000 : Int64)) ∈ gtb := gtb_3 108 rfl rfl
theorem q3_109 : (Cond.methodLink "GameTablesModel" 87 ⟨"GameTablesModel", "sumOf", "(I)I"⟩) ∈ gtb := gtb_3 109 rfl rfl
theorem q3_111 : (Cond.instanceMethod ⟨"GameTablesModel", "sumOf", "(I)I"⟩) ∈ gtb := gtb_3 111 rfl rfl
theorem q3_112 : (Cond.code ⟨"GameTablesModel", "sumOf", "(I)I"⟩ prog_7_method_14_code 4 (Option.some FieldType.int)) ∈ gtb := gtb_3 112 rfl rfl
theorem q3_113 : (Cond.methodLink "GameTablesModel" 90 ⟨"GameTablesModel", "showTray", "()V"⟩) ∈ gtb := gtb_3 113 rfl rfl
theorem q3_115 : (Cond.instanceMethod ⟨"GameTablesModel", "showTray", "()V"⟩) ∈ gtb := gtb_3 115 rfl rfl
theorem q3_116 : (Cond.code ⟨"GameTablesModel", "showTray", "()V"⟩ prog_7_method_17_code 2 (Option.none : Option FieldType)) ∈ gtb := gtb_3 116 rfl rfl
theorem q3_117 : (Cond.methodLink "GameTablesModel" 93 ⟨"GameTablesModel", "meanOf", "(I[JI[JI)J"⟩) ∈ gtb := gtb_3 117 rfl rfl
theorem q3_119 : (Cond.instanceMethod ⟨"GameTablesModel", "meanOf", "(I[JI[JI)J"⟩) ∈ gtb := gtb_3 119 rfl rfl
theorem q3_120 : (Cond.code ⟨"GameTablesModel", "meanOf", "(I[JI[JI)J"⟩ prog_7_method_16_code 10 (Option.some FieldType.long)) ∈ gtb := gtb_3 120 rfl rfl
theorem q3_121 : (Cond.methodLink "GameTablesModel" 97 ⟨"GameTablesModel", "common", "(JJ)J"⟩) ∈ gtb := gtb_3 121 rfl rfl
theorem q3_122 : (Cond.static ⟨"GameTablesModel", "common", "(JJ)J"⟩) ∈ gtb := gtb_3 122 rfl rfl
theorem q3_123 : (Cond.code ⟨"GameTablesModel", "common", "(JJ)J"⟩ prog_7_method_15_code 10 (Option.some FieldType.long)) ∈ gtb := gtb_3 123 rfl rfl
theorem q3_124 : (Cond.methodLink "GameTablesLaw" 41 ⟨"GameTablesModel", "answers", "(I)I"⟩) ∈ gtb := gtb_3 124 rfl rfl
theorem q3_125 : (Cond.instanceMethod ⟨"GameTablesModel", "answers", "(I)I"⟩) ∈ gtb := gtb_3 125 rfl rfl
theorem q3_126 : (Cond.selects "GameTablesModel" ⟨"GameTablesModel", "answers", "(I)I"⟩ ⟨"GameTablesModel", "answers", "(I)I"⟩) ∈ gtb := gtb_3 126 rfl rfl
theorem q3_127 : (Cond.code ⟨"GameTablesModel", "answers", "(I)I"⟩ prog_7_method_21_code 2 (Option.some FieldType.int)) ∈ gtb := gtb_3 127 rfl rfl
theorem q3_128 : (Cond.methodLink "GameTablesModel" 109 ⟨"GameTablesModel", "trayAnswers", "(I)I"⟩) ∈ gtb := gtb_3 128 rfl rfl
theorem q3_130 : (Cond.instanceMethod ⟨"GameTablesModel", "trayAnswers", "(I)I"⟩) ∈ gtb := gtb_3 130 rfl rfl
theorem q3_131 : (Cond.code ⟨"GameTablesModel", "trayAnswers", "(I)I"⟩ prog_7_method_20_code 2 (Option.some FieldType.int)) ∈ gtb := gtb_3 131 rfl rfl
theorem q3_132 : (Cond.methodLink "GameTablesModel" 105 ⟨"GameTablesModel", "answersTo", "(I[JI)I"⟩) ∈ gtb := gtb_3 132 rfl rfl
theorem q3_134 : (Cond.instanceMethod ⟨"GameTablesModel", "answersTo", "(I[JI)I"⟩) ∈ gtb := gtb_3 134 rfl rfl
theorem q3_135 : (Cond.code ⟨"GameTablesModel", "answersTo", "(I[JI)I"⟩ prog_7_method_19_code 11 (Option.some FieldType.int)) ∈ gtb := gtb_3 135 rfl rfl
theorem q3_136 : (Cond.methodLink "GameTablesModel" 101 ⟨"GameTablesModel", "get", "(III)I"⟩) ∈ gtb := gtb_3 136 rfl rfl
theorem q3_138 : (Cond.instanceMethod ⟨"GameTablesModel", "get", "(III)I"⟩) ∈ gtb := gtb_3 138 rfl rfl
theorem q3_139 : (Cond.code ⟨"GameTablesModel", "get", "(III)I"⟩ prog_7_method_9_code 4 (Option.some FieldType.int)) ∈ gtb := gtb_3 139 rfl rfl
theorem q3_140 : (Cond.methodLink "GameTablesLaw" 46 ⟨"GameTablesModel", "is", "()I"⟩) ∈ gtb := gtb_3 140 rfl rfl
theorem q3_141 : (Cond.instanceMethod ⟨"GameTablesModel", "is", "()I"⟩) ∈ gtb := gtb_3 141 rfl rfl
theorem q3_142 : (Cond.selects "GameTablesModel" ⟨"GameTablesModel", "is", "()I"⟩ ⟨"GameTablesModel", "is", "()I"⟩) ∈ gtb := gtb_3 142 rfl rfl
theorem q3_143 : (Cond.code ⟨"GameTablesModel", "is", "()I"⟩ prog_7_method_23_code 1 (Option.some FieldType.int)) ∈ gtb := gtb_3 143 rfl rfl
theorem q3_144 : (Cond.methodLink "GameTablesModel" 112 ⟨"GameTablesModel", "whyNot", "()I"⟩) ∈ gtb := gtb_3 144 rfl rfl
theorem q3_146 : (Cond.instanceMethod ⟨"GameTablesModel", "whyNot", "()I"⟩) ∈ gtb := gtb_3 146 rfl rfl
theorem q3_147 : (Cond.code ⟨"GameTablesModel", "whyNot", "()I"⟩ prog_7_method_22_code 4 (Option.some FieldType.int)) ∈ gtb := gtb_3 147 rfl rfl
theorem q3_148 : (Cond.methodLink "GameTablesLaw" 50 ⟨"GameTablesModel", "why", "()I"⟩) ∈ gtb := gtb_3 148 rfl rfl
theorem q3_149 : (Cond.instanceMethod ⟨"GameTablesModel", "why", "()I"⟩) ∈ gtb := gtb_3 149 rfl rfl
theorem q3_150 : (Cond.selects "GameTablesModel" ⟨"GameTablesModel", "why", "()I"⟩ ⟨"GameTablesModel", "why", "()I"⟩) ∈ gtb := gtb_3 150 rfl rfl
theorem q3_151 : (Cond.code ⟨"GameTablesModel", "why", "()I"⟩ prog_7_method_24_code 1 (Option.some FieldType.int)) ∈ gtb := gtb_3 151 rfl rfl
theorem q3_152 : (Cond.methodLink "GameTablesLaw" 54 ⟨"GameTablesModel", "worse", "(II)I"⟩) ∈ gtb := gtb_3 152 rfl rfl
theorem q3_153 : (Cond.instanceMethod ⟨"GameTablesModel", "worse", "(II)I"⟩) ∈ gtb := gtb_3 153 rfl rfl
theorem q3_154 : (Cond.selects "GameTablesModel" ⟨"GameTablesModel", "worse", "(II)I"⟩ ⟨"GameTablesModel", "worse", "(II)I"⟩) ∈ gtb := gtb_3 154 rfl rfl
theorem q3_155 : (Cond.code ⟨"GameTablesModel", "worse", "(II)I"⟩ prog_7_method_26_code 3 (Option.some FieldType.int)) ∈ gtb := gtb_3 155 rfl rfl
theorem q3_156 : (Cond.methodLink "GameTablesModel" 116 ⟨"GameTablesModel", "worseBy", "(IIII)I"⟩) ∈ gtb := gtb_3 156 rfl rfl
theorem q3_158 : (Cond.instanceMethod ⟨"GameTablesModel", "worseBy", "(IIII)I"⟩) ∈ gtb := gtb_3 158 rfl rfl
theorem q3_159 : (Cond.code ⟨"GameTablesModel", "worseBy", "(IIII)I"⟩ prog_7_method_25_code 8 (Option.some FieldType.int)) ∈ gtb := gtb_3 159 rfl rfl
theorem q3_160 : (Cond.methodLink "GameTablesLaw" 58 ⟨"GameTablesModel", "left", "(I)I"⟩) ∈ gtb := gtb_3 160 rfl rfl
theorem q3_161 : (Cond.instanceMethod ⟨"GameTablesModel", "left", "(I)I"⟩) ∈ gtb := gtb_3 161 rfl rfl
theorem q3_162 : (Cond.selects "GameTablesModel" ⟨"GameTablesModel", "left", "(I)I"⟩ ⟨"GameTablesModel", "left", "(I)I"⟩) ∈ gtb := gtb_3 162 rfl rfl
theorem q3_163 : (Cond.code ⟨"GameTablesModel", "left", "(I)I"⟩ prog_7_method_28_code 2 (Option.some FieldType.int)) ∈ gtb := gtb_3 163 rfl rfl
theorem q3_164 : (Cond.methodLink "GameTablesModel" 130 ⟨"GameTablesModel", "drop", "()V"⟩) ∈ gtb := gtb_3 164 rfl rfl
theorem q3_166 : (Cond.instanceMethod ⟨"GameTablesModel", "drop", "()V"⟩) ∈ gtb := gtb_3 166 rfl rfl
theorem q3_167 : (Cond.code ⟨"GameTablesModel", "drop", "()V"⟩ prog_7_method_27_code 6 (Option.none : Option FieldType)) ∈ gtb := gtb_3 167 rfl rfl
theorem q3_168 : (Cond.methodLink "GameTablesLaw" 62 ⟨"GameTablesModel", "times", "()I"⟩) ∈ gtb := gtb_3 168 rfl rfl
theorem q3_169 : (Cond.instanceMethod ⟨"GameTablesModel", "times", "()I"⟩) ∈ gtb := gtb_3 169 rfl rfl
theorem q3_170 : (Cond.selects "GameTablesModel" ⟨"GameTablesModel", "times", "()I"⟩ ⟨"GameTablesModel", "times", "()I"⟩) ∈ gtb := gtb_3 170 rfl rfl
theorem q3_171 : (Cond.code ⟨"GameTablesModel", "times", "()I"⟩ prog_7_method_29_code 1 (Option.some FieldType.int)) ∈ gtb := gtb_3 171 rfl rfl
theorem q3_172 : (Cond.methodLink "GameTablesLaw" 66 ⟨"GameTablesModel", "sure", "(I)I"⟩) ∈ gtb := gtb_3 172 rfl rfl
theorem q3_173 : (Cond.instanceMethod ⟨"GameTablesModel", "sure", "(I)I"⟩) ∈ gtb := gtb_3 173 rfl rfl
theorem q3_174 : (Cond.selects "GameTablesModel" ⟨"GameTablesModel", "sure", "(I)I"⟩ ⟨"GameTablesModel", "sure", "(I)I"⟩) ∈ gtb := gtb_3 174 rfl rfl
theorem q3_175 : (Cond.code ⟨"GameTablesModel", "sure", "(I)I"⟩ prog_7_method_30_code 6 (Option.some FieldType.int)) ∈ gtb := gtb_3 175 rfl rfl
theorem q3_176 : (Cond.methodLink "GameTablesLaw" 70 ⟨"GameTablesModel", "hold", "(I)I"⟩) ∈ gtb := gtb_3 176 rfl rfl
theorem q3_177 : (Cond.instanceMethod ⟨"GameTablesModel", "hold", "(I)I"⟩) ∈ gtb := gtb_3 177 rfl rfl
theorem q3_178 : (Cond.selects "GameTablesModel" ⟨"GameTablesModel", "hold", "(I)I"⟩ ⟨"GameTablesModel", "hold", "(I)I"⟩) ∈ gtb := gtb_3 178 rfl rfl
theorem q3_179 : (Cond.code ⟨"GameTablesModel", "hold", "(I)I"⟩ prog_7_method_31_code 6 (Option.some FieldType.int)) ∈ gtb := gtb_3 179 rfl rfl
theorem q3_180 : (Cond.methodLink "GameTablesLaw" 74 ⟨"GameTablesModel", "corners", "(I)I"⟩) ∈ gtb := gtb_3 180 rfl rfl
theorem q3_181 : (Cond.instanceMethod ⟨"GameTablesModel", "corners", "(I)I"⟩) ∈ gtb := gtb_3 181 rfl rfl
theorem q3_182 : (Cond.selects "GameTablesModel" ⟨"GameTablesModel", "corners", "(I)I"⟩ ⟨"GameTablesModel", "corners", "(I)I"⟩) ∈ gtb := gtb_3 182 rfl rfl
theorem q3_183 : (Cond.code ⟨"GameTablesModel", "corners", "(I)I"⟩ prog_7_method_39_code 2 (Option.some FieldType.int)) ∈ gtb := gtb_3 183 rfl rfl
theorem q3_184 : (Cond.methodLink "GameTablesModel" 154 ⟨"GameTablesModel", "findCorners", "(I)V"⟩) ∈ gtb := gtb_3 184 rfl rfl
theorem q3_186 : (Cond.instanceMethod ⟨"GameTablesModel", "findCorners", "(I)V"⟩) ∈ gtb := gtb_3 186 rfl rfl
theorem q3_187 : (Cond.code ⟨"GameTablesModel", "findCorners", "(I)V"⟩ prog_7_method_38_code 7 (Option.none : Option FieldType)) ∈ gtb := gtb_3 187 rfl rfl
theorem q3_188 : (Cond.methodLink "GameTablesModel" 140 ⟨"GameTablesModel", "manyIn", "(I)I"⟩) ∈ gtb := gtb_3 188 rfl rfl
theorem q3_189 : (Cond.static ⟨"GameTablesModel", "manyIn", "(I)I"⟩) ∈ gtb := gtb_3 189 rfl rfl
theorem q3_190 : (Cond.code ⟨"GameTablesModel", "manyIn", "(I)I"⟩ prog_7_method_32_code 1 (Option.some FieldType.int)) ∈ gtb := gtb_3 190 rfl rfl
theorem q3_191 : (Cond.methodLink "GameTablesModel" 143 ⟨"GameTablesModel", "listed", "(I[I)I"⟩) ∈ gtb := gtb_3 191 rfl rfl
theorem q3_192 : (Cond.static ⟨"GameTablesModel", "listed", "(I[I)I"⟩) ∈ gtb := gtb_3 192 rfl rfl
theorem q3_193 : (Cond.code ⟨"GameTablesModel", "listed", "(I[I)I"⟩ prog_7_method_33_code 4 (Option.some FieldType.int)) ∈ gtb := gtb_3 193 rfl rfl
theorem q3_194 : (Cond.methodLink "GameTablesModel" 147 ⟨"GameTablesModel", "solve", "(II)Z"⟩) ∈ gtb := gtb_3 194 rfl rfl
theorem q3_196 : (Cond.instanceMethod ⟨"GameTablesModel", "solve", "(II)Z"⟩) ∈ gtb := gtb_3 196 rfl rfl
theorem q3_197 : (Cond.code ⟨"GameTablesModel", "solve", "(II)Z"⟩ prog_7_method_35_code 9 (Option.some FieldType.boolean)) ∈ gtb := gtb_3 197 rfl rfl
theorem q3_198 : (Cond.methodLink "GameTablesModel" 133 ⟨"GameTablesModel", "without", "(III)J"⟩) ∈ gtb := gtb_3 198 rfl rfl
theorem q3_200 : (Cond.instanceMethod ⟨"GameTablesModel", "without", "(III)J"⟩) ∈ gtb := gtb_3 200 rfl rfl
theorem q3_201 : (Cond.code ⟨"GameTablesModel", "without", "(III)J"⟩ prog_7_method_34_code 7 (Option.some FieldType.long)) ∈ gtb := gtb_3 201 rfl rfl
theorem q3_202 : (Cond.methodLink "GameTablesModel" 150 ⟨"GameTablesModel", "put", "(III)V"⟩) ∈ gtb := gtb_3 202 rfl rfl
theorem q3_204 : (Cond.instanceMethod ⟨"GameTablesModel", "put", "(III)V"⟩) ∈ gtb := gtb_3 204 rfl rfl
theorem q3_205 : (Cond.code ⟨"GameTablesModel", "put", "(III)V"⟩ prog_7_method_37_code 7 (Option.none : Option FieldType)) ∈ gtb := gtb_3 205 rfl rfl
theorem q3_206 : (Cond.methodLink "GameTablesModel" 137 ⟨"GameTablesModel", "ahead", "(I)I"⟩) ∈ gtb := gtb_3 206 rfl rfl
theorem q3_208 : (Cond.instanceMethod ⟨"GameTablesModel", "ahead", "(I)I"⟩) ∈ gtb := gtb_3 208 rfl rfl
theorem q3_209 : (Cond.code ⟨"GameTablesModel", "ahead", "(I)I"⟩ prog_7_method_36_code 9 (Option.some FieldType.int)) ∈ gtb := gtb_3 209 rfl rfl
theorem q3_210 : (Cond.methodLink "GameTablesLaw" 78 ⟨"GameTablesModel", "corner", "(IIII)I"⟩) ∈ gtb := gtb_3 210 rfl rfl
theorem q3_211 : (Cond.instanceMethod ⟨"GameTablesModel", "corner", "(IIII)I"⟩) ∈ gtb := gtb_3 211 rfl rfl
theorem q3_212 : (Cond.selects "GameTablesModel" ⟨"GameTablesModel", "corner", "(IIII)I"⟩ ⟨"GameTablesModel", "corner", "(IIII)I"⟩) ∈ gtb := gtb_3 212 rfl rfl
theorem q3_213 : (Cond.code ⟨"GameTablesModel", "corner", "(IIII)I"⟩ prog_7_method_40_code 8 (Option.some FieldType.int)) ∈ gtb := gtb_3 213 rfl rfl
theorem q3_214 : (Cond.methodLink "GameTablesLaw" 82 ⟨"GameTablesModel", "balances", "()I"⟩) ∈ gtb := gtb_3 214 rfl rfl
theorem q3_215 : (Cond.instanceMethod ⟨"GameTablesModel", "balances", "()I"⟩) ∈ gtb := gtb_3 215 rfl rfl
theorem q3_216 : (Cond.selects "GameTablesModel" ⟨"GameTablesModel", "balances", "()I"⟩ ⟨"GameTablesModel", "balances", "()I"⟩) ∈ gtb := gtb_3 216 rfl rfl
theorem q3_217 : (Cond.code ⟨"GameTablesModel", "balances", "()I"⟩ prog_7_method_42_code 4 (Option.some FieldType.int)) ∈ gtb := gtb_3 217 rfl rfl
theorem q3_218 : (Cond.methodLink "GameTablesModel" 158 ⟨"GameTablesModel", "isBalance", "(II)Z"⟩) ∈ gtb := gtb_3 218 rfl rfl
theorem q3_220 : (Cond.instanceMethod ⟨"GameTablesModel", "isBalance", "(II)Z"⟩) ∈ gtb := gtb_3 220 rfl rfl
theorem q3_221 : (Cond.code ⟨"GameTablesModel", "isBalance", "(II)Z"⟩ prog_7_method_41_code 3 (Option.some FieldType.boolean)) ∈ gtb := gtb_3 221 rfl rfl
theorem q3_222 : (Cond.methodLink "GameTablesLaw" 86 ⟨"GameTablesModel", "balance", "(II)J"⟩) ∈ gtb := gtb_3 222 rfl rfl
theorem q3_223 : (Cond.instanceMethod ⟨"GameTablesModel", "balance", "(II)J"⟩) ∈ gtb := gtb_3 223 rfl rfl
theorem q3_224 : (Cond.selects "GameTablesModel" ⟨"GameTablesModel", "balance", "(II)J"⟩ ⟨"GameTablesModel", "balance", "(II)J"⟩) ∈ gtb := gtb_3 224 rfl rfl
theorem q3_225 : (Cond.code ⟨"GameTablesModel", "balance", "(II)J"⟩ prog_7_method_45_code 6 (Option.some FieldType.long)) ∈ gtb := gtb_3 225 rfl rfl
theorem q3_226 : (Cond.constantLong "GameTablesModel" 165 (6 : Int64)) ∈ gtb := gtb_3 226 rfl rfl
theorem q3_227 : (Cond.methodLink "GameTablesModel" 167 ⟨"GameTablesModel", "told", "(III)J"⟩) ∈ gtb := gtb_3 227 rfl rfl
theorem q3_229 : (Cond.instanceMethod ⟨"GameTablesModel", "told", "(III)J"⟩) ∈ gtb := gtb_3 229 rfl rfl
theorem q3_230 : (Cond.code ⟨"GameTablesModel", "told", "(III)J"⟩ prog_7_method_44_code 10 (Option.some FieldType.long)) ∈ gtb := gtb_3 230 rfl rfl
theorem q3_231 : (Cond.methodLink "GameTablesModel" 161 ⟨"GameTablesModel", "kindOf", "(II)I"⟩) ∈ gtb := gtb_3 231 rfl rfl
theorem q3_233 : (Cond.instanceMethod ⟨"GameTablesModel", "kindOf", "(II)I"⟩) ∈ gtb := gtb_3 233 rfl rfl
theorem q3_234 : (Cond.code ⟨"GameTablesModel", "kindOf", "(II)I"⟩ prog_7_method_43_code 5 (Option.some FieldType.int)) ∈ gtb := gtb_3 234 rfl rfl
theorem q3_235 : (Cond.methodLink "GameTablesLaw" 90 ⟨"GameTablesModel", "find", "()I"⟩) ∈ gtb := gtb_3 235 rfl rfl
theorem q3_236 : (Cond.instanceMethod ⟨"GameTablesModel", "find", "()I"⟩) ∈ gtb := gtb_3 236 rfl rfl
theorem q3_237 : (Cond.selects "GameTablesModel" ⟨"GameTablesModel", "find", "()I"⟩ ⟨"GameTablesModel", "find", "()I"⟩) ∈ gtb := gtb_3 237 rfl rfl
theorem q3_238 : (Cond.code ⟨"GameTablesModel", "find", "()I"⟩ prog_7_method_47_code 6 (Option.some FieldType.int)) ∈ gtb := gtb_3 238 rfl rfl
theorem q3_239 : (Cond.methodLink "GameTablesModel" 170 ⟨"GameTablesModel", "cornerOfTray", "(I)I"⟩) ∈ gtb := gtb_3 239 rfl rfl
theorem q4_1 : (Cond.instanceMethod ⟨"GameTablesModel", "cornerOfTray", "(I)I"⟩) ∈ gtb := gtb_4 1 rfl rfl
theorem q4_2 : (Cond.code ⟨"GameTablesModel", "cornerOfTray", "(I)I"⟩ prog_7_method_46_code 3 (Option.some FieldType.int)) ∈ gtb := gtb_4 2 rfl rfl
theorem q4_3 : (Cond.methodLink "GameTablesLaw" 94 ⟨"GameTablesModel", "turn", "()I"⟩) ∈ gtb := gtb_4 3 rfl rfl
theorem q4_4 : (Cond.instanceMethod ⟨"GameTablesModel", "turn", "()I"⟩) ∈ gtb := gtb_4 4 rfl rfl
theorem q4_5 : (Cond.selects "GameTablesModel" ⟨"GameTablesModel", "turn", "()I"⟩ ⟨"GameTablesModel", "turn", "()I"⟩) ∈ gtb := gtb_4 5 rfl rfl
theorem q4_6 : (Cond.code ⟨"GameTablesModel", "turn", "()I"⟩ prog_7_method_48_code 3 (Option.some FieldType.int)) ∈ gtb := gtb_4 6 rfl rfl
theorem q4_7 : (Cond.methodLink "GameTablesLaw" 98 ⟨"GameTablesModel", "raise", "(III)I"⟩) ∈ gtb := gtb_4 7 rfl rfl
theorem q4_8 : (Cond.instanceMethod ⟨"GameTablesModel", "raise", "(III)I"⟩) ∈ gtb := gtb_4 8 rfl rfl
theorem q4_9 : (Cond.selects "GameTablesModel" ⟨"GameTablesModel", "raise", "(III)I"⟩ ⟨"GameTablesModel", "raise", "(III)I"⟩) ∈ gtb := gtb_4 9 rfl rfl
theorem q4_10 : (Cond.code ⟨"GameTablesModel", "raise", "(III)I"⟩ prog_7_method_50_code 9 (Option.some FieldType.int)) ∈ gtb := gtb_4 10 rfl rfl
theorem q4_11 : (Cond.constantLong "GameTablesModel" 173 (-20 : Int64)) ∈ gtb := gtb_4 11 rfl rfl
theorem q4_12 : (Cond.constantLong "GameTablesModel" 175 (20 : Int64)) ∈ gtb := gtb_4 12 rfl rfl
theorem q4_13 : (Cond.methodLink "GameTablesModel" 177 ⟨"GameTablesModel", "placeOf", "(III)I"⟩) ∈ gtb := gtb_4 13 rfl rfl
theorem q4_15 : (Cond.instanceMethod ⟨"GameTablesModel", "placeOf", "(III)I"⟩) ∈ gtb := gtb_4 15 rfl rfl
theorem q4_16 : (Cond.code ⟨"GameTablesModel", "placeOf", "(III)I"⟩ prog_7_method_49_code 4 (Option.some FieldType.int)) ∈ gtb := gtb_4 16 rfl rfl
theorem q4_17 : (Cond.methodLink "GameTablesLaw" 102 ⟨"GameTablesModel", "scale", "(II)I"⟩) ∈ gtb := gtb_4 17 rfl rfl
theorem q4_18 : (Cond.instanceMethod ⟨"GameTablesModel", "scale", "(II)I"⟩) ∈ gtb := gtb_4 18 rfl rfl
theorem q4_19 : (Cond.selects "GameTablesModel" ⟨"GameTablesModel", "scale", "(II)I"⟩ ⟨"GameTablesModel", "scale", "(II)I"⟩) ∈ gtb := gtb_4 19 rfl rfl
theorem q4_20 : (Cond.code ⟨"GameTablesModel", "scale", "(II)I"⟩ prog_7_method_51_code 4 (Option.some FieldType.int)) ∈ gtb := gtb_4 20 rfl rfl
theorem q4_21 : (Cond.methodLink "GameTablesLaw" 106 ⟨"GameTablesModel", "status", "(I)I"⟩) ∈ gtb := gtb_4 21 rfl rfl
theorem q4_22 : (Cond.instanceMethod ⟨"GameTablesModel", "status", "(I)I"⟩) ∈ gtb := gtb_4 22 rfl rfl
theorem q4_23 : (Cond.selects "GameTablesModel" ⟨"GameTablesModel", "status", "(I)I"⟩ ⟨"GameTablesModel", "status", "(I)I"⟩) ∈ gtb := gtb_4 23 rfl rfl
theorem q4_24 : (Cond.code ⟨"GameTablesModel", "status", "(I)I"⟩ prog_7_method_52_code 6 (Option.some FieldType.int)) ∈ gtb := gtb_4 24 rfl rfl
theorem q4_25 : (Cond.constantLong "GameTablesModel" 180 (11 : Int64)) ∈ gtb := gtb_4 25 rfl rfl
theorem q4_26 : (Cond.constantLong "GameTablesModel" 182 (16 : Int64)) ∈ gtb := gtb_4 26 rfl rfl
theorem gtb_s {q : MethodName × Nat} (i : Nat) (h : lw_privs[i]? = some q) : Cond.selects q.1.cls q.1 q.1 ∈ gtb := List.mem_filter.mpr ⟨List.mem_append_left _ (List.mem_map.mpr ⟨q, List.mem_of_getElem? h, rfl⟩), rfl⟩
theorem qs_0 : (Cond.selects "GameTables" ⟨"GameTables", "refuse", "(I)I"⟩ ⟨"GameTables", "refuse", "(I)I"⟩) ∈ gtb := gtb_s (q := (⟨"GameTables", "refuse", "(I)I"⟩, 5)) 0 rfl
theorem qs_1 : (Cond.selects "GameTables" ⟨"GameTables", "isPlace", "(III)Z"⟩ ⟨"GameTables", "isPlace", "(III)Z"⟩) ∈ gtb := gtb_s (q := (⟨"GameTables", "isPlace", "(III)Z"⟩, 5)) 1 rfl
theorem qs_2 : (Cond.selects "GameTables" ⟨"GameTables", "refuseAmongPays", "(I)I"⟩ ⟨"GameTables", "refuseAmongPays", "(I)I"⟩) ∈ gtb := gtb_s (q := (⟨"GameTables", "refuseAmongPays", "(I)I"⟩, 5)) 2 rfl
theorem qs_3 : (Cond.selects "GameTables" ⟨"GameTables", "player", "(I)LGameTables$Player;"⟩ ⟨"GameTables", "player", "(I)LGameTables$Player;"⟩) ∈ gtb := gtb_s (q := (⟨"GameTables", "player", "(I)LGameTables$Player;"⟩, 5)) 3 rfl
theorem qs_4 : (Cond.selects "GameTables" ⟨"GameTables", "refuseAmongLongs", "(I)J"⟩ ⟨"GameTables", "refuseAmongLongs", "(I)J"⟩) ∈ gtb := gtb_s (q := (⟨"GameTables", "refuseAmongLongs", "(I)J"⟩, 5)) 4 rfl
theorem qs_5 : (Cond.selects "GameTables" ⟨"GameTables", "trayOf", "(I)LGameTables$Mix;"⟩ ⟨"GameTables", "trayOf", "(I)LGameTables$Mix;"⟩) ∈ gtb := gtb_s (q := (⟨"GameTables", "trayOf", "(I)LGameTables$Mix;"⟩, 5)) 5 rfl
theorem qs_6 : (Cond.selects "GameTables$Player" ⟨"GameTables$Player", "worthOf", "(ILGameTables$Mix;)J"⟩ ⟨"GameTables$Player", "worthOf", "(ILGameTables$Mix;)J"⟩) ∈ gtb := gtb_s (q := (⟨"GameTables$Player", "worthOf", "(ILGameTables$Mix;)J"⟩, 5)) 6 rfl
theorem qs_7 : (Cond.selects "GameTables$Player" ⟨"GameTables$Player", "paysMore", "(III)Z"⟩ ⟨"GameTables$Player", "paysMore", "(III)Z"⟩) ∈ gtb := gtb_s (q := (⟨"GameTables$Player", "paysMore", "(III)Z"⟩, 5)) 7 rfl
theorem qs_8 : (Cond.selects "GameTables$Player" ⟨"GameTables$Player", "leastFor", "(II)I"⟩ ⟨"GameTables$Player", "leastFor", "(II)I"⟩) ∈ gtb := gtb_s (q := (⟨"GameTables$Player", "leastFor", "(II)I"⟩, 5)) 8 rfl
theorem qs_9 : (Cond.selects "GameTables" ⟨"GameTables", "knowCorners", "()V"⟩ ⟨"GameTables", "knowCorners", "()V"⟩) ∈ gtb := gtb_s (q := (⟨"GameTables", "knowCorners", "()V"⟩, 5)) 9 rfl
theorem qs_10 : (Cond.selects "GameTables$Corners" ⟨"GameTables$Corners", "search", "(IILGameTables$Player;)V"⟩ ⟨"GameTables$Corners", "search", "(IILGameTables$Player;)V"⟩) ∈ gtb := gtb_s (q := (⟨"GameTables$Corners", "search", "(IILGameTables$Player;)V"⟩, 4)) 10 rfl
theorem qs_11 : (Cond.selects "GameTables$Corners" ⟨"GameTables$Corners", "layGaps", "(IILGameTables$Player;)V"⟩ ⟨"GameTables$Corners", "layGaps", "(IILGameTables$Player;)V"⟩) ∈ gtb := gtb_s (q := (⟨"GameTables$Corners", "layGaps", "(IILGameTables$Player;)V"⟩, 4)) 11 rfl
theorem qs_12 : (Cond.selects "GameTables$Corners" ⟨"GameTables$Corners", "layLine", "(IILGameTables$Player;II)V"⟩ ⟨"GameTables$Corners", "layLine", "(IILGameTables$Player;II)V"⟩) ∈ gtb := gtb_s (q := (⟨"GameTables$Corners", "layLine", "(IILGameTables$Player;II)V"⟩, 4)) 12 rfl
theorem qs_13 : (Cond.selects "GameTables$Corners" ⟨"GameTables$Corners", "layParts", "(I)V"⟩ ⟨"GameTables$Corners", "layParts", "(I)V"⟩) ∈ gtb := gtb_s (q := (⟨"GameTables$Corners", "layParts", "(I)V"⟩, 4)) 13 rfl
theorem qs_14 : (Cond.selects "GameTables$Corners" ⟨"GameTables$Corners", "gapsWithout", "(II)J"⟩ ⟨"GameTables$Corners", "gapsWithout", "(II)J"⟩) ∈ gtb := gtb_s (q := (⟨"GameTables$Corners", "gapsWithout", "(II)J"⟩, 4)) 14 rfl
theorem qs_15 : (Cond.selects "GameTables$Corners" ⟨"GameTables$Corners", "twoLines", "(IIII)J"⟩ ⟨"GameTables$Corners", "twoLines", "(IIII)J"⟩) ∈ gtb := gtb_s (q := (⟨"GameTables$Corners", "twoLines", "(IIII)J"⟩, 4)) 15 rfl
theorem qs_16 : (Cond.selects "GameTables$Corners" ⟨"GameTables$Corners", "makePositive", "(I)Z"⟩ ⟨"GameTables$Corners", "makePositive", "(I)Z"⟩) ∈ gtb := gtb_s (q := (⟨"GameTables$Corners", "makePositive", "(I)Z"⟩, 4)) 16 rfl
theorem qs_17 : (Cond.selects "GameTables$Corners" ⟨"GameTables$Corners", "signOfFirst", "(I)J"⟩ ⟨"GameTables$Corners", "signOfFirst", "(I)J"⟩) ∈ gtb := gtb_s (q := (⟨"GameTables$Corners", "signOfFirst", "(I)J"⟩, 4)) 17 rfl
theorem qs_18 : (Cond.selects "GameTables$Corners" ⟨"GameTables$Corners", "keepSpare", "()V"⟩ ⟨"GameTables$Corners", "keepSpare", "()V"⟩) ∈ gtb := gtb_s (q := (⟨"GameTables$Corners", "keepSpare", "()V"⟩, 4)) 18 rfl
theorem qs_19 : (Cond.selects "GameTables$Corners" ⟨"GameTables$Corners", "insertSpare", "(I)V"⟩ ⟨"GameTables$Corners", "insertSpare", "(I)V"⟩) ∈ gtb := gtb_s (q := (⟨"GameTables$Corners", "insertSpare", "(I)V"⟩, 4)) 19 rfl
theorem qs_20 : (Cond.selects "GameTables" ⟨"GameTables", "balancesBefore", "(II)I"⟩ ⟨"GameTables", "balancesBefore", "(II)I"⟩) ∈ gtb := gtb_s (q := (⟨"GameTables", "balancesBefore", "(II)I"⟩, 5)) 20 rfl
theorem qs_21 : (Cond.selects "GameTables" ⟨"GameTables", "balancesOf", "(LGameTables$Mix;I)I"⟩ ⟨"GameTables", "balancesOf", "(LGameTables$Mix;I)I"⟩) ∈ gtb := gtb_s (q := (⟨"GameTables", "balancesOf", "(LGameTables$Mix;I)I"⟩, 5)) 21 rfl
theorem qs_22 : (Cond.selects "GameTables" ⟨"GameTables", "pairOf", "(I)I"⟩ ⟨"GameTables", "pairOf", "(I)I"⟩) ∈ gtb := gtb_s (q := (⟨"GameTables", "pairOf", "(I)I"⟩, 5)) 22 rfl
theorem qs_23 : (Cond.selects "GameTables" ⟨"GameTables", "kindOf", "(LGameTables$Mix;LGameTables$Mix;)I"⟩ ⟨"GameTables", "kindOf", "(LGameTables$Mix;LGameTables$Mix;)I"⟩) ∈ gtb := gtb_s (q := (⟨"GameTables", "kindOf", "(LGameTables$Mix;LGameTables$Mix;)I"⟩, 5)) 23 rfl
theorem qs_24 : (Cond.selects "GameTables" ⟨"GameTables", "refusalsCounted", "(I)I"⟩ ⟨"GameTables", "refusalsCounted", "(I)I"⟩) ∈ gtb := gtb_s (q := (⟨"GameTables", "refusalsCounted", "(I)I"⟩, 5)) 24 rfl
theorem qs_25 : (Cond.selects "GameTablesModel" ⟨"GameTablesModel", "refuse", "(I)I"⟩ ⟨"GameTablesModel", "refuse", "(I)I"⟩) ∈ gtb := gtb_s (q := (⟨"GameTablesModel", "refuse", "(I)I"⟩, 19)) 25 rfl
theorem qs_26 : (Cond.selects "GameTablesModel" ⟨"GameTablesModel", "isChoice", "(II)Z"⟩ ⟨"GameTablesModel", "isChoice", "(II)Z"⟩) ∈ gtb := gtb_s (q := (⟨"GameTablesModel", "isChoice", "(II)Z"⟩, 19)) 26 rfl
theorem qs_27 : (Cond.selects "GameTablesModel" ⟨"GameTablesModel", "refuseBig", "(I)I"⟩ ⟨"GameTablesModel", "refuseBig", "(I)I"⟩) ∈ gtb := gtb_s (q := (⟨"GameTablesModel", "refuseBig", "(I)I"⟩, 19)) 27 rfl
theorem qs_28 : (Cond.selects "GameTablesModel" ⟨"GameTablesModel", "refuseGreat", "(I)J"⟩ ⟨"GameTablesModel", "refuseGreat", "(I)J"⟩) ∈ gtb := gtb_s (q := (⟨"GameTablesModel", "refuseGreat", "(I)J"⟩, 19)) 28 rfl
theorem qs_29 : (Cond.selects "GameTablesModel" ⟨"GameTablesModel", "sumOf", "(I)I"⟩ ⟨"GameTablesModel", "sumOf", "(I)I"⟩) ∈ gtb := gtb_s (q := (⟨"GameTablesModel", "sumOf", "(I)I"⟩, 19)) 29 rfl
theorem qs_30 : (Cond.selects "GameTablesModel" ⟨"GameTablesModel", "showTray", "()V"⟩ ⟨"GameTablesModel", "showTray", "()V"⟩) ∈ gtb := gtb_s (q := (⟨"GameTablesModel", "showTray", "()V"⟩, 19)) 30 rfl
theorem qs_31 : (Cond.selects "GameTablesModel" ⟨"GameTablesModel", "meanOf", "(I[JI[JI)J"⟩ ⟨"GameTablesModel", "meanOf", "(I[JI[JI)J"⟩) ∈ gtb := gtb_s (q := (⟨"GameTablesModel", "meanOf", "(I[JI[JI)J"⟩, 19)) 31 rfl
theorem qs_32 : (Cond.selects "GameTablesModel" ⟨"GameTablesModel", "trayAnswers", "(I)I"⟩ ⟨"GameTablesModel", "trayAnswers", "(I)I"⟩) ∈ gtb := gtb_s (q := (⟨"GameTablesModel", "trayAnswers", "(I)I"⟩, 19)) 32 rfl
theorem qs_33 : (Cond.selects "GameTablesModel" ⟨"GameTablesModel", "answersTo", "(I[JI)I"⟩ ⟨"GameTablesModel", "answersTo", "(I[JI)I"⟩) ∈ gtb := gtb_s (q := (⟨"GameTablesModel", "answersTo", "(I[JI)I"⟩, 19)) 33 rfl
theorem qs_34 : (Cond.selects "GameTablesModel" ⟨"GameTablesModel", "get", "(III)I"⟩ ⟨"GameTablesModel", "get", "(III)I"⟩) ∈ gtb := gtb_s (q := (⟨"GameTablesModel", "get", "(III)I"⟩, 19)) 34 rfl
theorem qs_35 : (Cond.selects "GameTablesModel" ⟨"GameTablesModel", "whyNot", "()I"⟩ ⟨"GameTablesModel", "whyNot", "()I"⟩) ∈ gtb := gtb_s (q := (⟨"GameTablesModel", "whyNot", "()I"⟩, 19)) 35 rfl
theorem qs_36 : (Cond.selects "GameTablesModel" ⟨"GameTablesModel", "worseBy", "(IIII)I"⟩ ⟨"GameTablesModel", "worseBy", "(IIII)I"⟩) ∈ gtb := gtb_s (q := (⟨"GameTablesModel", "worseBy", "(IIII)I"⟩, 19)) 36 rfl
theorem qs_37 : (Cond.selects "GameTablesModel" ⟨"GameTablesModel", "drop", "()V"⟩ ⟨"GameTablesModel", "drop", "()V"⟩) ∈ gtb := gtb_s (q := (⟨"GameTablesModel", "drop", "()V"⟩, 19)) 37 rfl
theorem qs_38 : (Cond.selects "GameTablesModel" ⟨"GameTablesModel", "findCorners", "(I)V"⟩ ⟨"GameTablesModel", "findCorners", "(I)V"⟩) ∈ gtb := gtb_s (q := (⟨"GameTablesModel", "findCorners", "(I)V"⟩, 19)) 38 rfl
theorem qs_39 : (Cond.selects "GameTablesModel" ⟨"GameTablesModel", "solve", "(II)Z"⟩ ⟨"GameTablesModel", "solve", "(II)Z"⟩) ∈ gtb := gtb_s (q := (⟨"GameTablesModel", "solve", "(II)Z"⟩, 19)) 39 rfl
theorem qs_40 : (Cond.selects "GameTablesModel" ⟨"GameTablesModel", "without", "(III)J"⟩ ⟨"GameTablesModel", "without", "(III)J"⟩) ∈ gtb := gtb_s (q := (⟨"GameTablesModel", "without", "(III)J"⟩, 19)) 40 rfl
theorem qs_41 : (Cond.selects "GameTablesModel" ⟨"GameTablesModel", "put", "(III)V"⟩ ⟨"GameTablesModel", "put", "(III)V"⟩) ∈ gtb := gtb_s (q := (⟨"GameTablesModel", "put", "(III)V"⟩, 19)) 41 rfl
theorem qs_42 : (Cond.selects "GameTablesModel" ⟨"GameTablesModel", "ahead", "(I)I"⟩ ⟨"GameTablesModel", "ahead", "(I)I"⟩) ∈ gtb := gtb_s (q := (⟨"GameTablesModel", "ahead", "(I)I"⟩, 19)) 42 rfl
theorem qs_43 : (Cond.selects "GameTablesModel" ⟨"GameTablesModel", "isBalance", "(II)Z"⟩ ⟨"GameTablesModel", "isBalance", "(II)Z"⟩) ∈ gtb := gtb_s (q := (⟨"GameTablesModel", "isBalance", "(II)Z"⟩, 19)) 43 rfl
theorem qs_44 : (Cond.selects "GameTablesModel" ⟨"GameTablesModel", "told", "(III)J"⟩ ⟨"GameTablesModel", "told", "(III)J"⟩) ∈ gtb := gtb_s (q := (⟨"GameTablesModel", "told", "(III)J"⟩, 19)) 44 rfl
theorem qs_45 : (Cond.selects "GameTablesModel" ⟨"GameTablesModel", "kindOf", "(II)I"⟩ ⟨"GameTablesModel", "kindOf", "(II)I"⟩) ∈ gtb := gtb_s (q := (⟨"GameTablesModel", "kindOf", "(II)I"⟩, 19)) 45 rfl
theorem qs_46 : (Cond.selects "GameTablesModel" ⟨"GameTablesModel", "cornerOfTray", "(I)I"⟩ ⟨"GameTablesModel", "cornerOfTray", "(I)I"⟩) ∈ gtb := gtb_s (q := (⟨"GameTablesModel", "cornerOfTray", "(I)I"⟩, 19)) 46 rfl
theorem qs_47 : (Cond.selects "GameTablesModel" ⟨"GameTablesModel", "placeOf", "(III)I"⟩ ⟨"GameTablesModel", "placeOf", "(III)I"⟩) ∈ gtb := gtb_s (q := (⟨"GameTablesModel", "placeOf", "(III)I"⟩, 19)) 47 rfl
theorem inX0 : ∀ w ∈ wsX00, w ∈ gtb := by
  intro w h
  obtain ⟨k, hk, rfl⟩ := List.mem_map.mp h
  have hk := List.mem_range.mp hk
  rcases (show k = 0 ∨ k = 1 ∨ k = 2 ∨ k = 3 by omega) with rfl | rfl | rfl | rfl
  · exact q1_66
  · exact q1_68
  · exact q1_70
  · exact q1_72
theorem inX1 : ∀ w ∈ wsX10, w ∈ gtb := by
  intro w h
  obtain ⟨k, hk, rfl⟩ := List.mem_map.mp h
  have hk := List.mem_range.mp hk
  rcases (show k = 0 ∨ k = 1 ∨ k = 2 by omega) with rfl | rfl | rfl
  · exact q1_108
  · exact q1_110
  · exact q1_112
theorem inX2 : ∀ w ∈ wsX20, w ∈ gtb := by
  intro w h
  obtain ⟨k, hk, rfl⟩ := List.mem_map.mp h
  have hk := List.mem_range.mp hk
  rcases (show k = 0 ∨ k = 1 ∨ k = 2 ∨ k = 3 by omega) with rfl | rfl | rfl | rfl
  · exact q1_49
  · exact q1_51
  · exact q1_53
  · exact q1_55
theorem inX3 : ∀ w ∈ wsX30, w ∈ gtb := by
  intro w h
  obtain ⟨k, hk, rfl⟩ := List.mem_map.mp h
  have hk := List.mem_range.mp hk
  rcases (show k = 0 ∨ k = 1 ∨ k = 2 ∨ k = 3 ∨ k = 4 by omega) with rfl | rfl | rfl | rfl | rfl
  · exact q1_84
  · exact q1_86
  · exact q1_88
  · exact q1_90
  · exact q1_92
theorem inX4 : ∀ w ∈ wsX40, w ∈ gtb := by
  intro w h
  obtain ⟨k, hk, rfl⟩ := List.mem_map.mp h
  have hk := List.mem_range.mp hk
  rcases (show k = 0 ∨ k = 1 ∨ k = 2 ∨ k = 3 ∨ k = 4 by omega) with rfl | rfl | rfl | rfl | rfl
  · exact q1_120
  · exact q1_122
  · exact q1_124
  · exact q1_126
  · exact q1_128
theorem inX5 : ∀ w ∈ wsX50, w ∈ gtb := by
  intro w h
  obtain ⟨k, hk, rfl⟩ := List.mem_map.mp h
  have hk := List.mem_range.mp hk
  rcases (show k = 0 ∨ k = 1 ∨ k = 2 ∨ k = 3 ∨ k = 4 ∨ k = 5 ∨ k = 6 ∨ k = 7 ∨ k = 8 ∨ k = 9 ∨ k = 10 ∨ k = 11 ∨ k = 12 ∨ k = 13 ∨ k = 14 ∨ k = 15 ∨ k = 16 ∨ k = 17 ∨ k = 18 by omega) with rfl | rfl | rfl | rfl | rfl | rfl | rfl | rfl | rfl | rfl | rfl | rfl | rfl | rfl | rfl | rfl | rfl | rfl | rfl
  · exact q3_25
  · exact q3_27
  · exact q3_29
  · exact q3_31
  · exact q3_33
  · exact q3_35
  · exact q3_37
  · exact q3_39
  · exact q3_41
  · exact q3_43
  · exact q3_45
  · exact q3_47
  · exact q3_49
  · exact q3_51
  · exact q3_53
  · exact q3_55
  · exact q3_57
  · exact q3_59
  · exact q3_61
end
section
theorem dX0_init_0 : decode cX0_init 0 = .ok (.aload_n 0, 1) := by decide +kernel
theorem dX0_init_1 : decode cX0_init 1 = .ok (.invokespecial 3, 3) := by decide +kernel
theorem dX0_init_4 : decode cX0_init 4 = .ok (.aload_n 0, 1) := by decide +kernel
theorem dX0_init_5 : decode cX0_init 5 = .ok (.bipush 69, 2) := by decide +kernel
theorem dX0_init_7 : decode cX0_init 7 = .ok (.anewarray 9, 3) := by decide +kernel
theorem dX0_init_10 : decode cX0_init 10 = .ok (.putfield 11, 3) := by decide +kernel
theorem dX0_init_13 : decode cX0_init 13 = .ok (.aload_n 0, 1) := by decide +kernel
theorem dX0_init_14 : decode cX0_init 14 = .ok (.new 9, 3) := by decide +kernel
theorem dX0_init_17 : decode cX0_init 17 = .ok (.dup, 1) := by decide +kernel
theorem dX0_init_18 : decode cX0_init 18 = .ok (.invokespecial 17, 3) := by decide +kernel
theorem dX0_init_21 : decode cX0_init 21 = .ok (.putfield 18, 3) := by decide +kernel
theorem dX0_init_24 : decode cX0_init 24 = .ok (.aload_n 0, 1) := by decide +kernel
theorem dX0_init_25 : decode cX0_init 25 = .ok (.iconst 3, 1) := by decide +kernel
theorem dX0_init_26 : decode cX0_init 26 = .ok (.iconst 4, 1) := by decide +kernel
theorem dX0_init_27 : decode cX0_init 27 = .ok (.multianewarray 22 2, 4) := by decide +kernel
theorem dX0_init_31 : decode cX0_init 31 = .ok (.putfield 24, 3) := by decide +kernel
theorem dX0_init_34 : decode cX0_init 34 = .ok (.return_, 1) := by decide +kernel
theorem dX0_mixAt_0 : decode cX0_mixAt 0 = .ok (.iload_n 1, 1) := by decide +kernel
theorem dX0_mixAt_1 : decode cX0_mixAt 1 = .ok (.ifCond .lt 26, 3) := by decide +kernel
theorem dX0_mixAt_4 : decode cX0_mixAt 4 = .ok (.iload_n 1, 1) := by decide +kernel
theorem dX0_mixAt_5 : decode cX0_mixAt 5 = .ok (.aload_n 0, 1) := by decide +kernel
theorem dX0_mixAt_6 : decode cX0_mixAt 6 = .ok (.getfield 27, 3) := by decide +kernel
theorem dX0_mixAt_9 : decode cX0_mixAt 9 = .ok (.if_icmp .ge 18, 3) := by decide +kernel
theorem dX0_mixAt_12 : decode cX0_mixAt 12 = .ok (.iload_n 1, 1) := by decide +kernel
theorem dX0_mixAt_13 : decode cX0_mixAt 13 = .ok (.bipush 69, 2) := by decide +kernel
theorem dX0_mixAt_15 : decode cX0_mixAt 15 = .ok (.if_icmp .ge 12, 3) := by decide +kernel
theorem dX0_mixAt_18 : decode cX0_mixAt 18 = .ok (.aload_n 0, 1) := by decide +kernel
theorem dX0_mixAt_19 : decode cX0_mixAt 19 = .ok (.getfield 11, 3) := by decide +kernel
theorem dX0_mixAt_22 : decode cX0_mixAt 22 = .ok (.iload_n 1, 1) := by decide +kernel
theorem dX0_mixAt_23 : decode cX0_mixAt 23 = .ok (.aaload, 1) := by decide +kernel
theorem dX0_mixAt_24 : decode cX0_mixAt 24 = .ok (.goto 4, 3) := by decide +kernel
theorem dX0_mixAt_27 : decode cX0_mixAt 27 = .ok (.aconst_null, 1) := by decide +kernel
theorem dX0_mixAt_28 : decode cX0_mixAt 28 = .ok (.areturn, 1) := by decide +kernel
theorem dX0_numberOf_0 : decode cX0_numberOf 0 = .ok (.iconst 0, 1) := by decide +kernel
theorem dX0_numberOf_1 : decode cX0_numberOf 1 = .ok (.istore_n 2, 1) := by decide +kernel
theorem dX0_numberOf_2 : decode cX0_numberOf 2 = .ok (.iload_n 2, 1) := by decide +kernel
theorem dX0_numberOf_3 : decode cX0_numberOf 3 = .ok (.aload_n 0, 1) := by decide +kernel
theorem dX0_numberOf_4 : decode cX0_numberOf 4 = .ok (.getfield 27, 3) := by decide +kernel
theorem dX0_numberOf_7 : decode cX0_numberOf 7 = .ok (.if_icmp .ge 29, 3) := by decide +kernel
theorem dX0_numberOf_10 : decode cX0_numberOf 10 = .ok (.aload_n 0, 1) := by decide +kernel
theorem dX0_numberOf_11 : decode cX0_numberOf 11 = .ok (.iload_n 2, 1) := by decide +kernel
theorem dX0_numberOf_12 : decode cX0_numberOf 12 = .ok (.invokevirtual 31, 3) := by decide +kernel
theorem dX0_numberOf_15 : decode cX0_numberOf 15 = .ok (.astore_n 3, 1) := by decide +kernel
theorem dX0_numberOf_16 : decode cX0_numberOf 16 = .ok (.aload_n 3, 1) := by decide +kernel
theorem dX0_numberOf_17 : decode cX0_numberOf 17 = .ok (.ifnull 13, 3) := by decide +kernel
theorem dX0_numberOf_20 : decode cX0_numberOf 20 = .ok (.aload_n 3, 1) := by decide +kernel
theorem dX0_numberOf_21 : decode cX0_numberOf 21 = .ok (.aload_n 1, 1) := by decide +kernel
theorem dX0_numberOf_22 : decode cX0_numberOf 22 = .ok (.invokevirtual 35, 3) := by decide +kernel
theorem dX0_numberOf_25 : decode cX0_numberOf 25 = .ok (.ifCond .ne 5, 3) := by decide +kernel
theorem dX0_numberOf_28 : decode cX0_numberOf 28 = .ok (.iload_n 2, 1) := by decide +kernel
theorem dX0_numberOf_29 : decode cX0_numberOf 29 = .ok (.ireturn, 1) := by decide +kernel
theorem dX0_numberOf_30 : decode cX0_numberOf 30 = .ok (.iinc 2 1, 3) := by decide +kernel
theorem dX0_numberOf_33 : decode cX0_numberOf 33 = .ok (.goto (-31), 3) := by decide +kernel
theorem dX0_numberOf_36 : decode cX0_numberOf 36 = .ok (.bipush (-9), 2) := by decide +kernel
theorem dX0_numberOf_38 : decode cX0_numberOf 38 = .ok (.ireturn, 1) := by decide +kernel
theorem dX0_searchAll_0 : decode cX0_searchAll 0 = .ok (.aload_n 0, 1) := by decide +kernel
theorem dX0_searchAll_1 : decode cX0_searchAll 1 = .ok (.iconst 0, 1) := by decide +kernel
theorem dX0_searchAll_2 : decode cX0_searchAll 2 = .ok (.putfield 27, 3) := by decide +kernel
theorem dX0_searchAll_5 : decode cX0_searchAll 5 = .ok (.iconst 1, 1) := by decide +kernel
theorem dX0_searchAll_6 : decode cX0_searchAll 6 = .ok (.istore_n 3, 1) := by decide +kernel
theorem dX0_searchAll_7 : decode cX0_searchAll 7 = .ok (.iload_n 3, 1) := by decide +kernel
theorem dX0_searchAll_8 : decode cX0_searchAll 8 = .ok (.iload_n 1, 1) := by decide +kernel
theorem dX0_searchAll_9 : decode cX0_searchAll 9 = .ok (.if_icmp .gt 47, 3) := by decide +kernel
theorem dX0_searchAll_12 : decode cX0_searchAll 12 = .ok (.iconst 1, 1) := by decide +kernel
theorem dX0_searchAll_13 : decode cX0_searchAll 13 = .ok (.istore 4, 2) := by decide +kernel
theorem dX0_searchAll_15 : decode cX0_searchAll 15 = .ok (.iload 4, 2) := by decide +kernel
theorem dX0_searchAll_17 : decode cX0_searchAll 17 = .ok (.aload_n 2, 1) := by decide +kernel
theorem dX0_searchAll_18 : decode cX0_searchAll 18 = .ok (.invokevirtual 39, 3) := by decide +kernel
theorem dX0_searchAll_21 : decode cX0_searchAll 21 = .ok (.if_icmp .gt 29, 3) := by decide +kernel
theorem dX0_searchAll_24 : decode cX0_searchAll 24 = .ok (.iload_n 3, 1) := by decide +kernel
theorem dX0_searchAll_25 : decode cX0_searchAll 25 = .ok (.invokestatic 45, 3) := by decide +kernel
theorem dX0_searchAll_28 : decode cX0_searchAll 28 = .ok (.iload 4, 2) := by decide +kernel
theorem dX0_searchAll_30 : decode cX0_searchAll 30 = .ok (.invokestatic 45, 3) := by decide +kernel
theorem dX0_searchAll_33 : decode cX0_searchAll 33 = .ok (.if_icmp .ne 11, 3) := by decide +kernel
theorem dX0_searchAll_36 : decode cX0_searchAll 36 = .ok (.aload_n 0, 1) := by decide +kernel
theorem dX0_searchAll_37 : decode cX0_searchAll 37 = .ok (.iload_n 3, 1) := by decide +kernel
theorem dX0_searchAll_38 : decode cX0_searchAll 38 = .ok (.iload 4, 2) := by decide +kernel
theorem dX0_searchAll_40 : decode cX0_searchAll 40 = .ok (.aload_n 2, 1) := by decide +kernel
theorem dX0_searchAll_41 : decode cX0_searchAll 41 = .ok (.invokevirtual 51, 3) := by decide +kernel
theorem dX0_searchAll_44 : decode cX0_searchAll 44 = .ok (.iinc 4 1, 3) := by decide +kernel
theorem dX0_searchAll_47 : decode cX0_searchAll 47 = .ok (.goto (-32), 3) := by decide +kernel
theorem dX0_searchAll_50 : decode cX0_searchAll 50 = .ok (.iinc 3 1, 3) := by decide +kernel
theorem dX0_searchAll_53 : decode cX0_searchAll 53 = .ok (.goto (-46), 3) := by decide +kernel
theorem dX0_searchAll_56 : decode cX0_searchAll 56 = .ok (.return_, 1) := by decide +kernel
theorem dX0_search_0 : decode cX0_search 0 = .ok (.aload_n 0, 1) := by decide +kernel
theorem dX0_search_1 : decode cX0_search 1 = .ok (.iload_n 1, 1) := by decide +kernel
theorem dX0_search_2 : decode cX0_search 2 = .ok (.iload_n 2, 1) := by decide +kernel
theorem dX0_search_3 : decode cX0_search 3 = .ok (.aload_n 3, 1) := by decide +kernel
theorem dX0_search_4 : decode cX0_search 4 = .ok (.invokevirtual 55, 3) := by decide +kernel
theorem dX0_search_7 : decode cX0_search 7 = .ok (.aload_n 0, 1) := by decide +kernel
theorem dX0_search_8 : decode cX0_search 8 = .ok (.iload_n 1, 1) := by decide +kernel
theorem dX0_search_9 : decode cX0_search 9 = .ok (.invokevirtual 58, 3) := by decide +kernel
theorem dX0_search_12 : decode cX0_search 12 = .ok (.aload_n 0, 1) := by decide +kernel
theorem dX0_search_13 : decode cX0_search 13 = .ok (.iload_n 1, 1) := by decide +kernel
theorem dX0_search_14 : decode cX0_search 14 = .ok (.invokevirtual 62, 3) := by decide +kernel
theorem dX0_search_17 : decode cX0_search 17 = .ok (.ifCond .ne 4, 3) := by decide +kernel
theorem dX0_search_20 : decode cX0_search 20 = .ok (.return_, 1) := by decide +kernel
theorem dX0_search_21 : decode cX0_search 21 = .ok (.aload_n 0, 1) := by decide +kernel
theorem dX0_search_22 : decode cX0_search 22 = .ok (.getfield 18, 3) := by decide +kernel
theorem dX0_search_25 : decode cX0_search 25 = .ok (.invokevirtual 66, 3) := by decide +kernel
theorem dX0_search_28 : decode cX0_search 28 = .ok (.aload_n 0, 1) := by decide +kernel
theorem dX0_search_29 : decode cX0_search 29 = .ok (.getfield 18, 3) := by decide +kernel
theorem dX0_search_32 : decode cX0_search 32 = .ok (.aload_n 3, 1) := by decide +kernel
theorem dX0_search_33 : decode cX0_search 33 = .ok (.aload_n 0, 1) := by decide +kernel
theorem dX0_search_34 : decode cX0_search 34 = .ok (.getfield 18, 3) := by decide +kernel
theorem dX0_search_37 : decode cX0_search 37 = .ok (.invokevirtual 69, 3) := by decide +kernel
theorem dX0_search_40 : decode cX0_search 40 = .ok (.putfield 72, 3) := by decide +kernel
theorem dX0_search_43 : decode cX0_search 43 = .ok (.iload_n 2, 1) := by decide +kernel
theorem dX0_search_44 : decode cX0_search 44 = .ok (.aload_n 0, 1) := by decide +kernel
theorem dX0_search_45 : decode cX0_search 45 = .ok (.getfield 18, 3) := by decide +kernel
theorem dX0_search_48 : decode cX0_search 48 = .ok (.getfield 72, 3) := by decide +kernel
theorem dX0_search_51 : decode cX0_search 51 = .ok (.iconst (-1), 1) := by decide +kernel
theorem dX0_search_52 : decode cX0_search 52 = .ok (.ixor, 1) := by decide +kernel
theorem dX0_search_53 : decode cX0_search 53 = .ok (.iand, 1) := by decide +kernel
theorem dX0_search_54 : decode cX0_search 54 = .ok (.ifCond .ne 7, 3) := by decide +kernel
theorem dX0_search_57 : decode cX0_search 57 = .ok (.aload_n 0, 1) := by decide +kernel
theorem dX0_search_58 : decode cX0_search 58 = .ok (.invokevirtual 75, 3) := by decide +kernel
theorem dX0_search_61 : decode cX0_search 61 = .ok (.return_, 1) := by decide +kernel
theorem dX0_layGaps_0 : decode cX0_layGaps 0 = .ok (.iload_n 2, 1) := by decide +kernel
theorem dX0_layGaps_1 : decode cX0_layGaps 1 = .ok (.invokestatic 78, 3) := by decide +kernel
theorem dX0_layGaps_4 : decode cX0_layGaps 4 = .ok (.istore 4, 2) := by decide +kernel
theorem dX0_layGaps_6 : decode cX0_layGaps 6 = .ok (.iconst 0, 1) := by decide +kernel
theorem dX0_layGaps_7 : decode cX0_layGaps 7 = .ok (.istore 5, 2) := by decide +kernel
theorem dX0_layGaps_9 : decode cX0_layGaps 9 = .ok (.iload 4, 2) := by decide +kernel
theorem dX0_layGaps_11 : decode cX0_layGaps 11 = .ok (.iconst 1, 1) := by decide +kernel
theorem dX0_layGaps_12 : decode cX0_layGaps 12 = .ok (.iadd, 1) := by decide +kernel
theorem dX0_layGaps_13 : decode cX0_layGaps 13 = .ok (.istore 6, 2) := by decide +kernel
theorem dX0_layGaps_15 : decode cX0_layGaps 15 = .ok (.iload 6, 2) := by decide +kernel
theorem dX0_layGaps_17 : decode cX0_layGaps 17 = .ok (.iconst 4, 1) := by decide +kernel
theorem dX0_layGaps_18 : decode cX0_layGaps 18 = .ok (.if_icmp .ge 33, 3) := by decide +kernel
theorem dX0_layGaps_21 : decode cX0_layGaps 21 = .ok (.iload_n 2, 1) := by decide +kernel
theorem dX0_layGaps_22 : decode cX0_layGaps 22 = .ok (.iload 6, 2) := by decide +kernel
theorem dX0_layGaps_24 : decode cX0_layGaps 24 = .ok (.invokestatic 81, 3) := by decide +kernel
theorem dX0_layGaps_27 : decode cX0_layGaps 27 = .ok (.ifCond .eq 18, 3) := by decide +kernel
theorem dX0_layGaps_30 : decode cX0_layGaps 30 = .ok (.aload_n 0, 1) := by decide +kernel
theorem dX0_layGaps_31 : decode cX0_layGaps 31 = .ok (.iload 5, 2) := by decide +kernel
theorem dX0_layGaps_33 : decode cX0_layGaps 33 = .ok (.iload_n 1, 1) := by decide +kernel
theorem dX0_layGaps_34 : decode cX0_layGaps 34 = .ok (.aload_n 3, 1) := by decide +kernel
theorem dX0_layGaps_35 : decode cX0_layGaps 35 = .ok (.iload 4, 2) := by decide +kernel
theorem dX0_layGaps_37 : decode cX0_layGaps 37 = .ok (.iload 6, 2) := by decide +kernel
theorem dX0_layGaps_39 : decode cX0_layGaps 39 = .ok (.invokevirtual 85, 3) := by decide +kernel
theorem dX0_layGaps_42 : decode cX0_layGaps 42 = .ok (.iinc 5 1, 3) := by decide +kernel
theorem dX0_layGaps_45 : decode cX0_layGaps 45 = .ok (.iinc 6 1, 3) := by decide +kernel
theorem dX0_layGaps_48 : decode cX0_layGaps 48 = .ok (.goto (-33), 3) := by decide +kernel
theorem dX0_layGaps_51 : decode cX0_layGaps 51 = .ok (.return_, 1) := by decide +kernel
theorem dX0_layLine_0 : decode cX0_layLine 0 = .ok (.iconst 0, 1) := by decide +kernel
theorem dX0_layLine_1 : decode cX0_layLine 1 = .ok (.istore 6, 2) := by decide +kernel
theorem dX0_layLine_3 : decode cX0_layLine 3 = .ok (.iconst 0, 1) := by decide +kernel
theorem dX0_layLine_4 : decode cX0_layLine 4 = .ok (.istore 7, 2) := by decide +kernel
theorem dX0_layLine_6 : decode cX0_layLine 6 = .ok (.iload 7, 2) := by decide +kernel
theorem dX0_layLine_8 : decode cX0_layLine 8 = .ok (.iconst 4, 1) := by decide +kernel
theorem dX0_layLine_9 : decode cX0_layLine 9 = .ok (.if_icmp .ge 48, 3) := by decide +kernel
theorem dX0_layLine_12 : decode cX0_layLine 12 = .ok (.iload_n 2, 1) := by decide +kernel
theorem dX0_layLine_13 : decode cX0_layLine 13 = .ok (.iload 7, 2) := by decide +kernel
theorem dX0_layLine_15 : decode cX0_layLine 15 = .ok (.invokestatic 81, 3) := by decide +kernel
theorem dX0_layLine_18 : decode cX0_layLine 18 = .ok (.ifCond .eq 33, 3) := by decide +kernel
theorem dX0_layLine_21 : decode cX0_layLine 21 = .ok (.aload_n 0, 1) := by decide +kernel
theorem dX0_layLine_22 : decode cX0_layLine 22 = .ok (.getfield 24, 3) := by decide +kernel
theorem dX0_layLine_25 : decode cX0_layLine 25 = .ok (.iload_n 1, 1) := by decide +kernel
theorem dX0_layLine_26 : decode cX0_layLine 26 = .ok (.aaload, 1) := by decide +kernel
theorem dX0_layLine_27 : decode cX0_layLine 27 = .ok (.iload 6, 2) := by decide +kernel
theorem dX0_layLine_29 : decode cX0_layLine 29 = .ok (.aload_n 3, 1) := by decide +kernel
theorem dX0_layLine_30 : decode cX0_layLine 30 = .ok (.iload 5, 2) := by decide +kernel
theorem dX0_layLine_32 : decode cX0_layLine 32 = .ok (.iload 7, 2) := by decide +kernel
theorem dX0_layLine_34 : decode cX0_layLine 34 = .ok (.invokevirtual 89, 3) := by decide +kernel
theorem dX0_layLine_37 : decode cX0_layLine 37 = .ok (.aload_n 3, 1) := by decide +kernel
theorem dX0_layLine_38 : decode cX0_layLine 38 = .ok (.iload 4, 2) := by decide +kernel
theorem dX0_layLine_40 : decode cX0_layLine 40 = .ok (.iload 7, 2) := by decide +kernel
theorem dX0_layLine_42 : decode cX0_layLine 42 = .ok (.invokevirtual 89, 3) := by decide +kernel
theorem dX0_layLine_45 : decode cX0_layLine 45 = .ok (.isub, 1) := by decide +kernel
theorem dX0_layLine_46 : decode cX0_layLine 46 = .ok (.i2l, 1) := by decide +kernel
theorem dX0_layLine_47 : decode cX0_layLine 47 = .ok (.lastore, 1) := by decide +kernel
theorem dX0_layLine_48 : decode cX0_layLine 48 = .ok (.iinc 6 1, 3) := by decide +kernel
theorem dX0_layLine_51 : decode cX0_layLine 51 = .ok (.iinc 7 1, 3) := by decide +kernel
theorem dX0_layLine_54 : decode cX0_layLine 54 = .ok (.goto (-48), 3) := by decide +kernel
theorem dX0_layLine_57 : decode cX0_layLine 57 = .ok (.return_, 1) := by decide +kernel
theorem dX0_layParts_0 : decode cX0_layParts 0 = .ok (.iload_n 1, 1) := by decide +kernel
theorem dX0_layParts_1 : decode cX0_layParts 1 = .ok (.invokestatic 45, 3) := by decide +kernel
theorem dX0_layParts_4 : decode cX0_layParts 4 = .ok (.iconst 1, 1) := by decide +kernel
theorem dX0_layParts_5 : decode cX0_layParts 5 = .ok (.isub, 1) := by decide +kernel
theorem dX0_layParts_6 : decode cX0_layParts 6 = .ok (.istore_n 2, 1) := by decide +kernel
theorem dX0_layParts_7 : decode cX0_layParts 7 = .ok (.iconst 0, 1) := by decide +kernel
theorem dX0_layParts_8 : decode cX0_layParts 8 = .ok (.istore_n 3, 1) := by decide +kernel
theorem dX0_layParts_9 : decode cX0_layParts 9 = .ok (.iconst 0, 1) := by decide +kernel
theorem dX0_layParts_10 : decode cX0_layParts 10 = .ok (.istore 4, 2) := by decide +kernel
theorem dX0_layParts_12 : decode cX0_layParts 12 = .ok (.iload 4, 2) := by decide +kernel
theorem dX0_layParts_14 : decode cX0_layParts 14 = .ok (.iconst 4, 1) := by decide +kernel
theorem dX0_layParts_15 : decode cX0_layParts 15 = .ok (.if_icmp .ge 64, 3) := by decide +kernel
theorem dX0_layParts_18 : decode cX0_layParts 18 = .ok (.aload_n 0, 1) := by decide +kernel
theorem dX0_layParts_19 : decode cX0_layParts 19 = .ok (.getfield 18, 3) := by decide +kernel
theorem dX0_layParts_22 : decode cX0_layParts 22 = .ok (.getfield 93, 3) := by decide +kernel
theorem dX0_layParts_25 : decode cX0_layParts 25 = .ok (.iload 4, 2) := by decide +kernel
theorem dX0_layParts_27 : decode cX0_layParts 27 = .ok (.lconst 0, 1) := by decide +kernel
theorem dX0_layParts_28 : decode cX0_layParts 28 = .ok (.lastore, 1) := by decide +kernel
theorem dX0_layParts_29 : decode cX0_layParts 29 = .ok (.iload_n 1, 1) := by decide +kernel
theorem dX0_layParts_30 : decode cX0_layParts 30 = .ok (.iload 4, 2) := by decide +kernel
theorem dX0_layParts_32 : decode cX0_layParts 32 = .ok (.invokestatic 81, 3) := by decide +kernel
theorem dX0_layParts_35 : decode cX0_layParts 35 = .ok (.ifCond .eq 38, 3) := by decide +kernel
theorem dX0_layParts_38 : decode cX0_layParts 38 = .ok (.aload_n 0, 1) := by decide +kernel
theorem dX0_layParts_39 : decode cX0_layParts 39 = .ok (.iload_n 3, 1) := by decide +kernel
theorem dX0_layParts_40 : decode cX0_layParts 40 = .ok (.iload_n 2, 1) := by decide +kernel
theorem dX0_layParts_41 : decode cX0_layParts 41 = .ok (.invokevirtual 97, 3) := by decide +kernel
theorem dX0_layParts_44 : decode cX0_layParts 44 = .ok (.lstore 5, 2) := by decide +kernel
theorem dX0_layParts_46 : decode cX0_layParts 46 = .ok (.aload_n 0, 1) := by decide +kernel
theorem dX0_layParts_47 : decode cX0_layParts 47 = .ok (.getfield 18, 3) := by decide +kernel
theorem dX0_layParts_50 : decode cX0_layParts 50 = .ok (.getfield 93, 3) := by decide +kernel
theorem dX0_layParts_53 : decode cX0_layParts 53 = .ok (.iload 4, 2) := by decide +kernel
theorem dX0_layParts_55 : decode cX0_layParts 55 = .ok (.iload_n 3, 1) := by decide +kernel
theorem dX0_layParts_56 : decode cX0_layParts 56 = .ok (.iconst 2, 1) := by decide +kernel
theorem dX0_layParts_57 : decode cX0_layParts 57 = .ok (.irem, 1) := by decide +kernel
theorem dX0_layParts_58 : decode cX0_layParts 58 = .ok (.ifCond .ne 8, 3) := by decide +kernel
theorem dX0_layParts_61 : decode cX0_layParts 61 = .ok (.lload 5, 2) := by decide +kernel
theorem dX0_layParts_63 : decode cX0_layParts 63 = .ok (.goto 6, 3) := by decide +kernel
theorem dX0_layParts_66 : decode cX0_layParts 66 = .ok (.lload 5, 2) := by decide +kernel
theorem dX0_layParts_68 : decode cX0_layParts 68 = .ok (.lneg, 1) := by decide +kernel
theorem dX0_layParts_69 : decode cX0_layParts 69 = .ok (.lastore, 1) := by decide +kernel
theorem dX0_layParts_70 : decode cX0_layParts 70 = .ok (.iinc 3 1, 3) := by decide +kernel
theorem dX0_layParts_73 : decode cX0_layParts 73 = .ok (.iinc 4 1, 3) := by decide +kernel
theorem dX0_layParts_76 : decode cX0_layParts 76 = .ok (.goto (-64), 3) := by decide +kernel
theorem dX0_layParts_79 : decode cX0_layParts 79 = .ok (.return_, 1) := by decide +kernel
theorem dX0_gapsWithout_0 : decode cX0_gapsWithout 0 = .ok (.iload_n 1, 1) := by decide +kernel
theorem dX0_gapsWithout_1 : decode cX0_gapsWithout 1 = .ok (.ifCond .le 7, 3) := by decide +kernel
theorem dX0_gapsWithout_4 : decode cX0_gapsWithout 4 = .ok (.iconst 0, 1) := by decide +kernel
theorem dX0_gapsWithout_5 : decode cX0_gapsWithout 5 = .ok (.goto 4, 3) := by decide +kernel
theorem dX0_gapsWithout_8 : decode cX0_gapsWithout 8 = .ok (.iconst 1, 1) := by decide +kernel
theorem dX0_gapsWithout_9 : decode cX0_gapsWithout 9 = .ok (.istore_n 3, 1) := by decide +kernel
theorem dX0_gapsWithout_10 : decode cX0_gapsWithout 10 = .ok (.iload_n 1, 1) := by decide +kernel
theorem dX0_gapsWithout_11 : decode cX0_gapsWithout 11 = .ok (.iconst 1, 1) := by decide +kernel
theorem dX0_gapsWithout_12 : decode cX0_gapsWithout 12 = .ok (.if_icmp .le 7, 3) := by decide +kernel
theorem dX0_gapsWithout_15 : decode cX0_gapsWithout 15 = .ok (.iconst 1, 1) := by decide +kernel
theorem dX0_gapsWithout_16 : decode cX0_gapsWithout 16 = .ok (.goto 4, 3) := by decide +kernel
theorem dX0_gapsWithout_19 : decode cX0_gapsWithout 19 = .ok (.iconst 2, 1) := by decide +kernel
theorem dX0_gapsWithout_20 : decode cX0_gapsWithout 20 = .ok (.istore 4, 2) := by decide +kernel
theorem dX0_gapsWithout_22 : decode cX0_gapsWithout 22 = .ok (.iload_n 1, 1) := by decide +kernel
theorem dX0_gapsWithout_23 : decode cX0_gapsWithout 23 = .ok (.iconst 2, 1) := by decide +kernel
theorem dX0_gapsWithout_24 : decode cX0_gapsWithout 24 = .ok (.if_icmp .le 7, 3) := by decide +kernel
theorem dX0_gapsWithout_27 : decode cX0_gapsWithout 27 = .ok (.iconst 2, 1) := by decide +kernel
theorem dX0_gapsWithout_28 : decode cX0_gapsWithout 28 = .ok (.goto 4, 3) := by decide +kernel
theorem dX0_gapsWithout_31 : decode cX0_gapsWithout 31 = .ok (.iconst 3, 1) := by decide +kernel
theorem dX0_gapsWithout_32 : decode cX0_gapsWithout 32 = .ok (.istore 5, 2) := by decide +kernel
theorem dX0_gapsWithout_34 : decode cX0_gapsWithout 34 = .ok (.iload_n 2, 1) := by decide +kernel
theorem dX0_gapsWithout_35 : decode cX0_gapsWithout 35 = .ok (.tableswitch 46 0 2 #[25, 27, 36], 25) := by decide +kernel
theorem dX0_gapsWithout_60 : decode cX0_gapsWithout 60 = .ok (.lconst 1, 1) := by decide +kernel
theorem dX0_gapsWithout_61 : decode cX0_gapsWithout 61 = .ok (.lreturn, 1) := by decide +kernel
theorem dX0_gapsWithout_62 : decode cX0_gapsWithout 62 = .ok (.aload_n 0, 1) := by decide +kernel
theorem dX0_gapsWithout_63 : decode cX0_gapsWithout 63 = .ok (.getfield 24, 3) := by decide +kernel
theorem dX0_gapsWithout_66 : decode cX0_gapsWithout 66 = .ok (.iconst 0, 1) := by decide +kernel
theorem dX0_gapsWithout_67 : decode cX0_gapsWithout 67 = .ok (.aaload, 1) := by decide +kernel
theorem dX0_gapsWithout_68 : decode cX0_gapsWithout 68 = .ok (.iload_n 3, 1) := by decide +kernel
theorem dX0_gapsWithout_69 : decode cX0_gapsWithout 69 = .ok (.laload, 1) := by decide +kernel
theorem dX0_gapsWithout_70 : decode cX0_gapsWithout 70 = .ok (.lreturn, 1) := by decide +kernel
theorem dX0_gapsWithout_71 : decode cX0_gapsWithout 71 = .ok (.aload_n 0, 1) := by decide +kernel
theorem dX0_gapsWithout_72 : decode cX0_gapsWithout 72 = .ok (.iconst 0, 1) := by decide +kernel
theorem dX0_gapsWithout_73 : decode cX0_gapsWithout 73 = .ok (.iconst 1, 1) := by decide +kernel
theorem dX0_gapsWithout_74 : decode cX0_gapsWithout 74 = .ok (.iload_n 3, 1) := by decide +kernel
theorem dX0_gapsWithout_75 : decode cX0_gapsWithout 75 = .ok (.iload 4, 2) := by decide +kernel
theorem dX0_gapsWithout_77 : decode cX0_gapsWithout 77 = .ok (.invokevirtual 101, 3) := by decide +kernel
theorem dX0_gapsWithout_80 : decode cX0_gapsWithout 80 = .ok (.lreturn, 1) := by decide +kernel
theorem dX0_gapsWithout_81 : decode cX0_gapsWithout 81 = .ok (.aload_n 0, 1) := by decide +kernel
theorem dX0_gapsWithout_82 : decode cX0_gapsWithout 82 = .ok (.getfield 24, 3) := by decide +kernel
theorem dX0_gapsWithout_85 : decode cX0_gapsWithout 85 = .ok (.iconst 0, 1) := by decide +kernel
theorem dX0_gapsWithout_86 : decode cX0_gapsWithout 86 = .ok (.aaload, 1) := by decide +kernel
theorem dX0_gapsWithout_87 : decode cX0_gapsWithout 87 = .ok (.iload_n 3, 1) := by decide +kernel
theorem dX0_gapsWithout_88 : decode cX0_gapsWithout 88 = .ok (.laload, 1) := by decide +kernel
theorem dX0_gapsWithout_89 : decode cX0_gapsWithout 89 = .ok (.aload_n 0, 1) := by decide +kernel
theorem dX0_gapsWithout_90 : decode cX0_gapsWithout 90 = .ok (.iconst 1, 1) := by decide +kernel
theorem dX0_gapsWithout_91 : decode cX0_gapsWithout 91 = .ok (.iconst 2, 1) := by decide +kernel
theorem dX0_gapsWithout_92 : decode cX0_gapsWithout 92 = .ok (.iload 4, 2) := by decide +kernel
theorem dX0_gapsWithout_94 : decode cX0_gapsWithout 94 = .ok (.iload 5, 2) := by decide +kernel
theorem dX0_gapsWithout_96 : decode cX0_gapsWithout 96 = .ok (.invokevirtual 101, 3) := by decide +kernel
theorem dX0_gapsWithout_99 : decode cX0_gapsWithout 99 = .ok (.lmul, 1) := by decide +kernel
theorem dX0_gapsWithout_100 : decode cX0_gapsWithout 100 = .ok (.aload_n 0, 1) := by decide +kernel
theorem dX0_gapsWithout_101 : decode cX0_gapsWithout 101 = .ok (.getfield 24, 3) := by decide +kernel
theorem dX0_gapsWithout_104 : decode cX0_gapsWithout 104 = .ok (.iconst 0, 1) := by decide +kernel
theorem dX0_gapsWithout_105 : decode cX0_gapsWithout 105 = .ok (.aaload, 1) := by decide +kernel
theorem dX0_gapsWithout_106 : decode cX0_gapsWithout 106 = .ok (.iload 4, 2) := by decide +kernel
theorem dX0_gapsWithout_108 : decode cX0_gapsWithout 108 = .ok (.laload, 1) := by decide +kernel
theorem dX0_gapsWithout_109 : decode cX0_gapsWithout 109 = .ok (.aload_n 0, 1) := by decide +kernel
theorem dX0_gapsWithout_110 : decode cX0_gapsWithout 110 = .ok (.iconst 1, 1) := by decide +kernel
theorem dX0_gapsWithout_111 : decode cX0_gapsWithout 111 = .ok (.iconst 2, 1) := by decide +kernel
theorem dX0_gapsWithout_112 : decode cX0_gapsWithout 112 = .ok (.iload_n 3, 1) := by decide +kernel
theorem dX0_gapsWithout_113 : decode cX0_gapsWithout 113 = .ok (.iload 5, 2) := by decide +kernel
theorem dX0_gapsWithout_115 : decode cX0_gapsWithout 115 = .ok (.invokevirtual 101, 3) := by decide +kernel
theorem dX0_gapsWithout_118 : decode cX0_gapsWithout 118 = .ok (.lmul, 1) := by decide +kernel
theorem dX0_gapsWithout_119 : decode cX0_gapsWithout 119 = .ok (.lsub, 1) := by decide +kernel
theorem dX0_gapsWithout_120 : decode cX0_gapsWithout 120 = .ok (.aload_n 0, 1) := by decide +kernel
theorem dX0_gapsWithout_121 : decode cX0_gapsWithout 121 = .ok (.getfield 24, 3) := by decide +kernel
theorem dX0_gapsWithout_124 : decode cX0_gapsWithout 124 = .ok (.iconst 0, 1) := by decide +kernel
theorem dX0_gapsWithout_125 : decode cX0_gapsWithout 125 = .ok (.aaload, 1) := by decide +kernel
theorem dX0_gapsWithout_126 : decode cX0_gapsWithout 126 = .ok (.iload 5, 2) := by decide +kernel
theorem dX0_gapsWithout_128 : decode cX0_gapsWithout 128 = .ok (.laload, 1) := by decide +kernel
theorem dX0_gapsWithout_129 : decode cX0_gapsWithout 129 = .ok (.aload_n 0, 1) := by decide +kernel
theorem dX0_gapsWithout_130 : decode cX0_gapsWithout 130 = .ok (.iconst 1, 1) := by decide +kernel
theorem dX0_gapsWithout_131 : decode cX0_gapsWithout 131 = .ok (.iconst 2, 1) := by decide +kernel
theorem dX0_gapsWithout_132 : decode cX0_gapsWithout 132 = .ok (.iload_n 3, 1) := by decide +kernel
theorem dX0_gapsWithout_133 : decode cX0_gapsWithout 133 = .ok (.iload 4, 2) := by decide +kernel
theorem dX0_gapsWithout_135 : decode cX0_gapsWithout 135 = .ok (.invokevirtual 101, 3) := by decide +kernel
theorem dX0_gapsWithout_138 : decode cX0_gapsWithout 138 = .ok (.lmul, 1) := by decide +kernel
theorem dX0_gapsWithout_139 : decode cX0_gapsWithout 139 = .ok (.ladd, 1) := by decide +kernel
theorem dX0_gapsWithout_140 : decode cX0_gapsWithout 140 = .ok (.lreturn, 1) := by decide +kernel
theorem dX0_twoLines_0 : decode cX0_twoLines 0 = .ok (.aload_n 0, 1) := by decide +kernel
theorem dX0_twoLines_1 : decode cX0_twoLines 1 = .ok (.getfield 24, 3) := by decide +kernel
theorem dX0_twoLines_4 : decode cX0_twoLines 4 = .ok (.iload_n 1, 1) := by decide +kernel
theorem dX0_twoLines_5 : decode cX0_twoLines 5 = .ok (.aaload, 1) := by decide +kernel
theorem dX0_twoLines_6 : decode cX0_twoLines 6 = .ok (.iload_n 3, 1) := by decide +kernel
theorem dX0_twoLines_7 : decode cX0_twoLines 7 = .ok (.laload, 1) := by decide +kernel
theorem dX0_twoLines_8 : decode cX0_twoLines 8 = .ok (.aload_n 0, 1) := by decide +kernel
theorem dX0_twoLines_9 : decode cX0_twoLines 9 = .ok (.getfield 24, 3) := by decide +kernel
theorem dX0_twoLines_12 : decode cX0_twoLines 12 = .ok (.iload_n 2, 1) := by decide +kernel
theorem dX0_twoLines_13 : decode cX0_twoLines 13 = .ok (.aaload, 1) := by decide +kernel
theorem dX0_twoLines_14 : decode cX0_twoLines 14 = .ok (.iload 4, 2) := by decide +kernel
theorem dX0_twoLines_16 : decode cX0_twoLines 16 = .ok (.laload, 1) := by decide +kernel
theorem dX0_twoLines_17 : decode cX0_twoLines 17 = .ok (.lmul, 1) := by decide +kernel
theorem dX0_twoLines_18 : decode cX0_twoLines 18 = .ok (.aload_n 0, 1) := by decide +kernel
theorem dX0_twoLines_19 : decode cX0_twoLines 19 = .ok (.getfield 24, 3) := by decide +kernel
theorem dX0_twoLines_22 : decode cX0_twoLines 22 = .ok (.iload_n 1, 1) := by decide +kernel
theorem dX0_twoLines_23 : decode cX0_twoLines 23 = .ok (.aaload, 1) := by decide +kernel
theorem dX0_twoLines_24 : decode cX0_twoLines 24 = .ok (.iload 4, 2) := by decide +kernel
theorem dX0_twoLines_26 : decode cX0_twoLines 26 = .ok (.laload, 1) := by decide +kernel
theorem dX0_twoLines_27 : decode cX0_twoLines 27 = .ok (.aload_n 0, 1) := by decide +kernel
theorem dX0_twoLines_28 : decode cX0_twoLines 28 = .ok (.getfield 24, 3) := by decide +kernel
theorem dX0_twoLines_31 : decode cX0_twoLines 31 = .ok (.iload_n 2, 1) := by decide +kernel
theorem dX0_twoLines_32 : decode cX0_twoLines 32 = .ok (.aaload, 1) := by decide +kernel
theorem dX0_twoLines_33 : decode cX0_twoLines 33 = .ok (.iload_n 3, 1) := by decide +kernel
theorem dX0_twoLines_34 : decode cX0_twoLines 34 = .ok (.laload, 1) := by decide +kernel
theorem dX0_twoLines_35 : decode cX0_twoLines 35 = .ok (.lmul, 1) := by decide +kernel
theorem dX0_twoLines_36 : decode cX0_twoLines 36 = .ok (.lsub, 1) := by decide +kernel
theorem dX0_twoLines_37 : decode cX0_twoLines 37 = .ok (.lreturn, 1) := by decide +kernel
theorem dX0_makePositive_0 : decode cX0_makePositive 0 = .ok (.aload_n 0, 1) := by decide +kernel
theorem dX0_makePositive_1 : decode cX0_makePositive 1 = .ok (.iload_n 1, 1) := by decide +kernel
theorem dX0_makePositive_2 : decode cX0_makePositive 2 = .ok (.invokevirtual 105, 3) := by decide +kernel
theorem dX0_makePositive_5 : decode cX0_makePositive 5 = .ok (.lstore_n 2, 1) := by decide +kernel
theorem dX0_makePositive_6 : decode cX0_makePositive 6 = .ok (.iconst 0, 1) := by decide +kernel
theorem dX0_makePositive_7 : decode cX0_makePositive 7 = .ok (.istore 4, 2) := by decide +kernel
theorem dX0_makePositive_9 : decode cX0_makePositive 9 = .ok (.iload 4, 2) := by decide +kernel
theorem dX0_makePositive_11 : decode cX0_makePositive 11 = .ok (.iconst 4, 1) := by decide +kernel
theorem dX0_makePositive_12 : decode cX0_makePositive 12 = .ok (.if_icmp .ge 49, 3) := by decide +kernel
theorem dX0_makePositive_15 : decode cX0_makePositive 15 = .ok (.aload_n 0, 1) := by decide +kernel
theorem dX0_makePositive_16 : decode cX0_makePositive 16 = .ok (.getfield 18, 3) := by decide +kernel
theorem dX0_makePositive_19 : decode cX0_makePositive 19 = .ok (.getfield 93, 3) := by decide +kernel
theorem dX0_makePositive_22 : decode cX0_makePositive 22 = .ok (.iload 4, 2) := by decide +kernel
theorem dX0_makePositive_24 : decode cX0_makePositive 24 = .ok (.dup2, 1) := by decide +kernel
theorem dX0_makePositive_25 : decode cX0_makePositive 25 = .ok (.laload, 1) := by decide +kernel
theorem dX0_makePositive_26 : decode cX0_makePositive 26 = .ok (.lload_n 2, 1) := by decide +kernel
theorem dX0_makePositive_27 : decode cX0_makePositive 27 = .ok (.lmul, 1) := by decide +kernel
theorem dX0_makePositive_28 : decode cX0_makePositive 28 = .ok (.lastore, 1) := by decide +kernel
theorem dX0_makePositive_29 : decode cX0_makePositive 29 = .ok (.iload_n 1, 1) := by decide +kernel
theorem dX0_makePositive_30 : decode cX0_makePositive 30 = .ok (.iload 4, 2) := by decide +kernel
theorem dX0_makePositive_32 : decode cX0_makePositive 32 = .ok (.invokestatic 81, 3) := by decide +kernel
theorem dX0_makePositive_35 : decode cX0_makePositive 35 = .ok (.ifCond .eq 20, 3) := by decide +kernel
theorem dX0_makePositive_38 : decode cX0_makePositive 38 = .ok (.aload_n 0, 1) := by decide +kernel
theorem dX0_makePositive_39 : decode cX0_makePositive 39 = .ok (.getfield 18, 3) := by decide +kernel
theorem dX0_makePositive_42 : decode cX0_makePositive 42 = .ok (.getfield 93, 3) := by decide +kernel
theorem dX0_makePositive_45 : decode cX0_makePositive 45 = .ok (.iload 4, 2) := by decide +kernel
theorem dX0_makePositive_47 : decode cX0_makePositive 47 = .ok (.laload, 1) := by decide +kernel
theorem dX0_makePositive_48 : decode cX0_makePositive 48 = .ok (.lconst 0, 1) := by decide +kernel
theorem dX0_makePositive_49 : decode cX0_makePositive 49 = .ok (.lcmp, 1) := by decide +kernel
theorem dX0_makePositive_50 : decode cX0_makePositive 50 = .ok (.ifCond .gt 5, 3) := by decide +kernel
theorem dX0_makePositive_53 : decode cX0_makePositive 53 = .ok (.iconst 0, 1) := by decide +kernel
theorem dX0_makePositive_54 : decode cX0_makePositive 54 = .ok (.ireturn, 1) := by decide +kernel
theorem dX0_makePositive_55 : decode cX0_makePositive 55 = .ok (.iinc 4 1, 3) := by decide +kernel
theorem dX0_makePositive_58 : decode cX0_makePositive 58 = .ok (.goto (-49), 3) := by decide +kernel
theorem dX0_makePositive_61 : decode cX0_makePositive 61 = .ok (.iconst 1, 1) := by decide +kernel
theorem dX0_makePositive_62 : decode cX0_makePositive 62 = .ok (.ireturn, 1) := by decide +kernel
theorem dX0_signOfFirst_0 : decode cX0_signOfFirst 0 = .ok (.iconst 0, 1) := by decide +kernel
theorem dX0_signOfFirst_1 : decode cX0_signOfFirst 1 = .ok (.istore_n 2, 1) := by decide +kernel
theorem dX0_signOfFirst_2 : decode cX0_signOfFirst 2 = .ok (.iload_n 2, 1) := by decide +kernel
theorem dX0_signOfFirst_3 : decode cX0_signOfFirst 3 = .ok (.iconst 4, 1) := by decide +kernel
theorem dX0_signOfFirst_4 : decode cX0_signOfFirst 4 = .ok (.if_icmp .ge 39, 3) := by decide +kernel
theorem dX0_signOfFirst_7 : decode cX0_signOfFirst 7 = .ok (.iload_n 1, 1) := by decide +kernel
theorem dX0_signOfFirst_8 : decode cX0_signOfFirst 8 = .ok (.iload_n 2, 1) := by decide +kernel
theorem dX0_signOfFirst_9 : decode cX0_signOfFirst 9 = .ok (.invokestatic 81, 3) := by decide +kernel
theorem dX0_signOfFirst_12 : decode cX0_signOfFirst 12 = .ok (.ifCond .eq 25, 3) := by decide +kernel
theorem dX0_signOfFirst_15 : decode cX0_signOfFirst 15 = .ok (.aload_n 0, 1) := by decide +kernel
theorem dX0_signOfFirst_16 : decode cX0_signOfFirst 16 = .ok (.getfield 18, 3) := by decide +kernel
theorem dX0_signOfFirst_19 : decode cX0_signOfFirst 19 = .ok (.getfield 93, 3) := by decide +kernel
theorem dX0_signOfFirst_22 : decode cX0_signOfFirst 22 = .ok (.iload_n 2, 1) := by decide +kernel
theorem dX0_signOfFirst_23 : decode cX0_signOfFirst 23 = .ok (.laload, 1) := by decide +kernel
theorem dX0_signOfFirst_24 : decode cX0_signOfFirst 24 = .ok (.lconst 0, 1) := by decide +kernel
theorem dX0_signOfFirst_25 : decode cX0_signOfFirst 25 = .ok (.lcmp, 1) := by decide +kernel
theorem dX0_signOfFirst_26 : decode cX0_signOfFirst 26 = .ok (.ifCond .ge 9, 3) := by decide +kernel
theorem dX0_signOfFirst_29 : decode cX0_signOfFirst 29 = .ok (.ldc2_w 109, 3) := by decide +kernel
theorem dX0_signOfFirst_32 : decode cX0_signOfFirst 32 = .ok (.goto 4, 3) := by decide +kernel
theorem dX0_signOfFirst_35 : decode cX0_signOfFirst 35 = .ok (.lconst 1, 1) := by decide +kernel
theorem dX0_signOfFirst_36 : decode cX0_signOfFirst 36 = .ok (.lreturn, 1) := by decide +kernel
theorem dX0_signOfFirst_37 : decode cX0_signOfFirst 37 = .ok (.iinc 2 1, 3) := by decide +kernel
theorem dX0_signOfFirst_40 : decode cX0_signOfFirst 40 = .ok (.goto (-38), 3) := by decide +kernel
theorem dX0_signOfFirst_43 : decode cX0_signOfFirst 43 = .ok (.lconst 1, 1) := by decide +kernel
theorem dX0_signOfFirst_44 : decode cX0_signOfFirst 44 = .ok (.lreturn, 1) := by decide +kernel
theorem dX0_keepSpare_0 : decode cX0_keepSpare 0 = .ok (.aload_n 0, 1) := by decide +kernel
theorem dX0_keepSpare_1 : decode cX0_keepSpare 1 = .ok (.getfield 27, 3) := by decide +kernel
theorem dX0_keepSpare_4 : decode cX0_keepSpare 4 = .ok (.istore_n 1, 1) := by decide +kernel
theorem dX0_keepSpare_5 : decode cX0_keepSpare 5 = .ok (.aload_n 0, 1) := by decide +kernel
theorem dX0_keepSpare_6 : decode cX0_keepSpare 6 = .ok (.getfield 27, 3) := by decide +kernel
theorem dX0_keepSpare_9 : decode cX0_keepSpare 9 = .ok (.iconst 1, 1) := by decide +kernel
theorem dX0_keepSpare_10 : decode cX0_keepSpare 10 = .ok (.isub, 1) := by decide +kernel
theorem dX0_keepSpare_11 : decode cX0_keepSpare 11 = .ok (.istore_n 2, 1) := by decide +kernel
theorem dX0_keepSpare_12 : decode cX0_keepSpare 12 = .ok (.iload_n 2, 1) := by decide +kernel
theorem dX0_keepSpare_13 : decode cX0_keepSpare 13 = .ok (.ifCond .lt 47, 3) := by decide +kernel
theorem dX0_keepSpare_16 : decode cX0_keepSpare 16 = .ok (.aload_n 0, 1) := by decide +kernel
theorem dX0_keepSpare_17 : decode cX0_keepSpare 17 = .ok (.getfield 11, 3) := by decide +kernel
theorem dX0_keepSpare_20 : decode cX0_keepSpare 20 = .ok (.iload_n 2, 1) := by decide +kernel
theorem dX0_keepSpare_21 : decode cX0_keepSpare 21 = .ok (.aaload, 1) := by decide +kernel
theorem dX0_keepSpare_22 : decode cX0_keepSpare 22 = .ok (.astore_n 3, 1) := by decide +kernel
theorem dX0_keepSpare_23 : decode cX0_keepSpare 23 = .ok (.aload_n 3, 1) := by decide +kernel
theorem dX0_keepSpare_24 : decode cX0_keepSpare 24 = .ok (.ifnonnull 7, 3) := by decide +kernel
theorem dX0_keepSpare_27 : decode cX0_keepSpare 27 = .ok (.iconst 1, 1) := by decide +kernel
theorem dX0_keepSpare_28 : decode cX0_keepSpare 28 = .ok (.goto 11, 3) := by decide +kernel
theorem dX0_keepSpare_31 : decode cX0_keepSpare 31 = .ok (.aload_n 0, 1) := by decide +kernel
theorem dX0_keepSpare_32 : decode cX0_keepSpare 32 = .ok (.getfield 18, 3) := by decide +kernel
theorem dX0_keepSpare_35 : decode cX0_keepSpare 35 = .ok (.aload_n 3, 1) := by decide +kernel
theorem dX0_keepSpare_36 : decode cX0_keepSpare 36 = .ok (.invokevirtual 35, 3) := by decide +kernel
theorem dX0_keepSpare_39 : decode cX0_keepSpare 39 = .ok (.istore 4, 2) := by decide +kernel
theorem dX0_keepSpare_41 : decode cX0_keepSpare 41 = .ok (.iload 4, 2) := by decide +kernel
theorem dX0_keepSpare_43 : decode cX0_keepSpare 43 = .ok (.ifCond .ne 4, 3) := by decide +kernel
theorem dX0_keepSpare_46 : decode cX0_keepSpare 46 = .ok (.return_, 1) := by decide +kernel
theorem dX0_keepSpare_47 : decode cX0_keepSpare 47 = .ok (.iload 4, 2) := by decide +kernel
theorem dX0_keepSpare_49 : decode cX0_keepSpare 49 = .ok (.ifCond .ge 5, 3) := by decide +kernel
theorem dX0_keepSpare_52 : decode cX0_keepSpare 52 = .ok (.iload_n 2, 1) := by decide +kernel
theorem dX0_keepSpare_53 : decode cX0_keepSpare 53 = .ok (.istore_n 1, 1) := by decide +kernel
theorem dX0_keepSpare_54 : decode cX0_keepSpare 54 = .ok (.iinc 2 (-1), 3) := by decide +kernel
theorem dX0_keepSpare_57 : decode cX0_keepSpare 57 = .ok (.goto (-45), 3) := by decide +kernel
theorem dX0_keepSpare_60 : decode cX0_keepSpare 60 = .ok (.aload_n 0, 1) := by decide +kernel
theorem dX0_keepSpare_61 : decode cX0_keepSpare 61 = .ok (.getfield 27, 3) := by decide +kernel
theorem dX0_keepSpare_64 : decode cX0_keepSpare 64 = .ok (.bipush 69, 2) := by decide +kernel
theorem dX0_keepSpare_66 : decode cX0_keepSpare 66 = .ok (.if_icmp .ge 8, 3) := by decide +kernel
theorem dX0_keepSpare_69 : decode cX0_keepSpare 69 = .ok (.aload_n 0, 1) := by decide +kernel
theorem dX0_keepSpare_70 : decode cX0_keepSpare 70 = .ok (.iload_n 1, 1) := by decide +kernel
theorem dX0_keepSpare_71 : decode cX0_keepSpare 71 = .ok (.invokevirtual 111, 3) := by decide +kernel
theorem dX0_keepSpare_74 : decode cX0_keepSpare 74 = .ok (.return_, 1) := by decide +kernel
theorem dX0_insertSpare_0 : decode cX0_insertSpare 0 = .ok (.aload_n 0, 1) := by decide +kernel
theorem dX0_insertSpare_1 : decode cX0_insertSpare 1 = .ok (.getfield 11, 3) := by decide +kernel
theorem dX0_insertSpare_4 : decode cX0_insertSpare 4 = .ok (.aload_n 0, 1) := by decide +kernel
theorem dX0_insertSpare_5 : decode cX0_insertSpare 5 = .ok (.getfield 27, 3) := by decide +kernel
theorem dX0_insertSpare_8 : decode cX0_insertSpare 8 = .ok (.aaload, 1) := by decide +kernel
theorem dX0_insertSpare_9 : decode cX0_insertSpare 9 = .ok (.astore_n 2, 1) := by decide +kernel
theorem dX0_insertSpare_10 : decode cX0_insertSpare 10 = .ok (.aload_n 0, 1) := by decide +kernel
theorem dX0_insertSpare_11 : decode cX0_insertSpare 11 = .ok (.getfield 27, 3) := by decide +kernel
theorem dX0_insertSpare_14 : decode cX0_insertSpare 14 = .ok (.istore_n 3, 1) := by decide +kernel
theorem dX0_insertSpare_15 : decode cX0_insertSpare 15 = .ok (.iload_n 3, 1) := by decide +kernel
theorem dX0_insertSpare_16 : decode cX0_insertSpare 16 = .ok (.iload_n 1, 1) := by decide +kernel
theorem dX0_insertSpare_17 : decode cX0_insertSpare 17 = .ok (.if_icmp .le 23, 3) := by decide +kernel
theorem dX0_insertSpare_20 : decode cX0_insertSpare 20 = .ok (.aload_n 0, 1) := by decide +kernel
theorem dX0_insertSpare_21 : decode cX0_insertSpare 21 = .ok (.getfield 11, 3) := by decide +kernel
theorem dX0_insertSpare_24 : decode cX0_insertSpare 24 = .ok (.iload_n 3, 1) := by decide +kernel
theorem dX0_insertSpare_25 : decode cX0_insertSpare 25 = .ok (.aload_n 0, 1) := by decide +kernel
theorem dX0_insertSpare_26 : decode cX0_insertSpare 26 = .ok (.getfield 11, 3) := by decide +kernel
theorem dX0_insertSpare_29 : decode cX0_insertSpare 29 = .ok (.iload_n 3, 1) := by decide +kernel
theorem dX0_insertSpare_30 : decode cX0_insertSpare 30 = .ok (.iconst 1, 1) := by decide +kernel
theorem dX0_insertSpare_31 : decode cX0_insertSpare 31 = .ok (.isub, 1) := by decide +kernel
theorem dX0_insertSpare_32 : decode cX0_insertSpare 32 = .ok (.aaload, 1) := by decide +kernel
theorem dX0_insertSpare_33 : decode cX0_insertSpare 33 = .ok (.aastore, 1) := by decide +kernel
theorem dX0_insertSpare_34 : decode cX0_insertSpare 34 = .ok (.iinc 3 (-1), 3) := by decide +kernel
theorem dX0_insertSpare_37 : decode cX0_insertSpare 37 = .ok (.goto (-22), 3) := by decide +kernel
theorem dX0_insertSpare_40 : decode cX0_insertSpare 40 = .ok (.aload_n 0, 1) := by decide +kernel
theorem dX0_insertSpare_41 : decode cX0_insertSpare 41 = .ok (.getfield 11, 3) := by decide +kernel
theorem dX0_insertSpare_44 : decode cX0_insertSpare 44 = .ok (.iload_n 1, 1) := by decide +kernel
theorem dX0_insertSpare_45 : decode cX0_insertSpare 45 = .ok (.aload_n 0, 1) := by decide +kernel
theorem dX0_insertSpare_46 : decode cX0_insertSpare 46 = .ok (.getfield 18, 3) := by decide +kernel
theorem dX0_insertSpare_49 : decode cX0_insertSpare 49 = .ok (.aastore, 1) := by decide +kernel
theorem dX0_insertSpare_50 : decode cX0_insertSpare 50 = .ok (.aload_n 0, 1) := by decide +kernel
theorem dX0_insertSpare_51 : decode cX0_insertSpare 51 = .ok (.aload_n 2, 1) := by decide +kernel
theorem dX0_insertSpare_52 : decode cX0_insertSpare 52 = .ok (.ifnonnull 13, 3) := by decide +kernel
theorem dX0_insertSpare_55 : decode cX0_insertSpare 55 = .ok (.new 9, 3) := by decide +kernel
theorem dX0_insertSpare_58 : decode cX0_insertSpare 58 = .ok (.dup, 1) := by decide +kernel
theorem dX0_insertSpare_59 : decode cX0_insertSpare 59 = .ok (.invokespecial 17, 3) := by decide +kernel
theorem dX0_insertSpare_62 : decode cX0_insertSpare 62 = .ok (.goto 4, 3) := by decide +kernel
theorem dX0_insertSpare_65 : decode cX0_insertSpare 65 = .ok (.aload_n 2, 1) := by decide +kernel
theorem dX0_insertSpare_66 : decode cX0_insertSpare 66 = .ok (.putfield 18, 3) := by decide +kernel
theorem dX0_insertSpare_69 : decode cX0_insertSpare 69 = .ok (.aload_n 0, 1) := by decide +kernel
theorem dX0_insertSpare_70 : decode cX0_insertSpare 70 = .ok (.dup, 1) := by decide +kernel
theorem dX0_insertSpare_71 : decode cX0_insertSpare 71 = .ok (.getfield 27, 3) := by decide +kernel
theorem dX0_insertSpare_74 : decode cX0_insertSpare 74 = .ok (.iconst 1, 1) := by decide +kernel
theorem dX0_insertSpare_75 : decode cX0_insertSpare 75 = .ok (.iadd, 1) := by decide +kernel
theorem dX0_insertSpare_76 : decode cX0_insertSpare 76 = .ok (.putfield 27, 3) := by decide +kernel
theorem dX0_insertSpare_79 : decode cX0_insertSpare 79 = .ok (.return_, 1) := by decide +kernel
theorem dX1_init_0 : decode cX1_init 0 = .ok (.aload_n 0, 1) := by decide +kernel
theorem dX1_init_1 : decode cX1_init 1 = .ok (.invokespecial 3, 3) := by decide +kernel
theorem dX1_init_4 : decode cX1_init 4 = .ok (.return_, 1) := by decide +kernel
theorem dX1_run_0 : decode cX1_run 0 = .ok (.aload_n 0, 1) := by decide +kernel
theorem dX1_run_1 : decode cX1_run 1 = .ok (.aload_n 1, 1) := by decide +kernel
theorem dX1_run_2 : decode cX1_run 2 = .ok (.invokevirtual 9, 3) := by decide +kernel
theorem dX1_run_5 : decode cX1_run 5 = .ok (.putfield 15, 3) := by decide +kernel
theorem dX1_run_8 : decode cX1_run 8 = .ok (.aload_n 0, 1) := by decide +kernel
theorem dX1_run_9 : decode cX1_run 9 = .ok (.aload_n 2, 1) := by decide +kernel
theorem dX1_run_10 : decode cX1_run 10 = .ok (.invokevirtual 9, 3) := by decide +kernel
theorem dX1_run_13 : decode cX1_run 13 = .ok (.putfield 21, 3) := by decide +kernel
theorem dX1_run_16 : decode cX1_run 16 = .ok (.aload_n 0, 1) := by decide +kernel
theorem dX1_run_17 : decode cX1_run 17 = .ok (.iconst 0, 1) := by decide +kernel
theorem dX1_run_18 : decode cX1_run 18 = .ok (.putfield 24, 3) := by decide +kernel
theorem dX1_run_21 : decode cX1_run 21 = .ok (.iconst 1, 1) := by decide +kernel
theorem dX1_run_22 : decode cX1_run 22 = .ok (.istore_n 3, 1) := by decide +kernel
theorem dX1_run_23 : decode cX1_run 23 = .ok (.iconst 0, 1) := by decide +kernel
theorem dX1_run_24 : decode cX1_run 24 = .ok (.istore 4, 2) := by decide +kernel
theorem dX1_run_26 : decode cX1_run 26 = .ok (.iload 4, 2) := by decide +kernel
theorem dX1_run_28 : decode cX1_run 28 = .ok (.bipush 8, 2) := by decide +kernel
theorem dX1_run_30 : decode cX1_run 30 = .ok (.if_icmp .ge 91, 3) := by decide +kernel
theorem dX1_run_33 : decode cX1_run 33 = .ok (.iload_n 3, 1) := by decide +kernel
theorem dX1_run_34 : decode cX1_run 34 = .ok (.ifCond .eq 87, 3) := by decide +kernel
theorem dX1_run_37 : decode cX1_run 37 = .ok (.aload_n 1, 1) := by decide +kernel
theorem dX1_run_38 : decode cX1_run 38 = .ok (.aload_n 0, 1) := by decide +kernel
theorem dX1_run_39 : decode cX1_run 39 = .ok (.getfield 15, 3) := by decide +kernel
theorem dX1_run_42 : decode cX1_run 42 = .ok (.aload_n 0, 1) := by decide +kernel
theorem dX1_run_43 : decode cX1_run 43 = .ok (.getfield 21, 3) := by decide +kernel
theorem dX1_run_46 : decode cX1_run 46 = .ok (.invokevirtual 27, 3) := by decide +kernel
theorem dX1_run_49 : decode cX1_run 49 = .ok (.istore 5, 2) := by decide +kernel
theorem dX1_run_51 : decode cX1_run 51 = .ok (.aload_n 2, 1) := by decide +kernel
theorem dX1_run_52 : decode cX1_run 52 = .ok (.aload_n 0, 1) := by decide +kernel
theorem dX1_run_53 : decode cX1_run 53 = .ok (.getfield 21, 3) := by decide +kernel
theorem dX1_run_56 : decode cX1_run 56 = .ok (.aload_n 0, 1) := by decide +kernel
theorem dX1_run_57 : decode cX1_run 57 = .ok (.getfield 15, 3) := by decide +kernel
theorem dX1_run_60 : decode cX1_run 60 = .ok (.invokevirtual 27, 3) := by decide +kernel
theorem dX1_run_63 : decode cX1_run 63 = .ok (.istore 6, 2) := by decide +kernel
theorem dX1_run_65 : decode cX1_run 65 = .ok (.iload 5, 2) := by decide +kernel
theorem dX1_run_67 : decode cX1_run 67 = .ok (.aload_n 0, 1) := by decide +kernel
theorem dX1_run_68 : decode cX1_run 68 = .ok (.getfield 15, 3) := by decide +kernel
theorem dX1_run_71 : decode cX1_run 71 = .ok (.if_icmp .ne 12, 3) := by decide +kernel
theorem dX1_run_74 : decode cX1_run 74 = .ok (.iload 6, 2) := by decide +kernel
theorem dX1_run_76 : decode cX1_run 76 = .ok (.aload_n 0, 1) := by decide +kernel
theorem dX1_run_77 : decode cX1_run 77 = .ok (.getfield 21, 3) := by decide +kernel
theorem dX1_run_80 : decode cX1_run 80 = .ok (.if_icmp .eq 7, 3) := by decide +kernel
theorem dX1_run_83 : decode cX1_run 83 = .ok (.iconst 1, 1) := by decide +kernel
theorem dX1_run_84 : decode cX1_run 84 = .ok (.goto 4, 3) := by decide +kernel
theorem dX1_run_87 : decode cX1_run 87 = .ok (.iconst 0, 1) := by decide +kernel
theorem dX1_run_88 : decode cX1_run 88 = .ok (.istore_n 3, 1) := by decide +kernel
theorem dX1_run_89 : decode cX1_run 89 = .ok (.iload_n 3, 1) := by decide +kernel
theorem dX1_run_90 : decode cX1_run 90 = .ok (.ifCond .eq 13, 3) := by decide +kernel
theorem dX1_run_93 : decode cX1_run 93 = .ok (.aload_n 0, 1) := by decide +kernel
theorem dX1_run_94 : decode cX1_run 94 = .ok (.dup, 1) := by decide +kernel
theorem dX1_run_95 : decode cX1_run 95 = .ok (.getfield 24, 3) := by decide +kernel
theorem dX1_run_98 : decode cX1_run 98 = .ok (.iconst 1, 1) := by decide +kernel
theorem dX1_run_99 : decode cX1_run 99 = .ok (.iadd, 1) := by decide +kernel
theorem dX1_run_100 : decode cX1_run 100 = .ok (.putfield 24, 3) := by decide +kernel
theorem dX1_run_103 : decode cX1_run 103 = .ok (.aload_n 0, 1) := by decide +kernel
theorem dX1_run_104 : decode cX1_run 104 = .ok (.iload 5, 2) := by decide +kernel
theorem dX1_run_106 : decode cX1_run 106 = .ok (.putfield 15, 3) := by decide +kernel
theorem dX1_run_109 : decode cX1_run 109 = .ok (.aload_n 0, 1) := by decide +kernel
theorem dX1_run_110 : decode cX1_run 110 = .ok (.iload 6, 2) := by decide +kernel
theorem dX1_run_112 : decode cX1_run 112 = .ok (.putfield 21, 3) := by decide +kernel
theorem dX1_run_115 : decode cX1_run 115 = .ok (.iinc 4 1, 3) := by decide +kernel
theorem dX1_run_118 : decode cX1_run 118 = .ok (.goto (-92), 3) := by decide +kernel
theorem dX1_run_121 : decode cX1_run 121 = .ok (.return_, 1) := by decide +kernel
theorem dX2_init_0 : decode cX2_init 0 = .ok (.aload_n 0, 1) := by decide +kernel
theorem dX2_init_1 : decode cX2_init 1 = .ok (.invokespecial 3, 3) := by decide +kernel
theorem dX2_init_4 : decode cX2_init 4 = .ok (.aload_n 0, 1) := by decide +kernel
theorem dX2_init_5 : decode cX2_init 5 = .ok (.iconst 4, 1) := by decide +kernel
theorem dX2_init_6 : decode cX2_init 6 = .ok (.newarray .long, 2) := by decide +kernel
theorem dX2_init_8 : decode cX2_init 8 = .ok (.putfield 9, 3) := by decide +kernel
theorem dX2_init_11 : decode cX2_init 11 = .ok (.return_, 1) := by decide +kernel
theorem dX2_sumUp_0 : decode cX2_sumUp 0 = .ok (.aload_n 0, 1) := by decide +kernel
theorem dX2_sumUp_1 : decode cX2_sumUp 1 = .ok (.lconst 0, 1) := by decide +kernel
theorem dX2_sumUp_2 : decode cX2_sumUp 2 = .ok (.putfield 15, 3) := by decide +kernel
theorem dX2_sumUp_5 : decode cX2_sumUp 5 = .ok (.aload_n 0, 1) := by decide +kernel
theorem dX2_sumUp_6 : decode cX2_sumUp 6 = .ok (.iconst 0, 1) := by decide +kernel
theorem dX2_sumUp_7 : decode cX2_sumUp 7 = .ok (.putfield 19, 3) := by decide +kernel
theorem dX2_sumUp_10 : decode cX2_sumUp 10 = .ok (.iconst 0, 1) := by decide +kernel
theorem dX2_sumUp_11 : decode cX2_sumUp 11 = .ok (.istore_n 1, 1) := by decide +kernel
theorem dX2_sumUp_12 : decode cX2_sumUp 12 = .ok (.iload_n 1, 1) := by decide +kernel
theorem dX2_sumUp_13 : decode cX2_sumUp 13 = .ok (.iconst 4, 1) := by decide +kernel
theorem dX2_sumUp_14 : decode cX2_sumUp 14 = .ok (.if_icmp .ge 47, 3) := by decide +kernel
theorem dX2_sumUp_17 : decode cX2_sumUp 17 = .ok (.aload_n 0, 1) := by decide +kernel
theorem dX2_sumUp_18 : decode cX2_sumUp 18 = .ok (.dup, 1) := by decide +kernel
theorem dX2_sumUp_19 : decode cX2_sumUp 19 = .ok (.getfield 15, 3) := by decide +kernel
theorem dX2_sumUp_22 : decode cX2_sumUp 22 = .ok (.aload_n 0, 1) := by decide +kernel
theorem dX2_sumUp_23 : decode cX2_sumUp 23 = .ok (.getfield 9, 3) := by decide +kernel
theorem dX2_sumUp_26 : decode cX2_sumUp 26 = .ok (.iload_n 1, 1) := by decide +kernel
theorem dX2_sumUp_27 : decode cX2_sumUp 27 = .ok (.laload, 1) := by decide +kernel
theorem dX2_sumUp_28 : decode cX2_sumUp 28 = .ok (.ladd, 1) := by decide +kernel
theorem dX2_sumUp_29 : decode cX2_sumUp 29 = .ok (.putfield 15, 3) := by decide +kernel
theorem dX2_sumUp_32 : decode cX2_sumUp 32 = .ok (.aload_n 0, 1) := by decide +kernel
theorem dX2_sumUp_33 : decode cX2_sumUp 33 = .ok (.getfield 9, 3) := by decide +kernel
theorem dX2_sumUp_36 : decode cX2_sumUp 36 = .ok (.iload_n 1, 1) := by decide +kernel
theorem dX2_sumUp_37 : decode cX2_sumUp 37 = .ok (.laload, 1) := by decide +kernel
theorem dX2_sumUp_38 : decode cX2_sumUp 38 = .ok (.lconst 0, 1) := by decide +kernel
theorem dX2_sumUp_39 : decode cX2_sumUp 39 = .ok (.lcmp, 1) := by decide +kernel
theorem dX2_sumUp_40 : decode cX2_sumUp 40 = .ok (.ifCond .le 15, 3) := by decide +kernel
theorem dX2_sumUp_43 : decode cX2_sumUp 43 = .ok (.aload_n 0, 1) := by decide +kernel
theorem dX2_sumUp_44 : decode cX2_sumUp 44 = .ok (.dup, 1) := by decide +kernel
theorem dX2_sumUp_45 : decode cX2_sumUp 45 = .ok (.getfield 19, 3) := by decide +kernel
theorem dX2_sumUp_48 : decode cX2_sumUp 48 = .ok (.iconst 1, 1) := by decide +kernel
theorem dX2_sumUp_49 : decode cX2_sumUp 49 = .ok (.iload_n 1, 1) := by decide +kernel
theorem dX2_sumUp_50 : decode cX2_sumUp 50 = .ok (.ishl, 1) := by decide +kernel
theorem dX2_sumUp_51 : decode cX2_sumUp 51 = .ok (.ior, 1) := by decide +kernel
theorem dX2_sumUp_52 : decode cX2_sumUp 52 = .ok (.putfield 19, 3) := by decide +kernel
theorem dX2_sumUp_55 : decode cX2_sumUp 55 = .ok (.iinc 1 1, 3) := by decide +kernel
theorem dX2_sumUp_58 : decode cX2_sumUp 58 = .ok (.goto (-46), 3) := by decide +kernel
theorem dX2_sumUp_61 : decode cX2_sumUp 61 = .ok (.return_, 1) := by decide +kernel
theorem dX2_orderTo_0 : decode cX2_orderTo 0 = .ok (.iconst 0, 1) := by decide +kernel
theorem dX2_orderTo_1 : decode cX2_orderTo 1 = .ok (.istore_n 2, 1) := by decide +kernel
theorem dX2_orderTo_2 : decode cX2_orderTo 2 = .ok (.iload_n 2, 1) := by decide +kernel
theorem dX2_orderTo_3 : decode cX2_orderTo 3 = .ok (.iconst 4, 1) := by decide +kernel
theorem dX2_orderTo_4 : decode cX2_orderTo 4 = .ok (.if_icmp .ge 54, 3) := by decide +kernel
theorem dX2_orderTo_7 : decode cX2_orderTo 7 = .ok (.aload_n 0, 1) := by decide +kernel
theorem dX2_orderTo_8 : decode cX2_orderTo 8 = .ok (.getfield 9, 3) := by decide +kernel
theorem dX2_orderTo_11 : decode cX2_orderTo 11 = .ok (.iload_n 2, 1) := by decide +kernel
theorem dX2_orderTo_12 : decode cX2_orderTo 12 = .ok (.laload, 1) := by decide +kernel
theorem dX2_orderTo_13 : decode cX2_orderTo 13 = .ok (.aload_n 1, 1) := by decide +kernel
theorem dX2_orderTo_14 : decode cX2_orderTo 14 = .ok (.getfield 15, 3) := by decide +kernel
theorem dX2_orderTo_17 : decode cX2_orderTo 17 = .ok (.lmul, 1) := by decide +kernel
theorem dX2_orderTo_18 : decode cX2_orderTo 18 = .ok (.lstore_n 3, 1) := by decide +kernel
theorem dX2_orderTo_19 : decode cX2_orderTo 19 = .ok (.aload_n 1, 1) := by decide +kernel
theorem dX2_orderTo_20 : decode cX2_orderTo 20 = .ok (.getfield 9, 3) := by decide +kernel
theorem dX2_orderTo_23 : decode cX2_orderTo 23 = .ok (.iload_n 2, 1) := by decide +kernel
theorem dX2_orderTo_24 : decode cX2_orderTo 24 = .ok (.laload, 1) := by decide +kernel
theorem dX2_orderTo_25 : decode cX2_orderTo 25 = .ok (.aload_n 0, 1) := by decide +kernel
theorem dX2_orderTo_26 : decode cX2_orderTo 26 = .ok (.getfield 15, 3) := by decide +kernel
theorem dX2_orderTo_29 : decode cX2_orderTo 29 = .ok (.lmul, 1) := by decide +kernel
theorem dX2_orderTo_30 : decode cX2_orderTo 30 = .ok (.lstore 5, 2) := by decide +kernel
theorem dX2_orderTo_32 : decode cX2_orderTo 32 = .ok (.lload_n 3, 1) := by decide +kernel
theorem dX2_orderTo_33 : decode cX2_orderTo 33 = .ok (.lload 5, 2) := by decide +kernel
theorem dX2_orderTo_35 : decode cX2_orderTo 35 = .ok (.lcmp, 1) := by decide +kernel
theorem dX2_orderTo_36 : decode cX2_orderTo 36 = .ok (.ifCond .eq 16, 3) := by decide +kernel
theorem dX2_orderTo_39 : decode cX2_orderTo 39 = .ok (.lload_n 3, 1) := by decide +kernel
theorem dX2_orderTo_40 : decode cX2_orderTo 40 = .ok (.lload 5, 2) := by decide +kernel
theorem dX2_orderTo_42 : decode cX2_orderTo 42 = .ok (.lcmp, 1) := by decide +kernel
theorem dX2_orderTo_43 : decode cX2_orderTo 43 = .ok (.ifCond .le 7, 3) := by decide +kernel
theorem dX2_orderTo_46 : decode cX2_orderTo 46 = .ok (.iconst (-1), 1) := by decide +kernel
theorem dX2_orderTo_47 : decode cX2_orderTo 47 = .ok (.goto 4, 3) := by decide +kernel
theorem dX2_orderTo_50 : decode cX2_orderTo 50 = .ok (.iconst 1, 1) := by decide +kernel
theorem dX2_orderTo_51 : decode cX2_orderTo 51 = .ok (.ireturn, 1) := by decide +kernel
theorem dX2_orderTo_52 : decode cX2_orderTo 52 = .ok (.iinc 2 1, 3) := by decide +kernel
theorem dX2_orderTo_55 : decode cX2_orderTo 55 = .ok (.goto (-53), 3) := by decide +kernel
theorem dX2_orderTo_58 : decode cX2_orderTo 58 = .ok (.iconst 0, 1) := by decide +kernel
theorem dX2_orderTo_59 : decode cX2_orderTo 59 = .ok (.ireturn, 1) := by decide +kernel
theorem dX2_fits_0 : decode cX2_fits 0 = .ok (.aload_n 0, 1) := by decide +kernel
theorem dX2_fits_1 : decode cX2_fits 1 = .ok (.getfield 19, 3) := by decide +kernel
theorem dX2_fits_4 : decode cX2_fits 4 = .ok (.aload_n 1, 1) := by decide +kernel
theorem dX2_fits_5 : decode cX2_fits 5 = .ok (.getfield 23, 3) := by decide +kernel
theorem dX2_fits_8 : decode cX2_fits 8 = .ok (.iconst (-1), 1) := by decide +kernel
theorem dX2_fits_9 : decode cX2_fits 9 = .ok (.ixor, 1) := by decide +kernel
theorem dX2_fits_10 : decode cX2_fits 10 = .ok (.iand, 1) := by decide +kernel
theorem dX2_fits_11 : decode cX2_fits 11 = .ok (.ifCond .ne 21, 3) := by decide +kernel
theorem dX2_fits_14 : decode cX2_fits 14 = .ok (.aload_n 1, 1) := by decide +kernel
theorem dX2_fits_15 : decode cX2_fits 15 = .ok (.getfield 19, 3) := by decide +kernel
theorem dX2_fits_18 : decode cX2_fits 18 = .ok (.aload_n 0, 1) := by decide +kernel
theorem dX2_fits_19 : decode cX2_fits 19 = .ok (.getfield 23, 3) := by decide +kernel
theorem dX2_fits_22 : decode cX2_fits 22 = .ok (.iconst (-1), 1) := by decide +kernel
theorem dX2_fits_23 : decode cX2_fits 23 = .ok (.ixor, 1) := by decide +kernel
theorem dX2_fits_24 : decode cX2_fits 24 = .ok (.iand, 1) := by decide +kernel
theorem dX2_fits_25 : decode cX2_fits 25 = .ok (.ifCond .ne 7, 3) := by decide +kernel
theorem dX2_fits_28 : decode cX2_fits 28 = .ok (.iconst 1, 1) := by decide +kernel
theorem dX2_fits_29 : decode cX2_fits 29 = .ok (.goto 4, 3) := by decide +kernel
theorem dX2_fits_32 : decode cX2_fits 32 = .ok (.iconst 0, 1) := by decide +kernel
theorem dX2_fits_33 : decode cX2_fits 33 = .ok (.ireturn, 1) := by decide +kernel
theorem dX3_init_0 : decode cX3_init 0 = .ok (.aload_n 0, 1) := by decide +kernel
theorem dX3_init_1 : decode cX3_init 1 = .ok (.invokespecial 3, 3) := by decide +kernel
theorem dX3_init_4 : decode cX3_init 4 = .ok (.aload_n 0, 1) := by decide +kernel
theorem dX3_init_5 : decode cX3_init 5 = .ok (.iconst 1, 1) := by decide +kernel
theorem dX3_init_6 : decode cX3_init 6 = .ok (.putfield 9, 3) := by decide +kernel
theorem dX3_init_9 : decode cX3_init 9 = .ok (.aload_n 0, 1) := by decide +kernel
theorem dX3_init_10 : decode cX3_init 10 = .ok (.new 15, 3) := by decide +kernel
theorem dX3_init_13 : decode cX3_init 13 = .ok (.dup, 1) := by decide +kernel
theorem dX3_init_14 : decode cX3_init 14 = .ok (.invokespecial 17, 3) := by decide +kernel
theorem dX3_init_17 : decode cX3_init 17 = .ok (.putfield 18, 3) := by decide +kernel
theorem dX3_init_20 : decode cX3_init 20 = .ok (.aload_n 0, 1) := by decide +kernel
theorem dX3_init_21 : decode cX3_init 21 = .ok (.bipush 16, 2) := by decide +kernel
theorem dX3_init_23 : decode cX3_init 23 = .ok (.newarray .int, 2) := by decide +kernel
theorem dX3_init_25 : decode cX3_init 25 = .ok (.putfield 22, 3) := by decide +kernel
theorem dX3_init_28 : decode cX3_init 28 = .ok (.aload_n 0, 1) := by decide +kernel
theorem dX3_init_29 : decode cX3_init 29 = .ok (.iconst 4, 1) := by decide +kernel
theorem dX3_init_30 : decode cX3_init 30 = .ok (.newarray .int, 2) := by decide +kernel
theorem dX3_init_32 : decode cX3_init 32 = .ok (.putfield 26, 3) := by decide +kernel
theorem dX3_init_35 : decode cX3_init 35 = .ok (.aload_n 0, 1) := by decide +kernel
theorem dX3_init_36 : decode cX3_init 36 = .ok (.new 29, 3) := by decide +kernel
theorem dX3_init_39 : decode cX3_init 39 = .ok (.dup, 1) := by decide +kernel
theorem dX3_init_40 : decode cX3_init 40 = .ok (.invokespecial 31, 3) := by decide +kernel
theorem dX3_init_43 : decode cX3_init 43 = .ok (.putfield 32, 3) := by decide +kernel
theorem dX3_init_46 : decode cX3_init 46 = .ok (.return_, 1) := by decide +kernel
theorem dX3_startAnew_0 : decode cX3_startAnew 0 = .ok (.aload_n 0, 1) := by decide +kernel
theorem dX3_startAnew_1 : decode cX3_startAnew 1 = .ok (.iload_n 1, 1) := by decide +kernel
theorem dX3_startAnew_2 : decode cX3_startAnew 2 = .ok (.putfield 9, 3) := by decide +kernel
theorem dX3_startAnew_5 : decode cX3_startAnew 5 = .ok (.iconst 0, 1) := by decide +kernel
theorem dX3_startAnew_6 : decode cX3_startAnew 6 = .ok (.istore_n 2, 1) := by decide +kernel
theorem dX3_startAnew_7 : decode cX3_startAnew 7 = .ok (.iload_n 2, 1) := by decide +kernel
theorem dX3_startAnew_8 : decode cX3_startAnew 8 = .ok (.aload_n 0, 1) := by decide +kernel
theorem dX3_startAnew_9 : decode cX3_startAnew 9 = .ok (.getfield 22, 3) := by decide +kernel
theorem dX3_startAnew_12 : decode cX3_startAnew 12 = .ok (.arraylength, 1) := by decide +kernel
theorem dX3_startAnew_13 : decode cX3_startAnew 13 = .ok (.if_icmp .ge 16, 3) := by decide +kernel
theorem dX3_startAnew_16 : decode cX3_startAnew 16 = .ok (.aload_n 0, 1) := by decide +kernel
theorem dX3_startAnew_17 : decode cX3_startAnew 17 = .ok (.getfield 22, 3) := by decide +kernel
theorem dX3_startAnew_20 : decode cX3_startAnew 20 = .ok (.iload_n 2, 1) := by decide +kernel
theorem dX3_startAnew_21 : decode cX3_startAnew 21 = .ok (.iconst 0, 1) := by decide +kernel
theorem dX3_startAnew_22 : decode cX3_startAnew 22 = .ok (.iastore, 1) := by decide +kernel
theorem dX3_startAnew_23 : decode cX3_startAnew 23 = .ok (.iinc 2 1, 3) := by decide +kernel
theorem dX3_startAnew_26 : decode cX3_startAnew 26 = .ok (.goto (-19), 3) := by decide +kernel
theorem dX3_startAnew_29 : decode cX3_startAnew 29 = .ok (.return_, 1) := by decide +kernel
theorem dX3_hasChoice_0 : decode cX3_hasChoice 0 = .ok (.iload_n 1, 1) := by decide +kernel
theorem dX3_hasChoice_1 : decode cX3_hasChoice 1 = .ok (.ifCond .lt 15, 3) := by decide +kernel
theorem dX3_hasChoice_4 : decode cX3_hasChoice 4 = .ok (.iload_n 1, 1) := by decide +kernel
theorem dX3_hasChoice_5 : decode cX3_hasChoice 5 = .ok (.aload_n 0, 1) := by decide +kernel
theorem dX3_hasChoice_6 : decode cX3_hasChoice 6 = .ok (.getfield 9, 3) := by decide +kernel
theorem dX3_hasChoice_9 : decode cX3_hasChoice 9 = .ok (.if_icmp .ge 7, 3) := by decide +kernel
theorem dX3_hasChoice_12 : decode cX3_hasChoice 12 = .ok (.iconst 1, 1) := by decide +kernel
theorem dX3_hasChoice_13 : decode cX3_hasChoice 13 = .ok (.goto 4, 3) := by decide +kernel
theorem dX3_hasChoice_16 : decode cX3_hasChoice 16 = .ok (.iconst 0, 1) := by decide +kernel
theorem dX3_hasChoice_17 : decode cX3_hasChoice 17 = .ok (.ireturn, 1) := by decide +kernel
theorem dX3_allBits_0 : decode cX3_allBits 0 = .ok (.iconst 1, 1) := by decide +kernel
theorem dX3_allBits_1 : decode cX3_allBits 1 = .ok (.aload_n 0, 1) := by decide +kernel
theorem dX3_allBits_2 : decode cX3_allBits 2 = .ok (.getfield 9, 3) := by decide +kernel
theorem dX3_allBits_5 : decode cX3_allBits 5 = .ok (.ishl, 1) := by decide +kernel
theorem dX3_allBits_6 : decode cX3_allBits 6 = .ok (.iconst 1, 1) := by decide +kernel
theorem dX3_allBits_7 : decode cX3_allBits 7 = .ok (.isub, 1) := by decide +kernel
theorem dX3_allBits_8 : decode cX3_allBits 8 = .ok (.ireturn, 1) := by decide +kernel
theorem dX3_payFor_0 : decode cX3_payFor 0 = .ok (.aload_n 0, 1) := by decide +kernel
theorem dX3_payFor_1 : decode cX3_payFor 1 = .ok (.getfield 22, 3) := by decide +kernel
theorem dX3_payFor_4 : decode cX3_payFor 4 = .ok (.iload_n 1, 1) := by decide +kernel
theorem dX3_payFor_5 : decode cX3_payFor 5 = .ok (.iconst 4, 1) := by decide +kernel
theorem dX3_payFor_6 : decode cX3_payFor 6 = .ok (.imul, 1) := by decide +kernel
theorem dX3_payFor_7 : decode cX3_payFor 7 = .ok (.iload_n 2, 1) := by decide +kernel
theorem dX3_payFor_8 : decode cX3_payFor 8 = .ok (.iadd, 1) := by decide +kernel
theorem dX3_payFor_9 : decode cX3_payFor 9 = .ok (.iaload, 1) := by decide +kernel
theorem dX3_payFor_10 : decode cX3_payFor 10 = .ok (.ireturn, 1) := by decide +kernel
theorem dX3_setPay_0 : decode cX3_setPay 0 = .ok (.aload_n 0, 1) := by decide +kernel
theorem dX3_setPay_1 : decode cX3_setPay 1 = .ok (.getfield 22, 3) := by decide +kernel
theorem dX3_setPay_4 : decode cX3_setPay 4 = .ok (.iload_n 1, 1) := by decide +kernel
theorem dX3_setPay_5 : decode cX3_setPay 5 = .ok (.iconst 4, 1) := by decide +kernel
theorem dX3_setPay_6 : decode cX3_setPay 6 = .ok (.imul, 1) := by decide +kernel
theorem dX3_setPay_7 : decode cX3_setPay 7 = .ok (.iload_n 2, 1) := by decide +kernel
theorem dX3_setPay_8 : decode cX3_setPay 8 = .ok (.iadd, 1) := by decide +kernel
theorem dX3_setPay_9 : decode cX3_setPay 9 = .ok (.iload_n 3, 1) := by decide +kernel
theorem dX3_setPay_10 : decode cX3_setPay 10 = .ok (.iastore, 1) := by decide +kernel
theorem dX3_setPay_11 : decode cX3_setPay 11 = .ok (.return_, 1) := by decide +kernel
theorem dX3_changeWeight_0 : decode cX3_changeWeight 0 = .ok (.aload_n 0, 1) := by decide +kernel
theorem dX3_changeWeight_1 : decode cX3_changeWeight 1 = .ok (.getfield 26, 3) := by decide +kernel
theorem dX3_changeWeight_4 : decode cX3_changeWeight 4 = .ok (.iload_n 1, 1) := by decide +kernel
theorem dX3_changeWeight_5 : decode cX3_changeWeight 5 = .ok (.iaload, 1) := by decide +kernel
theorem dX3_changeWeight_6 : decode cX3_changeWeight 6 = .ok (.istore_n 3, 1) := by decide +kernel
theorem dX3_changeWeight_7 : decode cX3_changeWeight 7 = .ok (.aload_n 0, 1) := by decide +kernel
theorem dX3_changeWeight_8 : decode cX3_changeWeight 8 = .ok (.getfield 26, 3) := by decide +kernel
theorem dX3_changeWeight_11 : decode cX3_changeWeight 11 = .ok (.iload_n 1, 1) := by decide +kernel
theorem dX3_changeWeight_12 : decode cX3_changeWeight 12 = .ok (.iload_n 2, 1) := by decide +kernel
theorem dX3_changeWeight_13 : decode cX3_changeWeight 13 = .ok (.iastore, 1) := by decide +kernel
theorem dX3_changeWeight_14 : decode cX3_changeWeight 14 = .ok (.iload_n 3, 1) := by decide +kernel
theorem dX3_changeWeight_15 : decode cX3_changeWeight 15 = .ok (.ireturn, 1) := by decide +kernel
theorem dX3_trayMix_0 : decode cX3_trayMix 0 = .ok (.iconst 0, 1) := by decide +kernel
theorem dX3_trayMix_1 : decode cX3_trayMix 1 = .ok (.istore_n 2, 1) := by decide +kernel
theorem dX3_trayMix_2 : decode cX3_trayMix 2 = .ok (.iload_n 2, 1) := by decide +kernel
theorem dX3_trayMix_3 : decode cX3_trayMix 3 = .ok (.iconst 4, 1) := by decide +kernel
theorem dX3_trayMix_4 : decode cX3_trayMix 4 = .ok (.if_icmp .ge 37, 3) := by decide +kernel
theorem dX3_trayMix_7 : decode cX3_trayMix 7 = .ok (.aload_n 0, 1) := by decide +kernel
theorem dX3_trayMix_8 : decode cX3_trayMix 8 = .ok (.getfield 32, 3) := by decide +kernel
theorem dX3_trayMix_11 : decode cX3_trayMix 11 = .ok (.getfield 36, 3) := by decide +kernel
theorem dX3_trayMix_14 : decode cX3_trayMix 14 = .ok (.iload_n 2, 1) := by decide +kernel
theorem dX3_trayMix_15 : decode cX3_trayMix 15 = .ok (.iload_n 2, 1) := by decide +kernel
theorem dX3_trayMix_16 : decode cX3_trayMix 16 = .ok (.aload_n 0, 1) := by decide +kernel
theorem dX3_trayMix_17 : decode cX3_trayMix 17 = .ok (.getfield 9, 3) := by decide +kernel
theorem dX3_trayMix_20 : decode cX3_trayMix 20 = .ok (.if_icmp .ge 13, 3) := by decide +kernel
theorem dX3_trayMix_23 : decode cX3_trayMix 23 = .ok (.aload_n 0, 1) := by decide +kernel
theorem dX3_trayMix_24 : decode cX3_trayMix 24 = .ok (.getfield 26, 3) := by decide +kernel
theorem dX3_trayMix_27 : decode cX3_trayMix 27 = .ok (.iload_n 2, 1) := by decide +kernel
theorem dX3_trayMix_28 : decode cX3_trayMix 28 = .ok (.iaload, 1) := by decide +kernel
theorem dX3_trayMix_29 : decode cX3_trayMix 29 = .ok (.i2l, 1) := by decide +kernel
theorem dX3_trayMix_30 : decode cX3_trayMix 30 = .ok (.goto 4, 3) := by decide +kernel
theorem dX3_trayMix_33 : decode cX3_trayMix 33 = .ok (.lconst 0, 1) := by decide +kernel
theorem dX3_trayMix_34 : decode cX3_trayMix 34 = .ok (.lastore, 1) := by decide +kernel
theorem dX3_trayMix_35 : decode cX3_trayMix 35 = .ok (.iinc 2 1, 3) := by decide +kernel
theorem dX3_trayMix_38 : decode cX3_trayMix 38 = .ok (.goto (-36), 3) := by decide +kernel
theorem dX3_trayMix_41 : decode cX3_trayMix 41 = .ok (.aload_n 0, 1) := by decide +kernel
theorem dX3_trayMix_42 : decode cX3_trayMix 42 = .ok (.getfield 32, 3) := by decide +kernel
theorem dX3_trayMix_45 : decode cX3_trayMix 45 = .ok (.invokevirtual 40, 3) := by decide +kernel
theorem dX3_trayMix_48 : decode cX3_trayMix 48 = .ok (.aload_n 0, 1) := by decide +kernel
theorem dX3_trayMix_49 : decode cX3_trayMix 49 = .ok (.getfield 32, 3) := by decide +kernel
theorem dX3_trayMix_52 : decode cX3_trayMix 52 = .ok (.getfield 43, 3) := by decide +kernel
theorem dX3_trayMix_55 : decode cX3_trayMix 55 = .ok (.lconst 0, 1) := by decide +kernel
theorem dX3_trayMix_56 : decode cX3_trayMix 56 = .ok (.lcmp, 1) := by decide +kernel
theorem dX3_trayMix_57 : decode cX3_trayMix 57 = .ok (.ifCond .ne 5, 3) := by decide +kernel
theorem dX3_trayMix_60 : decode cX3_trayMix 60 = .ok (.aconst_null, 1) := by decide +kernel
theorem dX3_trayMix_61 : decode cX3_trayMix 61 = .ok (.areturn, 1) := by decide +kernel
theorem dX3_trayMix_62 : decode cX3_trayMix 62 = .ok (.aload_n 0, 1) := by decide +kernel
theorem dX3_trayMix_63 : decode cX3_trayMix 63 = .ok (.getfield 32, 3) := by decide +kernel
theorem dX3_trayMix_66 : decode cX3_trayMix 66 = .ok (.aload_n 1, 1) := by decide +kernel
theorem dX3_trayMix_67 : decode cX3_trayMix 67 = .ok (.aload_n 0, 1) := by decide +kernel
theorem dX3_trayMix_68 : decode cX3_trayMix 68 = .ok (.getfield 32, 3) := by decide +kernel
theorem dX3_trayMix_71 : decode cX3_trayMix 71 = .ok (.invokevirtual 47, 3) := by decide +kernel
theorem dX3_trayMix_74 : decode cX3_trayMix 74 = .ok (.putfield 51, 3) := by decide +kernel
theorem dX3_trayMix_77 : decode cX3_trayMix 77 = .ok (.aload_n 0, 1) := by decide +kernel
theorem dX3_trayMix_78 : decode cX3_trayMix 78 = .ok (.getfield 32, 3) := by decide +kernel
theorem dX3_trayMix_81 : decode cX3_trayMix 81 = .ok (.areturn, 1) := by decide +kernel
theorem dX3_worthOf_0 : decode cX3_worthOf 0 = .ok (.lconst 0, 1) := by decide +kernel
theorem dX3_worthOf_1 : decode cX3_worthOf 1 = .ok (.lstore_n 3, 1) := by decide +kernel
theorem dX3_worthOf_2 : decode cX3_worthOf 2 = .ok (.iconst 0, 1) := by decide +kernel
theorem dX3_worthOf_3 : decode cX3_worthOf 3 = .ok (.istore 5, 2) := by decide +kernel
theorem dX3_worthOf_5 : decode cX3_worthOf 5 = .ok (.iload 5, 2) := by decide +kernel
theorem dX3_worthOf_7 : decode cX3_worthOf 7 = .ok (.iconst 4, 1) := by decide +kernel
theorem dX3_worthOf_8 : decode cX3_worthOf 8 = .ok (.if_icmp .ge 28, 3) := by decide +kernel
theorem dX3_worthOf_11 : decode cX3_worthOf 11 = .ok (.lload_n 3, 1) := by decide +kernel
theorem dX3_worthOf_12 : decode cX3_worthOf 12 = .ok (.aload_n 2, 1) := by decide +kernel
theorem dX3_worthOf_13 : decode cX3_worthOf 13 = .ok (.getfield 36, 3) := by decide +kernel
theorem dX3_worthOf_16 : decode cX3_worthOf 16 = .ok (.iload 5, 2) := by decide +kernel
theorem dX3_worthOf_18 : decode cX3_worthOf 18 = .ok (.laload, 1) := by decide +kernel
theorem dX3_worthOf_19 : decode cX3_worthOf 19 = .ok (.aload_n 0, 1) := by decide +kernel
theorem dX3_worthOf_20 : decode cX3_worthOf 20 = .ok (.iload_n 1, 1) := by decide +kernel
theorem dX3_worthOf_21 : decode cX3_worthOf 21 = .ok (.iload 5, 2) := by decide +kernel
theorem dX3_worthOf_23 : decode cX3_worthOf 23 = .ok (.invokevirtual 54, 3) := by decide +kernel
theorem dX3_worthOf_26 : decode cX3_worthOf 26 = .ok (.i2l, 1) := by decide +kernel
theorem dX3_worthOf_27 : decode cX3_worthOf 27 = .ok (.lmul, 1) := by decide +kernel
theorem dX3_worthOf_28 : decode cX3_worthOf 28 = .ok (.ladd, 1) := by decide +kernel
theorem dX3_worthOf_29 : decode cX3_worthOf 29 = .ok (.lstore_n 3, 1) := by decide +kernel
theorem dX3_worthOf_30 : decode cX3_worthOf 30 = .ok (.iinc 5 1, 3) := by decide +kernel
theorem dX3_worthOf_33 : decode cX3_worthOf 33 = .ok (.goto (-28), 3) := by decide +kernel
theorem dX3_worthOf_36 : decode cX3_worthOf 36 = .ok (.lload_n 3, 1) := by decide +kernel
theorem dX3_worthOf_37 : decode cX3_worthOf 37 = .ok (.lreturn, 1) := by decide +kernel
theorem dX3_answersTo_0 : decode cX3_answersTo 0 = .ok (.aload_n 0, 1) := by decide +kernel
theorem dX3_answersTo_1 : decode cX3_answersTo 1 = .ok (.iconst 0, 1) := by decide +kernel
theorem dX3_answersTo_2 : decode cX3_answersTo 2 = .ok (.aload_n 1, 1) := by decide +kernel
theorem dX3_answersTo_3 : decode cX3_answersTo 3 = .ok (.invokevirtual 58, 3) := by decide +kernel
theorem dX3_answersTo_6 : decode cX3_answersTo 6 = .ok (.lstore_n 2, 1) := by decide +kernel
theorem dX3_answersTo_7 : decode cX3_answersTo 7 = .ok (.iconst 1, 1) := by decide +kernel
theorem dX3_answersTo_8 : decode cX3_answersTo 8 = .ok (.istore 4, 2) := by decide +kernel
theorem dX3_answersTo_10 : decode cX3_answersTo 10 = .ok (.iconst 1, 1) := by decide +kernel
theorem dX3_answersTo_11 : decode cX3_answersTo 11 = .ok (.istore 5, 2) := by decide +kernel
theorem dX3_answersTo_13 : decode cX3_answersTo 13 = .ok (.iload 5, 2) := by decide +kernel
theorem dX3_answersTo_15 : decode cX3_answersTo 15 = .ok (.aload_n 0, 1) := by decide +kernel
theorem dX3_answersTo_16 : decode cX3_answersTo 16 = .ok (.getfield 9, 3) := by decide +kernel
theorem dX3_answersTo_19 : decode cX3_answersTo 19 = .ok (.if_icmp .ge 47, 3) := by decide +kernel
theorem dX3_answersTo_22 : decode cX3_answersTo 22 = .ok (.aload_n 0, 1) := by decide +kernel
theorem dX3_answersTo_23 : decode cX3_answersTo 23 = .ok (.iload 5, 2) := by decide +kernel
theorem dX3_answersTo_25 : decode cX3_answersTo 25 = .ok (.aload_n 1, 1) := by decide +kernel
theorem dX3_answersTo_26 : decode cX3_answersTo 26 = .ok (.invokevirtual 58, 3) := by decide +kernel
theorem dX3_answersTo_29 : decode cX3_answersTo 29 = .ok (.lstore 6, 2) := by decide +kernel
theorem dX3_answersTo_31 : decode cX3_answersTo 31 = .ok (.lload 6, 2) := by decide +kernel
theorem dX3_answersTo_33 : decode cX3_answersTo 33 = .ok (.lload_n 2, 1) := by decide +kernel
theorem dX3_answersTo_34 : decode cX3_answersTo 34 = .ok (.lcmp, 1) := by decide +kernel
theorem dX3_answersTo_35 : decode cX3_answersTo 35 = .ok (.ifCond .le 9, 3) := by decide +kernel
theorem dX3_answersTo_38 : decode cX3_answersTo 38 = .ok (.lload 6, 2) := by decide +kernel
theorem dX3_answersTo_40 : decode cX3_answersTo 40 = .ok (.lstore_n 2, 1) := by decide +kernel
theorem dX3_answersTo_41 : decode cX3_answersTo 41 = .ok (.iconst 0, 1) := by decide +kernel
theorem dX3_answersTo_42 : decode cX3_answersTo 42 = .ok (.istore 4, 2) := by decide +kernel
theorem dX3_answersTo_44 : decode cX3_answersTo 44 = .ok (.lload 6, 2) := by decide +kernel
theorem dX3_answersTo_46 : decode cX3_answersTo 46 = .ok (.lload_n 2, 1) := by decide +kernel
theorem dX3_answersTo_47 : decode cX3_answersTo 47 = .ok (.lcmp, 1) := by decide +kernel
theorem dX3_answersTo_48 : decode cX3_answersTo 48 = .ok (.ifCond .ne 12, 3) := by decide +kernel
theorem dX3_answersTo_51 : decode cX3_answersTo 51 = .ok (.iload 4, 2) := by decide +kernel
theorem dX3_answersTo_53 : decode cX3_answersTo 53 = .ok (.iconst 1, 1) := by decide +kernel
theorem dX3_answersTo_54 : decode cX3_answersTo 54 = .ok (.iload 5, 2) := by decide +kernel
theorem dX3_answersTo_56 : decode cX3_answersTo 56 = .ok (.ishl, 1) := by decide +kernel
theorem dX3_answersTo_57 : decode cX3_answersTo 57 = .ok (.ior, 1) := by decide +kernel
theorem dX3_answersTo_58 : decode cX3_answersTo 58 = .ok (.istore 4, 2) := by decide +kernel
theorem dX3_answersTo_60 : decode cX3_answersTo 60 = .ok (.iinc 5 1, 3) := by decide +kernel
theorem dX3_answersTo_63 : decode cX3_answersTo 63 = .ok (.goto (-50), 3) := by decide +kernel
theorem dX3_answersTo_66 : decode cX3_answersTo 66 = .ok (.iload 4, 2) := by decide +kernel
theorem dX3_answersTo_68 : decode cX3_answersTo 68 = .ok (.ireturn, 1) := by decide +kernel
theorem dX3_meanPart_0 : decode cX3_meanPart 0 = .ok (.lconst 0, 1) := by decide +kernel
theorem dX3_meanPart_1 : decode cX3_meanPart 1 = .ok (.lstore 4, 2) := by decide +kernel
theorem dX3_meanPart_3 : decode cX3_meanPart 3 = .ok (.iconst 0, 1) := by decide +kernel
theorem dX3_meanPart_4 : decode cX3_meanPart 4 = .ok (.istore 6, 2) := by decide +kernel
theorem dX3_meanPart_6 : decode cX3_meanPart 6 = .ok (.iload 6, 2) := by decide +kernel
theorem dX3_meanPart_8 : decode cX3_meanPart 8 = .ok (.aload_n 0, 1) := by decide +kernel
theorem dX3_meanPart_9 : decode cX3_meanPart 9 = .ok (.getfield 9, 3) := by decide +kernel
theorem dX3_meanPart_12 : decode cX3_meanPart 12 = .ok (.if_icmp .ge 29, 3) := by decide +kernel
theorem dX3_meanPart_15 : decode cX3_meanPart 15 = .ok (.lload 4, 2) := by decide +kernel
theorem dX3_meanPart_17 : decode cX3_meanPart 17 = .ok (.aload_n 1, 1) := by decide +kernel
theorem dX3_meanPart_18 : decode cX3_meanPart 18 = .ok (.getfield 36, 3) := by decide +kernel
theorem dX3_meanPart_21 : decode cX3_meanPart 21 = .ok (.iload 6, 2) := by decide +kernel
theorem dX3_meanPart_23 : decode cX3_meanPart 23 = .ok (.laload, 1) := by decide +kernel
theorem dX3_meanPart_24 : decode cX3_meanPart 24 = .ok (.aload_n 0, 1) := by decide +kernel
theorem dX3_meanPart_25 : decode cX3_meanPart 25 = .ok (.iload 6, 2) := by decide +kernel
theorem dX3_meanPart_27 : decode cX3_meanPart 27 = .ok (.aload_n 2, 1) := by decide +kernel
theorem dX3_meanPart_28 : decode cX3_meanPart 28 = .ok (.invokevirtual 58, 3) := by decide +kernel
theorem dX3_meanPart_31 : decode cX3_meanPart 31 = .ok (.lmul, 1) := by decide +kernel
theorem dX3_meanPart_32 : decode cX3_meanPart 32 = .ok (.ladd, 1) := by decide +kernel
theorem dX3_meanPart_33 : decode cX3_meanPart 33 = .ok (.lstore 4, 2) := by decide +kernel
theorem dX3_meanPart_35 : decode cX3_meanPart 35 = .ok (.iinc 6 1, 3) := by decide +kernel
theorem dX3_meanPart_38 : decode cX3_meanPart 38 = .ok (.goto (-32), 3) := by decide +kernel
theorem dX3_meanPart_41 : decode cX3_meanPart 41 = .ok (.lload 4, 2) := by decide +kernel
theorem dX3_meanPart_43 : decode cX3_meanPart 43 = .ok (.aload_n 1, 1) := by decide +kernel
theorem dX3_meanPart_44 : decode cX3_meanPart 44 = .ok (.getfield 43, 3) := by decide +kernel
theorem dX3_meanPart_47 : decode cX3_meanPart 47 = .ok (.aload_n 2, 1) := by decide +kernel
theorem dX3_meanPart_48 : decode cX3_meanPart 48 = .ok (.getfield 43, 3) := by decide +kernel
theorem dX3_meanPart_51 : decode cX3_meanPart 51 = .ok (.lmul, 1) := by decide +kernel
theorem dX3_meanPart_52 : decode cX3_meanPart 52 = .ok (.iload_n 3, 1) := by decide +kernel
theorem dX3_meanPart_53 : decode cX3_meanPart 53 = .ok (.invokestatic 62, 3) := by decide +kernel
theorem dX3_meanPart_56 : decode cX3_meanPart 56 = .ok (.lreturn, 1) := by decide +kernel
theorem dX3_paysMore_0 : decode cX3_paysMore 0 = .ok (.iconst 0, 1) := by decide +kernel
theorem dX3_paysMore_1 : decode cX3_paysMore 1 = .ok (.istore 4, 2) := by decide +kernel
theorem dX3_paysMore_3 : decode cX3_paysMore 3 = .ok (.iload 4, 2) := by decide +kernel
theorem dX3_paysMore_5 : decode cX3_paysMore 5 = .ok (.iconst 4, 1) := by decide +kernel
theorem dX3_paysMore_6 : decode cX3_paysMore 6 = .ok (.if_icmp .ge 37, 3) := by decide +kernel
theorem dX3_paysMore_9 : decode cX3_paysMore 9 = .ok (.iload_n 3, 1) := by decide +kernel
theorem dX3_paysMore_10 : decode cX3_paysMore 10 = .ok (.iload 4, 2) := by decide +kernel
theorem dX3_paysMore_12 : decode cX3_paysMore 12 = .ok (.invokestatic 66, 3) := by decide +kernel
theorem dX3_paysMore_15 : decode cX3_paysMore 15 = .ok (.ifCond .eq 22, 3) := by decide +kernel
theorem dX3_paysMore_18 : decode cX3_paysMore 18 = .ok (.aload_n 0, 1) := by decide +kernel
theorem dX3_paysMore_19 : decode cX3_paysMore 19 = .ok (.iload_n 1, 1) := by decide +kernel
theorem dX3_paysMore_20 : decode cX3_paysMore 20 = .ok (.iload 4, 2) := by decide +kernel
theorem dX3_paysMore_22 : decode cX3_paysMore 22 = .ok (.invokevirtual 54, 3) := by decide +kernel
theorem dX3_paysMore_25 : decode cX3_paysMore 25 = .ok (.aload_n 0, 1) := by decide +kernel
theorem dX3_paysMore_26 : decode cX3_paysMore 26 = .ok (.iload_n 2, 1) := by decide +kernel
theorem dX3_paysMore_27 : decode cX3_paysMore 27 = .ok (.iload 4, 2) := by decide +kernel
theorem dX3_paysMore_29 : decode cX3_paysMore 29 = .ok (.invokevirtual 54, 3) := by decide +kernel
theorem dX3_paysMore_32 : decode cX3_paysMore 32 = .ok (.if_icmp .gt 5, 3) := by decide +kernel
theorem dX3_paysMore_35 : decode cX3_paysMore 35 = .ok (.iconst 0, 1) := by decide +kernel
theorem dX3_paysMore_36 : decode cX3_paysMore 36 = .ok (.ireturn, 1) := by decide +kernel
theorem dX3_paysMore_37 : decode cX3_paysMore 37 = .ok (.iinc 4 1, 3) := by decide +kernel
theorem dX3_paysMore_40 : decode cX3_paysMore 40 = .ok (.goto (-37), 3) := by decide +kernel
theorem dX3_paysMore_43 : decode cX3_paysMore 43 = .ok (.iconst 1, 1) := by decide +kernel
theorem dX3_paysMore_44 : decode cX3_paysMore 44 = .ok (.ireturn, 1) := by decide +kernel
theorem dX3_firstBetter_0 : decode cX3_firstBetter 0 = .ok (.iconst 0, 1) := by decide +kernel
theorem dX3_firstBetter_1 : decode cX3_firstBetter 1 = .ok (.istore 4, 2) := by decide +kernel
theorem dX3_firstBetter_3 : decode cX3_firstBetter 3 = .ok (.iload 4, 2) := by decide +kernel
theorem dX3_firstBetter_5 : decode cX3_firstBetter 5 = .ok (.iconst 4, 1) := by decide +kernel
theorem dX3_firstBetter_6 : decode cX3_firstBetter 6 = .ok (.if_icmp .ge 32, 3) := by decide +kernel
theorem dX3_firstBetter_9 : decode cX3_firstBetter 9 = .ok (.iload_n 2, 1) := by decide +kernel
theorem dX3_firstBetter_10 : decode cX3_firstBetter 10 = .ok (.iload 4, 2) := by decide +kernel
theorem dX3_firstBetter_12 : decode cX3_firstBetter 12 = .ok (.invokestatic 66, 3) := by decide +kernel
theorem dX3_firstBetter_15 : decode cX3_firstBetter 15 = .ok (.ifCond .eq 17, 3) := by decide +kernel
theorem dX3_firstBetter_18 : decode cX3_firstBetter 18 = .ok (.aload_n 0, 1) := by decide +kernel
theorem dX3_firstBetter_19 : decode cX3_firstBetter 19 = .ok (.iload 4, 2) := by decide +kernel
theorem dX3_firstBetter_21 : decode cX3_firstBetter 21 = .ok (.iload_n 1, 1) := by decide +kernel
theorem dX3_firstBetter_22 : decode cX3_firstBetter 22 = .ok (.iload_n 3, 1) := by decide +kernel
theorem dX3_firstBetter_23 : decode cX3_firstBetter 23 = .ok (.invokevirtual 70, 3) := by decide +kernel
theorem dX3_firstBetter_26 : decode cX3_firstBetter 26 = .ok (.ifCond .eq 6, 3) := by decide +kernel
theorem dX3_firstBetter_29 : decode cX3_firstBetter 29 = .ok (.iload 4, 2) := by decide +kernel
theorem dX3_firstBetter_31 : decode cX3_firstBetter 31 = .ok (.ireturn, 1) := by decide +kernel
theorem dX3_firstBetter_32 : decode cX3_firstBetter 32 = .ok (.iinc 4 1, 3) := by decide +kernel
theorem dX3_firstBetter_35 : decode cX3_firstBetter 35 = .ok (.goto (-32), 3) := by decide +kernel
theorem dX3_firstBetter_38 : decode cX3_firstBetter 38 = .ok (.bipush (-9), 2) := by decide +kernel
theorem dX3_firstBetter_40 : decode cX3_firstBetter 40 = .ok (.ireturn, 1) := by decide +kernel
theorem dX3_notWorse_0 : decode cX3_notWorse 0 = .ok (.iconst 0, 1) := by decide +kernel
theorem dX3_notWorse_1 : decode cX3_notWorse 1 = .ok (.istore_n 3, 1) := by decide +kernel
theorem dX3_notWorse_2 : decode cX3_notWorse 2 = .ok (.iconst 0, 1) := by decide +kernel
theorem dX3_notWorse_3 : decode cX3_notWorse 3 = .ok (.istore 4, 2) := by decide +kernel
theorem dX3_notWorse_5 : decode cX3_notWorse 5 = .ok (.iload 4, 2) := by decide +kernel
theorem dX3_notWorse_7 : decode cX3_notWorse 7 = .ok (.iconst 4, 1) := by decide +kernel
theorem dX3_notWorse_8 : decode cX3_notWorse 8 = .ok (.if_icmp .ge 38, 3) := by decide +kernel
theorem dX3_notWorse_11 : decode cX3_notWorse 11 = .ok (.iload_n 1, 1) := by decide +kernel
theorem dX3_notWorse_12 : decode cX3_notWorse 12 = .ok (.iload 4, 2) := by decide +kernel
theorem dX3_notWorse_14 : decode cX3_notWorse 14 = .ok (.invokestatic 66, 3) := by decide +kernel
theorem dX3_notWorse_17 : decode cX3_notWorse 17 = .ok (.ifCond .eq 23, 3) := by decide +kernel
theorem dX3_notWorse_20 : decode cX3_notWorse 20 = .ok (.aload_n 0, 1) := by decide +kernel
theorem dX3_notWorse_21 : decode cX3_notWorse 21 = .ok (.iload 4, 2) := by decide +kernel
theorem dX3_notWorse_23 : decode cX3_notWorse 23 = .ok (.iload_n 1, 1) := by decide +kernel
theorem dX3_notWorse_24 : decode cX3_notWorse 24 = .ok (.iload_n 2, 1) := by decide +kernel
theorem dX3_notWorse_25 : decode cX3_notWorse 25 = .ok (.invokevirtual 74, 3) := by decide +kernel
theorem dX3_notWorse_28 : decode cX3_notWorse 28 = .ok (.bipush (-9), 2) := by decide +kernel
theorem dX3_notWorse_30 : decode cX3_notWorse 30 = .ok (.if_icmp .ne 10, 3) := by decide +kernel
theorem dX3_notWorse_33 : decode cX3_notWorse 33 = .ok (.iload_n 3, 1) := by decide +kernel
theorem dX3_notWorse_34 : decode cX3_notWorse 34 = .ok (.iconst 1, 1) := by decide +kernel
theorem dX3_notWorse_35 : decode cX3_notWorse 35 = .ok (.iload 4, 2) := by decide +kernel
theorem dX3_notWorse_37 : decode cX3_notWorse 37 = .ok (.ishl, 1) := by decide +kernel
theorem dX3_notWorse_38 : decode cX3_notWorse 38 = .ok (.ior, 1) := by decide +kernel
theorem dX3_notWorse_39 : decode cX3_notWorse 39 = .ok (.istore_n 3, 1) := by decide +kernel
theorem dX3_notWorse_40 : decode cX3_notWorse 40 = .ok (.iinc 4 1, 3) := by decide +kernel
theorem dX3_notWorse_43 : decode cX3_notWorse 43 = .ok (.goto (-38), 3) := by decide +kernel
theorem dX3_notWorse_46 : decode cX3_notWorse 46 = .ok (.iload_n 3, 1) := by decide +kernel
theorem dX3_notWorse_47 : decode cX3_notWorse 47 = .ok (.ireturn, 1) := by decide +kernel
theorem dX3_leastFor_0 : decode cX3_leastFor 0 = .ok (.aload_n 0, 1) := by decide +kernel
theorem dX3_leastFor_1 : decode cX3_leastFor 1 = .ok (.iload_n 1, 1) := by decide +kernel
theorem dX3_leastFor_2 : decode cX3_leastFor 2 = .ok (.iconst 0, 1) := by decide +kernel
theorem dX3_leastFor_3 : decode cX3_leastFor 3 = .ok (.invokevirtual 54, 3) := by decide +kernel
theorem dX3_leastFor_6 : decode cX3_leastFor 6 = .ok (.istore_n 3, 1) := by decide +kernel
theorem dX3_leastFor_7 : decode cX3_leastFor 7 = .ok (.iconst 1, 1) := by decide +kernel
theorem dX3_leastFor_8 : decode cX3_leastFor 8 = .ok (.istore 4, 2) := by decide +kernel
theorem dX3_leastFor_10 : decode cX3_leastFor 10 = .ok (.iload 4, 2) := by decide +kernel
theorem dX3_leastFor_12 : decode cX3_leastFor 12 = .ok (.iload_n 2, 1) := by decide +kernel
theorem dX3_leastFor_13 : decode cX3_leastFor 13 = .ok (.if_icmp .ge 21, 3) := by decide +kernel
theorem dX3_leastFor_16 : decode cX3_leastFor 16 = .ok (.iload_n 3, 1) := by decide +kernel
theorem dX3_leastFor_17 : decode cX3_leastFor 17 = .ok (.aload_n 0, 1) := by decide +kernel
theorem dX3_leastFor_18 : decode cX3_leastFor 18 = .ok (.iload_n 1, 1) := by decide +kernel
theorem dX3_leastFor_19 : decode cX3_leastFor 19 = .ok (.iload 4, 2) := by decide +kernel
theorem dX3_leastFor_21 : decode cX3_leastFor 21 = .ok (.invokevirtual 54, 3) := by decide +kernel
theorem dX3_leastFor_24 : decode cX3_leastFor 24 = .ok (.invokestatic 78, 3) := by decide +kernel
theorem dX3_leastFor_27 : decode cX3_leastFor 27 = .ok (.istore_n 3, 1) := by decide +kernel
theorem dX3_leastFor_28 : decode cX3_leastFor 28 = .ok (.iinc 4 1, 3) := by decide +kernel
theorem dX3_leastFor_31 : decode cX3_leastFor 31 = .ok (.goto (-21), 3) := by decide +kernel
theorem dX3_leastFor_34 : decode cX3_leastFor 34 = .ok (.iload_n 3, 1) := by decide +kernel
theorem dX3_leastFor_35 : decode cX3_leastFor 35 = .ok (.ireturn, 1) := by decide +kernel
theorem dX3_leastAgainst_0 : decode cX3_leastAgainst 0 = .ok (.aload_n 0, 1) := by decide +kernel
theorem dX3_leastAgainst_1 : decode cX3_leastAgainst 1 = .ok (.iconst 0, 1) := by decide +kernel
theorem dX3_leastAgainst_2 : decode cX3_leastAgainst 2 = .ok (.iload_n 1, 1) := by decide +kernel
theorem dX3_leastAgainst_3 : decode cX3_leastAgainst 3 = .ok (.invokevirtual 54, 3) := by decide +kernel
theorem dX3_leastAgainst_6 : decode cX3_leastAgainst 6 = .ok (.istore_n 2, 1) := by decide +kernel
theorem dX3_leastAgainst_7 : decode cX3_leastAgainst 7 = .ok (.iconst 1, 1) := by decide +kernel
theorem dX3_leastAgainst_8 : decode cX3_leastAgainst 8 = .ok (.istore_n 3, 1) := by decide +kernel
theorem dX3_leastAgainst_9 : decode cX3_leastAgainst 9 = .ok (.iload_n 3, 1) := by decide +kernel
theorem dX3_leastAgainst_10 : decode cX3_leastAgainst 10 = .ok (.aload_n 0, 1) := by decide +kernel
theorem dX3_leastAgainst_11 : decode cX3_leastAgainst 11 = .ok (.getfield 9, 3) := by decide +kernel
theorem dX3_leastAgainst_14 : decode cX3_leastAgainst 14 = .ok (.if_icmp .ge 20, 3) := by decide +kernel
theorem dX3_leastAgainst_17 : decode cX3_leastAgainst 17 = .ok (.iload_n 2, 1) := by decide +kernel
theorem dX3_leastAgainst_18 : decode cX3_leastAgainst 18 = .ok (.aload_n 0, 1) := by decide +kernel
theorem dX3_leastAgainst_19 : decode cX3_leastAgainst 19 = .ok (.iload_n 3, 1) := by decide +kernel
theorem dX3_leastAgainst_20 : decode cX3_leastAgainst 20 = .ok (.iload_n 1, 1) := by decide +kernel
theorem dX3_leastAgainst_21 : decode cX3_leastAgainst 21 = .ok (.invokevirtual 54, 3) := by decide +kernel
theorem dX3_leastAgainst_24 : decode cX3_leastAgainst 24 = .ok (.invokestatic 78, 3) := by decide +kernel
theorem dX3_leastAgainst_27 : decode cX3_leastAgainst 27 = .ok (.istore_n 2, 1) := by decide +kernel
theorem dX3_leastAgainst_28 : decode cX3_leastAgainst 28 = .ok (.iinc 3 1, 3) := by decide +kernel
theorem dX3_leastAgainst_31 : decode cX3_leastAgainst 31 = .ok (.goto (-22), 3) := by decide +kernel
theorem dX3_leastAgainst_34 : decode cX3_leastAgainst 34 = .ok (.iload_n 2, 1) := by decide +kernel
theorem dX3_leastAgainst_35 : decode cX3_leastAgainst 35 = .ok (.ireturn, 1) := by decide +kernel
theorem dX3_mostAgainst_0 : decode cX3_mostAgainst 0 = .ok (.aload_n 0, 1) := by decide +kernel
theorem dX3_mostAgainst_1 : decode cX3_mostAgainst 1 = .ok (.iconst 0, 1) := by decide +kernel
theorem dX3_mostAgainst_2 : decode cX3_mostAgainst 2 = .ok (.iload_n 1, 1) := by decide +kernel
theorem dX3_mostAgainst_3 : decode cX3_mostAgainst 3 = .ok (.invokevirtual 54, 3) := by decide +kernel
theorem dX3_mostAgainst_6 : decode cX3_mostAgainst 6 = .ok (.istore_n 2, 1) := by decide +kernel
theorem dX3_mostAgainst_7 : decode cX3_mostAgainst 7 = .ok (.iconst 1, 1) := by decide +kernel
theorem dX3_mostAgainst_8 : decode cX3_mostAgainst 8 = .ok (.istore_n 3, 1) := by decide +kernel
theorem dX3_mostAgainst_9 : decode cX3_mostAgainst 9 = .ok (.iload_n 3, 1) := by decide +kernel
theorem dX3_mostAgainst_10 : decode cX3_mostAgainst 10 = .ok (.aload_n 0, 1) := by decide +kernel
theorem dX3_mostAgainst_11 : decode cX3_mostAgainst 11 = .ok (.getfield 9, 3) := by decide +kernel
theorem dX3_mostAgainst_14 : decode cX3_mostAgainst 14 = .ok (.if_icmp .ge 20, 3) := by decide +kernel
theorem dX3_mostAgainst_17 : decode cX3_mostAgainst 17 = .ok (.iload_n 2, 1) := by decide +kernel
theorem dX3_mostAgainst_18 : decode cX3_mostAgainst 18 = .ok (.aload_n 0, 1) := by decide +kernel
theorem dX3_mostAgainst_19 : decode cX3_mostAgainst 19 = .ok (.iload_n 3, 1) := by decide +kernel
theorem dX3_mostAgainst_20 : decode cX3_mostAgainst 20 = .ok (.iload_n 1, 1) := by decide +kernel
theorem dX3_mostAgainst_21 : decode cX3_mostAgainst 21 = .ok (.invokevirtual 54, 3) := by decide +kernel
theorem dX3_mostAgainst_24 : decode cX3_mostAgainst 24 = .ok (.invokestatic 83, 3) := by decide +kernel
theorem dX3_mostAgainst_27 : decode cX3_mostAgainst 27 = .ok (.istore_n 2, 1) := by decide +kernel
theorem dX3_mostAgainst_28 : decode cX3_mostAgainst 28 = .ok (.iinc 3 1, 3) := by decide +kernel
theorem dX3_mostAgainst_31 : decode cX3_mostAgainst 31 = .ok (.goto (-22), 3) := by decide +kernel
theorem dX3_mostAgainst_34 : decode cX3_mostAgainst 34 = .ok (.iload_n 2, 1) := by decide +kernel
theorem dX3_mostAgainst_35 : decode cX3_mostAgainst 35 = .ok (.ireturn, 1) := by decide +kernel
theorem dX3_surePay_0 : decode cX3_surePay 0 = .ok (.aload_n 0, 1) := by decide +kernel
theorem dX3_surePay_1 : decode cX3_surePay 1 = .ok (.iconst 0, 1) := by decide +kernel
theorem dX3_surePay_2 : decode cX3_surePay 2 = .ok (.iload_n 1, 1) := by decide +kernel
theorem dX3_surePay_3 : decode cX3_surePay 3 = .ok (.invokevirtual 86, 3) := by decide +kernel
theorem dX3_surePay_6 : decode cX3_surePay 6 = .ok (.istore_n 2, 1) := by decide +kernel
theorem dX3_surePay_7 : decode cX3_surePay 7 = .ok (.iconst 1, 1) := by decide +kernel
theorem dX3_surePay_8 : decode cX3_surePay 8 = .ok (.istore_n 3, 1) := by decide +kernel
theorem dX3_surePay_9 : decode cX3_surePay 9 = .ok (.iload_n 3, 1) := by decide +kernel
theorem dX3_surePay_10 : decode cX3_surePay 10 = .ok (.aload_n 0, 1) := by decide +kernel
theorem dX3_surePay_11 : decode cX3_surePay 11 = .ok (.getfield 9, 3) := by decide +kernel
theorem dX3_surePay_14 : decode cX3_surePay 14 = .ok (.if_icmp .ge 20, 3) := by decide +kernel
theorem dX3_surePay_17 : decode cX3_surePay 17 = .ok (.iload_n 2, 1) := by decide +kernel
theorem dX3_surePay_18 : decode cX3_surePay 18 = .ok (.aload_n 0, 1) := by decide +kernel
theorem dX3_surePay_19 : decode cX3_surePay 19 = .ok (.iload_n 3, 1) := by decide +kernel
theorem dX3_surePay_20 : decode cX3_surePay 20 = .ok (.iload_n 1, 1) := by decide +kernel
theorem dX3_surePay_21 : decode cX3_surePay 21 = .ok (.invokevirtual 86, 3) := by decide +kernel
theorem dX3_surePay_24 : decode cX3_surePay 24 = .ok (.invokestatic 83, 3) := by decide +kernel
theorem dX3_surePay_27 : decode cX3_surePay 27 = .ok (.istore_n 2, 1) := by decide +kernel
theorem dX3_surePay_28 : decode cX3_surePay 28 = .ok (.iinc 3 1, 3) := by decide +kernel
theorem dX3_surePay_31 : decode cX3_surePay 31 = .ok (.goto (-22), 3) := by decide +kernel
theorem dX3_surePay_34 : decode cX3_surePay 34 = .ok (.iload_n 2, 1) := by decide +kernel
theorem dX3_surePay_35 : decode cX3_surePay 35 = .ok (.ireturn, 1) := by decide +kernel
theorem dX3_holdPay_0 : decode cX3_holdPay 0 = .ok (.aload_n 0, 1) := by decide +kernel
theorem dX3_holdPay_1 : decode cX3_holdPay 1 = .ok (.iconst 0, 1) := by decide +kernel
theorem dX3_holdPay_2 : decode cX3_holdPay 2 = .ok (.invokevirtual 89, 3) := by decide +kernel
theorem dX3_holdPay_5 : decode cX3_holdPay 5 = .ok (.istore_n 2, 1) := by decide +kernel
theorem dX3_holdPay_6 : decode cX3_holdPay 6 = .ok (.iconst 1, 1) := by decide +kernel
theorem dX3_holdPay_7 : decode cX3_holdPay 7 = .ok (.istore_n 3, 1) := by decide +kernel
theorem dX3_holdPay_8 : decode cX3_holdPay 8 = .ok (.iload_n 3, 1) := by decide +kernel
theorem dX3_holdPay_9 : decode cX3_holdPay 9 = .ok (.iload_n 1, 1) := by decide +kernel
theorem dX3_holdPay_10 : decode cX3_holdPay 10 = .ok (.if_icmp .ge 19, 3) := by decide +kernel
theorem dX3_holdPay_13 : decode cX3_holdPay 13 = .ok (.iload_n 2, 1) := by decide +kernel
theorem dX3_holdPay_14 : decode cX3_holdPay 14 = .ok (.aload_n 0, 1) := by decide +kernel
theorem dX3_holdPay_15 : decode cX3_holdPay 15 = .ok (.iload_n 3, 1) := by decide +kernel
theorem dX3_holdPay_16 : decode cX3_holdPay 16 = .ok (.invokevirtual 89, 3) := by decide +kernel
theorem dX3_holdPay_19 : decode cX3_holdPay 19 = .ok (.invokestatic 78, 3) := by decide +kernel
theorem dX3_holdPay_22 : decode cX3_holdPay 22 = .ok (.istore_n 2, 1) := by decide +kernel
theorem dX3_holdPay_23 : decode cX3_holdPay 23 = .ok (.iinc 3 1, 3) := by decide +kernel
theorem dX3_holdPay_26 : decode cX3_holdPay 26 = .ok (.goto (-18), 3) := by decide +kernel
theorem dX3_holdPay_29 : decode cX3_holdPay 29 = .ok (.iload_n 2, 1) := by decide +kernel
theorem dX3_holdPay_30 : decode cX3_holdPay 30 = .ok (.ireturn, 1) := by decide +kernel
theorem dX3_farthestPay_0 : decode cX3_farthestPay 0 = .ok (.iconst 0, 1) := by decide +kernel
theorem dX3_farthestPay_1 : decode cX3_farthestPay 1 = .ok (.istore_n 1, 1) := by decide +kernel
theorem dX3_farthestPay_2 : decode cX3_farthestPay 2 = .ok (.iconst 0, 1) := by decide +kernel
theorem dX3_farthestPay_3 : decode cX3_farthestPay 3 = .ok (.istore_n 2, 1) := by decide +kernel
theorem dX3_farthestPay_4 : decode cX3_farthestPay 4 = .ok (.iload_n 2, 1) := by decide +kernel
theorem dX3_farthestPay_5 : decode cX3_farthestPay 5 = .ok (.aload_n 0, 1) := by decide +kernel
theorem dX3_farthestPay_6 : decode cX3_farthestPay 6 = .ok (.getfield 22, 3) := by decide +kernel
theorem dX3_farthestPay_9 : decode cX3_farthestPay 9 = .ok (.arraylength, 1) := by decide +kernel
theorem dX3_farthestPay_10 : decode cX3_farthestPay 10 = .ok (.if_icmp .ge 23, 3) := by decide +kernel
theorem dX3_farthestPay_13 : decode cX3_farthestPay 13 = .ok (.iload_n 1, 1) := by decide +kernel
theorem dX3_farthestPay_14 : decode cX3_farthestPay 14 = .ok (.aload_n 0, 1) := by decide +kernel
theorem dX3_farthestPay_15 : decode cX3_farthestPay 15 = .ok (.getfield 22, 3) := by decide +kernel
theorem dX3_farthestPay_18 : decode cX3_farthestPay 18 = .ok (.iload_n 2, 1) := by decide +kernel
theorem dX3_farthestPay_19 : decode cX3_farthestPay 19 = .ok (.iaload, 1) := by decide +kernel
theorem dX3_farthestPay_20 : decode cX3_farthestPay 20 = .ok (.invokestatic 93, 3) := by decide +kernel
theorem dX3_farthestPay_23 : decode cX3_farthestPay 23 = .ok (.invokestatic 83, 3) := by decide +kernel
theorem dX3_farthestPay_26 : decode cX3_farthestPay 26 = .ok (.istore_n 1, 1) := by decide +kernel
theorem dX3_farthestPay_27 : decode cX3_farthestPay 27 = .ok (.iinc 2 1, 3) := by decide +kernel
theorem dX3_farthestPay_30 : decode cX3_farthestPay 30 = .ok (.goto (-26), 3) := by decide +kernel
theorem dX3_farthestPay_33 : decode cX3_farthestPay 33 = .ok (.iload_n 1, 1) := by decide +kernel
theorem dX3_farthestPay_34 : decode cX3_farthestPay 34 = .ok (.ireturn, 1) := by decide +kernel
theorem dX3_addAgainst_0 : decode cX3_addAgainst 0 = .ok (.iconst 0, 1) := by decide +kernel
theorem dX3_addAgainst_1 : decode cX3_addAgainst 1 = .ok (.istore_n 3, 1) := by decide +kernel
theorem dX3_addAgainst_2 : decode cX3_addAgainst 2 = .ok (.iload_n 3, 1) := by decide +kernel
theorem dX3_addAgainst_3 : decode cX3_addAgainst 3 = .ok (.aload_n 0, 1) := by decide +kernel
theorem dX3_addAgainst_4 : decode cX3_addAgainst 4 = .ok (.getfield 9, 3) := by decide +kernel
theorem dX3_addAgainst_7 : decode cX3_addAgainst 7 = .ok (.if_icmp .ge 23, 3) := by decide +kernel
theorem dX3_addAgainst_10 : decode cX3_addAgainst 10 = .ok (.aload_n 0, 1) := by decide +kernel
theorem dX3_addAgainst_11 : decode cX3_addAgainst 11 = .ok (.iload_n 3, 1) := by decide +kernel
theorem dX3_addAgainst_12 : decode cX3_addAgainst 12 = .ok (.iload_n 1, 1) := by decide +kernel
theorem dX3_addAgainst_13 : decode cX3_addAgainst 13 = .ok (.aload_n 0, 1) := by decide +kernel
theorem dX3_addAgainst_14 : decode cX3_addAgainst 14 = .ok (.iload_n 3, 1) := by decide +kernel
theorem dX3_addAgainst_15 : decode cX3_addAgainst 15 = .ok (.iload_n 1, 1) := by decide +kernel
theorem dX3_addAgainst_16 : decode cX3_addAgainst 16 = .ok (.invokevirtual 54, 3) := by decide +kernel
theorem dX3_addAgainst_19 : decode cX3_addAgainst 19 = .ok (.iload_n 2, 1) := by decide +kernel
theorem dX3_addAgainst_20 : decode cX3_addAgainst 20 = .ok (.iadd, 1) := by decide +kernel
theorem dX3_addAgainst_21 : decode cX3_addAgainst 21 = .ok (.invokevirtual 96, 3) := by decide +kernel
theorem dX3_addAgainst_24 : decode cX3_addAgainst 24 = .ok (.iinc 3 1, 3) := by decide +kernel
theorem dX3_addAgainst_27 : decode cX3_addAgainst 27 = .ok (.goto (-25), 3) := by decide +kernel
theorem dX3_addAgainst_30 : decode cX3_addAgainst 30 = .ok (.return_, 1) := by decide +kernel
theorem dX3_multiplyPays_0 : decode cX3_multiplyPays 0 = .ok (.iconst 0, 1) := by decide +kernel
theorem dX3_multiplyPays_1 : decode cX3_multiplyPays 1 = .ok (.istore_n 2, 1) := by decide +kernel
theorem dX3_multiplyPays_2 : decode cX3_multiplyPays 2 = .ok (.iload_n 2, 1) := by decide +kernel
theorem dX3_multiplyPays_3 : decode cX3_multiplyPays 3 = .ok (.aload_n 0, 1) := by decide +kernel
theorem dX3_multiplyPays_4 : decode cX3_multiplyPays 4 = .ok (.getfield 22, 3) := by decide +kernel
theorem dX3_multiplyPays_7 : decode cX3_multiplyPays 7 = .ok (.arraylength, 1) := by decide +kernel
theorem dX3_multiplyPays_8 : decode cX3_multiplyPays 8 = .ok (.if_icmp .ge 19, 3) := by decide +kernel
theorem dX3_multiplyPays_11 : decode cX3_multiplyPays 11 = .ok (.aload_n 0, 1) := by decide +kernel
theorem dX3_multiplyPays_12 : decode cX3_multiplyPays 12 = .ok (.getfield 22, 3) := by decide +kernel
theorem dX3_multiplyPays_15 : decode cX3_multiplyPays 15 = .ok (.iload_n 2, 1) := by decide +kernel
theorem dX3_multiplyPays_16 : decode cX3_multiplyPays 16 = .ok (.dup2, 1) := by decide +kernel
theorem dX3_multiplyPays_17 : decode cX3_multiplyPays 17 = .ok (.iaload, 1) := by decide +kernel
theorem dX3_multiplyPays_18 : decode cX3_multiplyPays 18 = .ok (.iload_n 1, 1) := by decide +kernel
theorem dX3_multiplyPays_19 : decode cX3_multiplyPays 19 = .ok (.imul, 1) := by decide +kernel
theorem dX3_multiplyPays_20 : decode cX3_multiplyPays 20 = .ok (.iastore, 1) := by decide +kernel
theorem dX3_multiplyPays_21 : decode cX3_multiplyPays 21 = .ok (.iinc 2 1, 3) := by decide +kernel
theorem dX3_multiplyPays_24 : decode cX3_multiplyPays 24 = .ok (.goto (-22), 3) := by decide +kernel
theorem dX3_multiplyPays_27 : decode cX3_multiplyPays 27 = .ok (.return_, 1) := by decide +kernel
theorem dX3_takesFrom_0 : decode cX3_takesFrom 0 = .ok (.iconst 0, 1) := by decide +kernel
theorem dX3_takesFrom_1 : decode cX3_takesFrom 1 = .ok (.istore_n 2, 1) := by decide +kernel
theorem dX3_takesFrom_2 : decode cX3_takesFrom 2 = .ok (.iload_n 2, 1) := by decide +kernel
theorem dX3_takesFrom_3 : decode cX3_takesFrom 3 = .ok (.aload_n 0, 1) := by decide +kernel
theorem dX3_takesFrom_4 : decode cX3_takesFrom 4 = .ok (.getfield 9, 3) := by decide +kernel
theorem dX3_takesFrom_7 : decode cX3_takesFrom 7 = .ok (.if_icmp .ge 43, 3) := by decide +kernel
theorem dX3_takesFrom_10 : decode cX3_takesFrom 10 = .ok (.iconst 0, 1) := by decide +kernel
theorem dX3_takesFrom_11 : decode cX3_takesFrom 11 = .ok (.istore_n 3, 1) := by decide +kernel
theorem dX3_takesFrom_12 : decode cX3_takesFrom 12 = .ok (.iload_n 3, 1) := by decide +kernel
theorem dX3_takesFrom_13 : decode cX3_takesFrom 13 = .ok (.aload_n 1, 1) := by decide +kernel
theorem dX3_takesFrom_14 : decode cX3_takesFrom 14 = .ok (.getfield 9, 3) := by decide +kernel
theorem dX3_takesFrom_17 : decode cX3_takesFrom 17 = .ok (.if_icmp .ge 27, 3) := by decide +kernel
theorem dX3_takesFrom_20 : decode cX3_takesFrom 20 = .ok (.aload_n 0, 1) := by decide +kernel
theorem dX3_takesFrom_21 : decode cX3_takesFrom 21 = .ok (.iload_n 2, 1) := by decide +kernel
theorem dX3_takesFrom_22 : decode cX3_takesFrom 22 = .ok (.iload_n 3, 1) := by decide +kernel
theorem dX3_takesFrom_23 : decode cX3_takesFrom 23 = .ok (.invokevirtual 54, 3) := by decide +kernel
theorem dX3_takesFrom_26 : decode cX3_takesFrom 26 = .ok (.aload_n 1, 1) := by decide +kernel
theorem dX3_takesFrom_27 : decode cX3_takesFrom 27 = .ok (.iload_n 3, 1) := by decide +kernel
theorem dX3_takesFrom_28 : decode cX3_takesFrom 28 = .ok (.iload_n 2, 1) := by decide +kernel
theorem dX3_takesFrom_29 : decode cX3_takesFrom 29 = .ok (.invokevirtual 54, 3) := by decide +kernel
theorem dX3_takesFrom_32 : decode cX3_takesFrom 32 = .ok (.iadd, 1) := by decide +kernel
theorem dX3_takesFrom_33 : decode cX3_takesFrom 33 = .ok (.ifCond .eq 5, 3) := by decide +kernel
theorem dX3_takesFrom_36 : decode cX3_takesFrom 36 = .ok (.iconst 0, 1) := by decide +kernel
theorem dX3_takesFrom_37 : decode cX3_takesFrom 37 = .ok (.ireturn, 1) := by decide +kernel
theorem dX3_takesFrom_38 : decode cX3_takesFrom 38 = .ok (.iinc 3 1, 3) := by decide +kernel
theorem dX3_takesFrom_41 : decode cX3_takesFrom 41 = .ok (.goto (-29), 3) := by decide +kernel
theorem dX3_takesFrom_44 : decode cX3_takesFrom 44 = .ok (.iinc 2 1, 3) := by decide +kernel
theorem dX3_takesFrom_47 : decode cX3_takesFrom 47 = .ok (.goto (-45), 3) := by decide +kernel
theorem dX3_takesFrom_50 : decode cX3_takesFrom 50 = .ok (.iconst 1, 1) := by decide +kernel
theorem dX3_takesFrom_51 : decode cX3_takesFrom 51 = .ok (.ireturn, 1) := by decide +kernel
theorem dX3_isLike_0 : decode cX3_isLike 0 = .ok (.aload_n 0, 1) := by decide +kernel
theorem dX3_isLike_1 : decode cX3_isLike 1 = .ok (.getfield 9, 3) := by decide +kernel
theorem dX3_isLike_4 : decode cX3_isLike 4 = .ok (.aload_n 1, 1) := by decide +kernel
theorem dX3_isLike_5 : decode cX3_isLike 5 = .ok (.getfield 9, 3) := by decide +kernel
theorem dX3_isLike_8 : decode cX3_isLike 8 = .ok (.if_icmp .eq 5, 3) := by decide +kernel
theorem dX3_isLike_11 : decode cX3_isLike 11 = .ok (.iconst 0, 1) := by decide +kernel
theorem dX3_isLike_12 : decode cX3_isLike 12 = .ok (.ireturn, 1) := by decide +kernel
theorem dX3_isLike_13 : decode cX3_isLike 13 = .ok (.iconst 0, 1) := by decide +kernel
theorem dX3_isLike_14 : decode cX3_isLike 14 = .ok (.istore_n 2, 1) := by decide +kernel
theorem dX3_isLike_15 : decode cX3_isLike 15 = .ok (.iload_n 2, 1) := by decide +kernel
theorem dX3_isLike_16 : decode cX3_isLike 16 = .ok (.aload_n 0, 1) := by decide +kernel
theorem dX3_isLike_17 : decode cX3_isLike 17 = .ok (.getfield 22, 3) := by decide +kernel
theorem dX3_isLike_20 : decode cX3_isLike 20 = .ok (.arraylength, 1) := by decide +kernel
theorem dX3_isLike_21 : decode cX3_isLike 21 = .ok (.if_icmp .ge 26, 3) := by decide +kernel
theorem dX3_isLike_24 : decode cX3_isLike 24 = .ok (.aload_n 0, 1) := by decide +kernel
theorem dX3_isLike_25 : decode cX3_isLike 25 = .ok (.getfield 22, 3) := by decide +kernel
theorem dX3_isLike_28 : decode cX3_isLike 28 = .ok (.iload_n 2, 1) := by decide +kernel
theorem dX3_isLike_29 : decode cX3_isLike 29 = .ok (.iaload, 1) := by decide +kernel
theorem dX3_isLike_30 : decode cX3_isLike 30 = .ok (.aload_n 1, 1) := by decide +kernel
theorem dX3_isLike_31 : decode cX3_isLike 31 = .ok (.getfield 22, 3) := by decide +kernel
theorem dX3_isLike_34 : decode cX3_isLike 34 = .ok (.iload_n 2, 1) := by decide +kernel
theorem dX3_isLike_35 : decode cX3_isLike 35 = .ok (.iaload, 1) := by decide +kernel
theorem dX3_isLike_36 : decode cX3_isLike 36 = .ok (.if_icmp .eq 5, 3) := by decide +kernel
theorem dX3_isLike_39 : decode cX3_isLike 39 = .ok (.iconst 0, 1) := by decide +kernel
theorem dX3_isLike_40 : decode cX3_isLike 40 = .ok (.ireturn, 1) := by decide +kernel
theorem dX3_isLike_41 : decode cX3_isLike 41 = .ok (.iinc 2 1, 3) := by decide +kernel
theorem dX3_isLike_44 : decode cX3_isLike 44 = .ok (.goto (-29), 3) := by decide +kernel
theorem dX3_isLike_47 : decode cX3_isLike 47 = .ok (.iconst 1, 1) := by decide +kernel
theorem dX3_isLike_48 : decode cX3_isLike 48 = .ok (.ireturn, 1) := by decide +kernel
theorem dX4_init_0 : decode cX4_init 0 = .ok (.aload_n 0, 1) := by decide +kernel
theorem dX4_init_1 : decode cX4_init 1 = .ok (.invokespecial 1, 3) := by decide +kernel
theorem dX4_init_4 : decode cX4_init 4 = .ok (.aload_n 0, 1) := by decide +kernel
theorem dX4_init_5 : decode cX4_init 5 = .ok (.new 7, 3) := by decide +kernel
theorem dX4_init_8 : decode cX4_init 8 = .ok (.dup, 1) := by decide +kernel
theorem dX4_init_9 : decode cX4_init 9 = .ok (.invokespecial 9, 3) := by decide +kernel
theorem dX4_init_12 : decode cX4_init 12 = .ok (.putfield 10, 3) := by decide +kernel
theorem dX4_init_15 : decode cX4_init 15 = .ok (.aload_n 0, 1) := by decide +kernel
theorem dX4_init_16 : decode cX4_init 16 = .ok (.new 7, 3) := by decide +kernel
theorem dX4_init_19 : decode cX4_init 19 = .ok (.dup, 1) := by decide +kernel
theorem dX4_init_20 : decode cX4_init 20 = .ok (.invokespecial 9, 3) := by decide +kernel
theorem dX4_init_23 : decode cX4_init 23 = .ok (.putfield 16, 3) := by decide +kernel
theorem dX4_init_26 : decode cX4_init 26 = .ok (.aload_n 0, 1) := by decide +kernel
theorem dX4_init_27 : decode cX4_init 27 = .ok (.new 19, 3) := by decide +kernel
theorem dX4_init_30 : decode cX4_init 30 = .ok (.dup, 1) := by decide +kernel
theorem dX4_init_31 : decode cX4_init 31 = .ok (.invokespecial 21, 3) := by decide +kernel
theorem dX4_init_34 : decode cX4_init 34 = .ok (.putfield 22, 3) := by decide +kernel
theorem dX4_init_37 : decode cX4_init 37 = .ok (.aload_n 0, 1) := by decide +kernel
theorem dX4_init_38 : decode cX4_init 38 = .ok (.bipush 7, 2) := by decide +kernel
theorem dX4_init_40 : decode cX4_init 40 = .ok (.newarray .int, 2) := by decide +kernel
theorem dX4_init_42 : decode cX4_init 42 = .ok (.putfield 26, 3) := by decide +kernel
theorem dX4_init_45 : decode cX4_init 45 = .ok (.aload_n 0, 1) := by decide +kernel
theorem dX4_init_46 : decode cX4_init 46 = .ok (.iconst 0, 1) := by decide +kernel
theorem dX4_init_47 : decode cX4_init 47 = .ok (.putfield 30, 3) := by decide +kernel
theorem dX4_init_50 : decode cX4_init 50 = .ok (.return_, 1) := by decide +kernel
theorem dX4_game_0 : decode cX4_game 0 = .ok (.iload_n 1, 1) := by decide +kernel
theorem dX4_game_1 : decode cX4_game 1 = .ok (.iconst 1, 1) := by decide +kernel
theorem dX4_game_2 : decode cX4_game 2 = .ok (.if_icmp .lt 8, 3) := by decide +kernel
theorem dX4_game_5 : decode cX4_game 5 = .ok (.iload_n 2, 1) := by decide +kernel
theorem dX4_game_6 : decode cX4_game 6 = .ok (.iconst 1, 1) := by decide +kernel
theorem dX4_game_7 : decode cX4_game 7 = .ok (.if_icmp .ge 10, 3) := by decide +kernel
theorem dX4_game_10 : decode cX4_game 10 = .ok (.aload_n 0, 1) := by decide +kernel
theorem dX4_game_11 : decode cX4_game 11 = .ok (.bipush (-4), 2) := by decide +kernel
theorem dX4_game_13 : decode cX4_game 13 = .ok (.invokevirtual 34, 3) := by decide +kernel
theorem dX4_game_16 : decode cX4_game 16 = .ok (.ireturn, 1) := by decide +kernel
theorem dX4_game_17 : decode cX4_game 17 = .ok (.iload_n 1, 1) := by decide +kernel
theorem dX4_game_18 : decode cX4_game 18 = .ok (.iconst 4, 1) := by decide +kernel
theorem dX4_game_19 : decode cX4_game 19 = .ok (.if_icmp .gt 8, 3) := by decide +kernel
theorem dX4_game_22 : decode cX4_game 22 = .ok (.iload_n 2, 1) := by decide +kernel
theorem dX4_game_23 : decode cX4_game 23 = .ok (.iconst 4, 1) := by decide +kernel
theorem dX4_game_24 : decode cX4_game 24 = .ok (.if_icmp .le 10, 3) := by decide +kernel
theorem dX4_game_27 : decode cX4_game 27 = .ok (.aload_n 0, 1) := by decide +kernel
theorem dX4_game_28 : decode cX4_game 28 = .ok (.bipush (-6), 2) := by decide +kernel
theorem dX4_game_30 : decode cX4_game 30 = .ok (.invokevirtual 34, 3) := by decide +kernel
theorem dX4_game_33 : decode cX4_game 33 = .ok (.ireturn, 1) := by decide +kernel
theorem dX4_game_34 : decode cX4_game 34 = .ok (.aload_n 0, 1) := by decide +kernel
theorem dX4_game_35 : decode cX4_game 35 = .ok (.getfield 10, 3) := by decide +kernel
theorem dX4_game_38 : decode cX4_game 38 = .ok (.iload_n 1, 1) := by decide +kernel
theorem dX4_game_39 : decode cX4_game 39 = .ok (.invokevirtual 38, 3) := by decide +kernel
theorem dX4_game_42 : decode cX4_game 42 = .ok (.aload_n 0, 1) := by decide +kernel
theorem dX4_game_43 : decode cX4_game 43 = .ok (.getfield 16, 3) := by decide +kernel
theorem dX4_game_46 : decode cX4_game 46 = .ok (.iload_n 2, 1) := by decide +kernel
theorem dX4_game_47 : decode cX4_game 47 = .ok (.invokevirtual 38, 3) := by decide +kernel
theorem dX4_game_50 : decode cX4_game 50 = .ok (.aload_n 0, 1) := by decide +kernel
theorem dX4_game_51 : decode cX4_game 51 = .ok (.iconst 0, 1) := by decide +kernel
theorem dX4_game_52 : decode cX4_game 52 = .ok (.putfield 30, 3) := by decide +kernel
theorem dX4_game_55 : decode cX4_game 55 = .ok (.iconst 1, 1) := by decide +kernel
theorem dX4_game_56 : decode cX4_game 56 = .ok (.ireturn, 1) := by decide +kernel
theorem dX4_pay_0 : decode cX4_pay 0 = .ok (.aload_n 0, 1) := by decide +kernel
theorem dX4_pay_1 : decode cX4_pay 1 = .ok (.iload_n 1, 1) := by decide +kernel
theorem dX4_pay_2 : decode cX4_pay 2 = .ok (.iload_n 2, 1) := by decide +kernel
theorem dX4_pay_3 : decode cX4_pay 3 = .ok (.iload_n 3, 1) := by decide +kernel
theorem dX4_pay_4 : decode cX4_pay 4 = .ok (.invokevirtual 42, 3) := by decide +kernel
theorem dX4_pay_7 : decode cX4_pay 7 = .ok (.ifCond .ne 9, 3) := by decide +kernel
theorem dX4_pay_10 : decode cX4_pay 10 = .ok (.aload_n 0, 1) := by decide +kernel
theorem dX4_pay_11 : decode cX4_pay 11 = .ok (.iconst (-1), 1) := by decide +kernel
theorem dX4_pay_12 : decode cX4_pay 12 = .ok (.invokevirtual 46, 3) := by decide +kernel
theorem dX4_pay_15 : decode cX4_pay 15 = .ok (.ireturn, 1) := by decide +kernel
theorem dX4_pay_16 : decode cX4_pay 16 = .ok (.iload 4, 2) := by decide +kernel
theorem dX4_pay_18 : decode cX4_pay 18 = .ok (.bipush (-20), 2) := by decide +kernel
theorem dX4_pay_20 : decode cX4_pay 20 = .ok (.if_icmp .ge 10, 3) := by decide +kernel
theorem dX4_pay_23 : decode cX4_pay 23 = .ok (.aload_n 0, 1) := by decide +kernel
theorem dX4_pay_24 : decode cX4_pay 24 = .ok (.bipush (-4), 2) := by decide +kernel
theorem dX4_pay_26 : decode cX4_pay 26 = .ok (.invokevirtual 46, 3) := by decide +kernel
theorem dX4_pay_29 : decode cX4_pay 29 = .ok (.ireturn, 1) := by decide +kernel
theorem dX4_pay_30 : decode cX4_pay 30 = .ok (.iload 4, 2) := by decide +kernel
theorem dX4_pay_32 : decode cX4_pay 32 = .ok (.bipush 20, 2) := by decide +kernel
theorem dX4_pay_34 : decode cX4_pay 34 = .ok (.if_icmp .le 10, 3) := by decide +kernel
theorem dX4_pay_37 : decode cX4_pay 37 = .ok (.aload_n 0, 1) := by decide +kernel
theorem dX4_pay_38 : decode cX4_pay 38 = .ok (.bipush (-6), 2) := by decide +kernel
theorem dX4_pay_40 : decode cX4_pay 40 = .ok (.invokevirtual 46, 3) := by decide +kernel
theorem dX4_pay_43 : decode cX4_pay 43 = .ok (.ireturn, 1) := by decide +kernel
theorem dX4_pay_44 : decode cX4_pay 44 = .ok (.iload_n 1, 1) := by decide +kernel
theorem dX4_pay_45 : decode cX4_pay 45 = .ok (.ifCond .ne 7, 3) := by decide +kernel
theorem dX4_pay_48 : decode cX4_pay 48 = .ok (.iload_n 2, 1) := by decide +kernel
theorem dX4_pay_49 : decode cX4_pay 49 = .ok (.goto 4, 3) := by decide +kernel
theorem dX4_pay_52 : decode cX4_pay 52 = .ok (.iload_n 3, 1) := by decide +kernel
theorem dX4_pay_53 : decode cX4_pay 53 = .ok (.istore 5, 2) := by decide +kernel
theorem dX4_pay_55 : decode cX4_pay 55 = .ok (.iload_n 1, 1) := by decide +kernel
theorem dX4_pay_56 : decode cX4_pay 56 = .ok (.ifCond .ne 7, 3) := by decide +kernel
theorem dX4_pay_59 : decode cX4_pay 59 = .ok (.iload_n 3, 1) := by decide +kernel
theorem dX4_pay_60 : decode cX4_pay 60 = .ok (.goto 4, 3) := by decide +kernel
theorem dX4_pay_63 : decode cX4_pay 63 = .ok (.iload_n 2, 1) := by decide +kernel
theorem dX4_pay_64 : decode cX4_pay 64 = .ok (.istore 6, 2) := by decide +kernel
theorem dX4_pay_66 : decode cX4_pay 66 = .ok (.aload_n 0, 1) := by decide +kernel
theorem dX4_pay_67 : decode cX4_pay 67 = .ok (.iload_n 1, 1) := by decide +kernel
theorem dX4_pay_68 : decode cX4_pay 68 = .ok (.invokevirtual 49, 3) := by decide +kernel
theorem dX4_pay_71 : decode cX4_pay 71 = .ok (.iload 5, 2) := by decide +kernel
theorem dX4_pay_73 : decode cX4_pay 73 = .ok (.iload 6, 2) := by decide +kernel
theorem dX4_pay_75 : decode cX4_pay 75 = .ok (.invokevirtual 53, 3) := by decide +kernel
theorem dX4_pay_78 : decode cX4_pay 78 = .ok (.istore 7, 2) := by decide +kernel
theorem dX4_pay_80 : decode cX4_pay 80 = .ok (.aload_n 0, 1) := by decide +kernel
theorem dX4_pay_81 : decode cX4_pay 81 = .ok (.iload_n 1, 1) := by decide +kernel
theorem dX4_pay_82 : decode cX4_pay 82 = .ok (.invokevirtual 49, 3) := by decide +kernel
theorem dX4_pay_85 : decode cX4_pay 85 = .ok (.iload 5, 2) := by decide +kernel
theorem dX4_pay_87 : decode cX4_pay 87 = .ok (.iload 6, 2) := by decide +kernel
theorem dX4_pay_89 : decode cX4_pay 89 = .ok (.iload 4, 2) := by decide +kernel
theorem dX4_pay_91 : decode cX4_pay 91 = .ok (.invokevirtual 57, 3) := by decide +kernel
theorem dX4_pay_94 : decode cX4_pay 94 = .ok (.aload_n 0, 1) := by decide +kernel
theorem dX4_pay_95 : decode cX4_pay 95 = .ok (.iconst 0, 1) := by decide +kernel
theorem dX4_pay_96 : decode cX4_pay 96 = .ok (.putfield 30, 3) := by decide +kernel
theorem dX4_pay_99 : decode cX4_pay 99 = .ok (.iload 7, 2) := by decide +kernel
theorem dX4_pay_101 : decode cX4_pay 101 = .ok (.ireturn, 1) := by decide +kernel
theorem dX4_paid_0 : decode cX4_paid 0 = .ok (.aload_n 0, 1) := by decide +kernel
theorem dX4_paid_1 : decode cX4_paid 1 = .ok (.iload_n 1, 1) := by decide +kernel
theorem dX4_paid_2 : decode cX4_paid 2 = .ok (.iload_n 2, 1) := by decide +kernel
theorem dX4_paid_3 : decode cX4_paid 3 = .ok (.iload_n 3, 1) := by decide +kernel
theorem dX4_paid_4 : decode cX4_paid 4 = .ok (.invokevirtual 42, 3) := by decide +kernel
theorem dX4_paid_7 : decode cX4_paid 7 = .ok (.ifCond .ne 9, 3) := by decide +kernel
theorem dX4_paid_10 : decode cX4_paid 10 = .ok (.aload_n 0, 1) := by decide +kernel
theorem dX4_paid_11 : decode cX4_paid 11 = .ok (.iconst (-1), 1) := by decide +kernel
theorem dX4_paid_12 : decode cX4_paid 12 = .ok (.invokevirtual 46, 3) := by decide +kernel
theorem dX4_paid_15 : decode cX4_paid 15 = .ok (.ireturn, 1) := by decide +kernel
theorem dX4_paid_16 : decode cX4_paid 16 = .ok (.iload_n 1, 1) := by decide +kernel
theorem dX4_paid_17 : decode cX4_paid 17 = .ok (.ifCond .ne 15, 3) := by decide +kernel
theorem dX4_paid_20 : decode cX4_paid 20 = .ok (.aload_n 0, 1) := by decide +kernel
theorem dX4_paid_21 : decode cX4_paid 21 = .ok (.getfield 10, 3) := by decide +kernel
theorem dX4_paid_24 : decode cX4_paid 24 = .ok (.iload_n 2, 1) := by decide +kernel
theorem dX4_paid_25 : decode cX4_paid 25 = .ok (.iload_n 3, 1) := by decide +kernel
theorem dX4_paid_26 : decode cX4_paid 26 = .ok (.invokevirtual 53, 3) := by decide +kernel
theorem dX4_paid_29 : decode cX4_paid 29 = .ok (.goto 12, 3) := by decide +kernel
theorem dX4_paid_32 : decode cX4_paid 32 = .ok (.aload_n 0, 1) := by decide +kernel
theorem dX4_paid_33 : decode cX4_paid 33 = .ok (.getfield 16, 3) := by decide +kernel
theorem dX4_paid_36 : decode cX4_paid 36 = .ok (.iload_n 3, 1) := by decide +kernel
theorem dX4_paid_37 : decode cX4_paid 37 = .ok (.iload_n 2, 1) := by decide +kernel
theorem dX4_paid_38 : decode cX4_paid 38 = .ok (.invokevirtual 53, 3) := by decide +kernel
theorem dX4_paid_41 : decode cX4_paid 41 = .ok (.ireturn, 1) := by decide +kernel
theorem dX4_weight_0 : decode cX4_weight 0 = .ok (.iload_n 1, 1) := by decide +kernel
theorem dX4_weight_1 : decode cX4_weight 1 = .ok (.invokestatic 61, 3) := by decide +kernel
theorem dX4_weight_4 : decode cX4_weight 4 = .ok (.ifCond .eq 12, 3) := by decide +kernel
theorem dX4_weight_7 : decode cX4_weight 7 = .ok (.iload_n 2, 1) := by decide +kernel
theorem dX4_weight_8 : decode cX4_weight 8 = .ok (.ifCond .lt 8, 3) := by decide +kernel
theorem dX4_weight_11 : decode cX4_weight 11 = .ok (.iload_n 2, 1) := by decide +kernel
theorem dX4_weight_12 : decode cX4_weight 12 = .ok (.iconst 4, 1) := by decide +kernel
theorem dX4_weight_13 : decode cX4_weight 13 = .ok (.if_icmp .lt 9, 3) := by decide +kernel
theorem dX4_weight_16 : decode cX4_weight 16 = .ok (.aload_n 0, 1) := by decide +kernel
theorem dX4_weight_17 : decode cX4_weight 17 = .ok (.iconst (-1), 1) := by decide +kernel
theorem dX4_weight_18 : decode cX4_weight 18 = .ok (.invokevirtual 34, 3) := by decide +kernel
theorem dX4_weight_21 : decode cX4_weight 21 = .ok (.ireturn, 1) := by decide +kernel
theorem dX4_weight_22 : decode cX4_weight 22 = .ok (.iload_n 3, 1) := by decide +kernel
theorem dX4_weight_23 : decode cX4_weight 23 = .ok (.ifCond .ge 10, 3) := by decide +kernel
theorem dX4_weight_26 : decode cX4_weight 26 = .ok (.aload_n 0, 1) := by decide +kernel
theorem dX4_weight_27 : decode cX4_weight 27 = .ok (.bipush (-4), 2) := by decide +kernel
theorem dX4_weight_29 : decode cX4_weight 29 = .ok (.invokevirtual 34, 3) := by decide +kernel
theorem dX4_weight_32 : decode cX4_weight 32 = .ok (.ireturn, 1) := by decide +kernel
theorem dX4_weight_33 : decode cX4_weight 33 = .ok (.iload_n 3, 1) := by decide +kernel
theorem dX4_weight_34 : decode cX4_weight 34 = .ok (.bipush 99, 2) := by decide +kernel
theorem dX4_weight_36 : decode cX4_weight 36 = .ok (.if_icmp .le 10, 3) := by decide +kernel
theorem dX4_weight_39 : decode cX4_weight 39 = .ok (.aload_n 0, 1) := by decide +kernel
theorem dX4_weight_40 : decode cX4_weight 40 = .ok (.bipush (-6), 2) := by decide +kernel
theorem dX4_weight_42 : decode cX4_weight 42 = .ok (.invokevirtual 34, 3) := by decide +kernel
theorem dX4_weight_45 : decode cX4_weight 45 = .ok (.ireturn, 1) := by decide +kernel
theorem dX4_weight_46 : decode cX4_weight 46 = .ok (.aload_n 0, 1) := by decide +kernel
theorem dX4_weight_47 : decode cX4_weight 47 = .ok (.iload_n 1, 1) := by decide +kernel
theorem dX4_weight_48 : decode cX4_weight 48 = .ok (.invokevirtual 49, 3) := by decide +kernel
theorem dX4_weight_51 : decode cX4_weight 51 = .ok (.iload_n 2, 1) := by decide +kernel
theorem dX4_weight_52 : decode cX4_weight 52 = .ok (.iload_n 3, 1) := by decide +kernel
theorem dX4_weight_53 : decode cX4_weight 53 = .ok (.invokevirtual 65, 3) := by decide +kernel
theorem dX4_weight_56 : decode cX4_weight 56 = .ok (.ireturn, 1) := by decide +kernel
theorem dX4_mean_0 : decode cX4_mean 0 = .ok (.iload_n 1, 1) := by decide +kernel
theorem dX4_mean_1 : decode cX4_mean 1 = .ok (.invokestatic 61, 3) := by decide +kernel
theorem dX4_mean_4 : decode cX4_mean 4 = .ok (.ifCond .ne 9, 3) := by decide +kernel
theorem dX4_mean_7 : decode cX4_mean 7 = .ok (.aload_n 0, 1) := by decide +kernel
theorem dX4_mean_8 : decode cX4_mean 8 = .ok (.iconst (-1), 1) := by decide +kernel
theorem dX4_mean_9 : decode cX4_mean 9 = .ok (.invokevirtual 68, 3) := by decide +kernel
theorem dX4_mean_12 : decode cX4_mean 12 = .ok (.lreturn, 1) := by decide +kernel
theorem dX4_mean_13 : decode cX4_mean 13 = .ok (.iload_n 2, 1) := by decide +kernel
theorem dX4_mean_14 : decode cX4_mean 14 = .ok (.ifCond .lt 8, 3) := by decide +kernel
theorem dX4_mean_17 : decode cX4_mean 17 = .ok (.iload_n 2, 1) := by decide +kernel
theorem dX4_mean_18 : decode cX4_mean 18 = .ok (.iconst 1, 1) := by decide +kernel
theorem dX4_mean_19 : decode cX4_mean 19 = .ok (.if_icmp .le 10, 3) := by decide +kernel
theorem dX4_mean_22 : decode cX4_mean 22 = .ok (.aload_n 0, 1) := by decide +kernel
theorem dX4_mean_23 : decode cX4_mean 23 = .ok (.bipush (-2), 2) := by decide +kernel
theorem dX4_mean_25 : decode cX4_mean 25 = .ok (.invokevirtual 68, 3) := by decide +kernel
theorem dX4_mean_28 : decode cX4_mean 28 = .ok (.lreturn, 1) := by decide +kernel
theorem dX4_mean_29 : decode cX4_mean 29 = .ok (.aload_n 0, 1) := by decide +kernel
theorem dX4_mean_30 : decode cX4_mean 30 = .ok (.iload_n 1, 1) := by decide +kernel
theorem dX4_mean_31 : decode cX4_mean 31 = .ok (.invokevirtual 72, 3) := by decide +kernel
theorem dX4_mean_34 : decode cX4_mean 34 = .ok (.astore_n 3, 1) := by decide +kernel
theorem dX4_mean_35 : decode cX4_mean 35 = .ok (.aload_n 0, 1) := by decide +kernel
theorem dX4_mean_36 : decode cX4_mean 36 = .ok (.iconst 1, 1) := by decide +kernel
theorem dX4_mean_37 : decode cX4_mean 37 = .ok (.iload_n 1, 1) := by decide +kernel
theorem dX4_mean_38 : decode cX4_mean 38 = .ok (.isub, 1) := by decide +kernel
theorem dX4_mean_39 : decode cX4_mean 39 = .ok (.invokevirtual 72, 3) := by decide +kernel
theorem dX4_mean_42 : decode cX4_mean 42 = .ok (.astore 4, 2) := by decide +kernel
theorem dX4_mean_44 : decode cX4_mean 44 = .ok (.aload_n 3, 1) := by decide +kernel
theorem dX4_mean_45 : decode cX4_mean 45 = .ok (.ifnull 8, 3) := by decide +kernel
theorem dX4_mean_48 : decode cX4_mean 48 = .ok (.aload 4, 2) := by decide +kernel
theorem dX4_mean_50 : decode cX4_mean 50 = .ok (.ifnonnull 10, 3) := by decide +kernel
theorem dX4_mean_53 : decode cX4_mean 53 = .ok (.aload_n 0, 1) := by decide +kernel
theorem dX4_mean_54 : decode cX4_mean 54 = .ok (.bipush (-5), 2) := by decide +kernel
theorem dX4_mean_56 : decode cX4_mean 56 = .ok (.invokevirtual 68, 3) := by decide +kernel
theorem dX4_mean_59 : decode cX4_mean 59 = .ok (.lreturn, 1) := by decide +kernel
theorem dX4_mean_60 : decode cX4_mean 60 = .ok (.aload_n 0, 1) := by decide +kernel
theorem dX4_mean_61 : decode cX4_mean 61 = .ok (.iload_n 1, 1) := by decide +kernel
theorem dX4_mean_62 : decode cX4_mean 62 = .ok (.invokevirtual 49, 3) := by decide +kernel
theorem dX4_mean_65 : decode cX4_mean 65 = .ok (.aload_n 3, 1) := by decide +kernel
theorem dX4_mean_66 : decode cX4_mean 66 = .ok (.aload 4, 2) := by decide +kernel
theorem dX4_mean_68 : decode cX4_mean 68 = .ok (.iload_n 2, 1) := by decide +kernel
theorem dX4_mean_69 : decode cX4_mean 69 = .ok (.invokevirtual 76, 3) := by decide +kernel
theorem dX4_mean_72 : decode cX4_mean 72 = .ok (.lreturn, 1) := by decide +kernel
theorem dX4_answers_0 : decode cX4_answers 0 = .ok (.iload_n 1, 1) := by decide +kernel
theorem dX4_answers_1 : decode cX4_answers 1 = .ok (.invokestatic 61, 3) := by decide +kernel
theorem dX4_answers_4 : decode cX4_answers 4 = .ok (.ifCond .ne 9, 3) := by decide +kernel
theorem dX4_answers_7 : decode cX4_answers 7 = .ok (.aload_n 0, 1) := by decide +kernel
theorem dX4_answers_8 : decode cX4_answers 8 = .ok (.iconst (-1), 1) := by decide +kernel
theorem dX4_answers_9 : decode cX4_answers 9 = .ok (.invokevirtual 34, 3) := by decide +kernel
theorem dX4_answers_12 : decode cX4_answers 12 = .ok (.ireturn, 1) := by decide +kernel
theorem dX4_answers_13 : decode cX4_answers 13 = .ok (.aload_n 0, 1) := by decide +kernel
theorem dX4_answers_14 : decode cX4_answers 14 = .ok (.iconst 1, 1) := by decide +kernel
theorem dX4_answers_15 : decode cX4_answers 15 = .ok (.iload_n 1, 1) := by decide +kernel
theorem dX4_answers_16 : decode cX4_answers 16 = .ok (.isub, 1) := by decide +kernel
theorem dX4_answers_17 : decode cX4_answers 17 = .ok (.invokevirtual 72, 3) := by decide +kernel
theorem dX4_answers_20 : decode cX4_answers 20 = .ok (.astore_n 2, 1) := by decide +kernel
theorem dX4_answers_21 : decode cX4_answers 21 = .ok (.aload_n 2, 1) := by decide +kernel
theorem dX4_answers_22 : decode cX4_answers 22 = .ok (.ifnonnull 12, 3) := by decide +kernel
theorem dX4_answers_25 : decode cX4_answers 25 = .ok (.aload_n 0, 1) := by decide +kernel
theorem dX4_answers_26 : decode cX4_answers 26 = .ok (.bipush (-5), 2) := by decide +kernel
theorem dX4_answers_28 : decode cX4_answers 28 = .ok (.invokevirtual 34, 3) := by decide +kernel
theorem dX4_answers_31 : decode cX4_answers 31 = .ok (.goto 7, 3) := by decide +kernel
theorem dX4_answers_34 : decode cX4_answers 34 = .ok (.aload_n 2, 1) := by decide +kernel
theorem dX4_answers_35 : decode cX4_answers 35 = .ok (.getfield 80, 3) := by decide +kernel
theorem dX4_answers_38 : decode cX4_answers 38 = .ok (.ireturn, 1) := by decide +kernel
theorem dX4_is_0 : decode cX4_is 0 = .ok (.aload_n 0, 1) := by decide +kernel
theorem dX4_is_1 : decode cX4_is 1 = .ok (.iconst 0, 1) := by decide +kernel
theorem dX4_is_2 : decode cX4_is 2 = .ok (.invokevirtual 72, 3) := by decide +kernel
theorem dX4_is_5 : decode cX4_is 5 = .ok (.astore_n 1, 1) := by decide +kernel
theorem dX4_is_6 : decode cX4_is 6 = .ok (.aload_n 0, 1) := by decide +kernel
theorem dX4_is_7 : decode cX4_is 7 = .ok (.iconst 1, 1) := by decide +kernel
theorem dX4_is_8 : decode cX4_is 8 = .ok (.invokevirtual 72, 3) := by decide +kernel
theorem dX4_is_11 : decode cX4_is 11 = .ok (.astore_n 2, 1) := by decide +kernel
theorem dX4_is_12 : decode cX4_is 12 = .ok (.aload_n 1, 1) := by decide +kernel
theorem dX4_is_13 : decode cX4_is 13 = .ok (.ifnull 7, 3) := by decide +kernel
theorem dX4_is_16 : decode cX4_is 16 = .ok (.aload_n 2, 1) := by decide +kernel
theorem dX4_is_17 : decode cX4_is 17 = .ok (.ifnonnull 10, 3) := by decide +kernel
theorem dX4_is_20 : decode cX4_is 20 = .ok (.aload_n 0, 1) := by decide +kernel
theorem dX4_is_21 : decode cX4_is 21 = .ok (.bipush (-5), 2) := by decide +kernel
theorem dX4_is_23 : decode cX4_is 23 = .ok (.invokevirtual 34, 3) := by decide +kernel
theorem dX4_is_26 : decode cX4_is 26 = .ok (.ireturn, 1) := by decide +kernel
theorem dX4_is_27 : decode cX4_is 27 = .ok (.aload_n 1, 1) := by decide +kernel
theorem dX4_is_28 : decode cX4_is 28 = .ok (.aload_n 2, 1) := by decide +kernel
theorem dX4_is_29 : decode cX4_is 29 = .ok (.invokevirtual 86, 3) := by decide +kernel
theorem dX4_is_32 : decode cX4_is 32 = .ok (.ifCond .eq 7, 3) := by decide +kernel
theorem dX4_is_35 : decode cX4_is 35 = .ok (.iconst 1, 1) := by decide +kernel
theorem dX4_is_36 : decode cX4_is 36 = .ok (.goto 4, 3) := by decide +kernel
theorem dX4_is_39 : decode cX4_is 39 = .ok (.iconst 0, 1) := by decide +kernel
theorem dX4_is_40 : decode cX4_is 40 = .ok (.ireturn, 1) := by decide +kernel
theorem dX4_why_0 : decode cX4_why 0 = .ok (.aload_n 0, 1) := by decide +kernel
theorem dX4_why_1 : decode cX4_why 1 = .ok (.iconst 0, 1) := by decide +kernel
theorem dX4_why_2 : decode cX4_why 2 = .ok (.invokevirtual 72, 3) := by decide +kernel
theorem dX4_why_5 : decode cX4_why 5 = .ok (.astore_n 1, 1) := by decide +kernel
theorem dX4_why_6 : decode cX4_why 6 = .ok (.aload_n 0, 1) := by decide +kernel
theorem dX4_why_7 : decode cX4_why 7 = .ok (.iconst 1, 1) := by decide +kernel
theorem dX4_why_8 : decode cX4_why 8 = .ok (.invokevirtual 72, 3) := by decide +kernel
theorem dX4_why_11 : decode cX4_why 11 = .ok (.astore_n 2, 1) := by decide +kernel
theorem dX4_why_12 : decode cX4_why 12 = .ok (.aload_n 1, 1) := by decide +kernel
theorem dX4_why_13 : decode cX4_why 13 = .ok (.ifnull 7, 3) := by decide +kernel
theorem dX4_why_16 : decode cX4_why 16 = .ok (.aload_n 2, 1) := by decide +kernel
theorem dX4_why_17 : decode cX4_why 17 = .ok (.ifnonnull 6, 3) := by decide +kernel
theorem dX4_why_20 : decode cX4_why 20 = .ok (.bipush (-9), 2) := by decide +kernel
theorem dX4_why_22 : decode cX4_why 22 = .ok (.ireturn, 1) := by decide +kernel
theorem dX4_why_23 : decode cX4_why 23 = .ok (.aload_n 1, 1) := by decide +kernel
theorem dX4_why_24 : decode cX4_why 24 = .ok (.getfield 90, 3) := by decide +kernel
theorem dX4_why_27 : decode cX4_why 27 = .ok (.aload_n 2, 1) := by decide +kernel
theorem dX4_why_28 : decode cX4_why 28 = .ok (.getfield 80, 3) := by decide +kernel
theorem dX4_why_31 : decode cX4_why 31 = .ok (.iconst (-1), 1) := by decide +kernel
theorem dX4_why_32 : decode cX4_why 32 = .ok (.ixor, 1) := by decide +kernel
theorem dX4_why_33 : decode cX4_why 33 = .ok (.iand, 1) := by decide +kernel
theorem dX4_why_34 : decode cX4_why 34 = .ok (.invokestatic 93, 3) := by decide +kernel
theorem dX4_why_37 : decode cX4_why 37 = .ok (.istore_n 3, 1) := by decide +kernel
theorem dX4_why_38 : decode cX4_why 38 = .ok (.iload_n 3, 1) := by decide +kernel
theorem dX4_why_39 : decode cX4_why 39 = .ok (.bipush (-9), 2) := by decide +kernel
theorem dX4_why_41 : decode cX4_why 41 = .ok (.if_icmp .eq 5, 3) := by decide +kernel
theorem dX4_why_44 : decode cX4_why 44 = .ok (.iload_n 3, 1) := by decide +kernel
theorem dX4_why_45 : decode cX4_why 45 = .ok (.ireturn, 1) := by decide +kernel
theorem dX4_why_46 : decode cX4_why 46 = .ok (.aload_n 2, 1) := by decide +kernel
theorem dX4_why_47 : decode cX4_why 47 = .ok (.getfield 90, 3) := by decide +kernel
theorem dX4_why_50 : decode cX4_why 50 = .ok (.aload_n 1, 1) := by decide +kernel
theorem dX4_why_51 : decode cX4_why 51 = .ok (.getfield 80, 3) := by decide +kernel
theorem dX4_why_54 : decode cX4_why 54 = .ok (.iconst (-1), 1) := by decide +kernel
theorem dX4_why_55 : decode cX4_why 55 = .ok (.ixor, 1) := by decide +kernel
theorem dX4_why_56 : decode cX4_why 56 = .ok (.iand, 1) := by decide +kernel
theorem dX4_why_57 : decode cX4_why 57 = .ok (.invokestatic 93, 3) := by decide +kernel
theorem dX4_why_60 : decode cX4_why 60 = .ok (.istore 4, 2) := by decide +kernel
theorem dX4_why_62 : decode cX4_why 62 = .ok (.iload 4, 2) := by decide +kernel
theorem dX4_why_64 : decode cX4_why 64 = .ok (.bipush (-9), 2) := by decide +kernel
theorem dX4_why_66 : decode cX4_why 66 = .ok (.if_icmp .ne 8, 3) := by decide +kernel
theorem dX4_why_69 : decode cX4_why 69 = .ok (.bipush (-9), 2) := by decide +kernel
theorem dX4_why_71 : decode cX4_why 71 = .ok (.goto 8, 3) := by decide +kernel
theorem dX4_why_74 : decode cX4_why 74 = .ok (.bipush 10, 2) := by decide +kernel
theorem dX4_why_76 : decode cX4_why 76 = .ok (.iload 4, 2) := by decide +kernel
theorem dX4_why_78 : decode cX4_why 78 = .ok (.iadd, 1) := by decide +kernel
theorem dX4_why_79 : decode cX4_why 79 = .ok (.ireturn, 1) := by decide +kernel
theorem dX4_worse_0 : decode cX4_worse 0 = .ok (.iload_n 1, 1) := by decide +kernel
theorem dX4_worse_1 : decode cX4_worse 1 = .ok (.invokestatic 61, 3) := by decide +kernel
theorem dX4_worse_4 : decode cX4_worse 4 = .ok (.ifCond .eq 15, 3) := by decide +kernel
theorem dX4_worse_7 : decode cX4_worse 7 = .ok (.aload_n 0, 1) := by decide +kernel
theorem dX4_worse_8 : decode cX4_worse 8 = .ok (.iload_n 1, 1) := by decide +kernel
theorem dX4_worse_9 : decode cX4_worse 9 = .ok (.invokevirtual 49, 3) := by decide +kernel
theorem dX4_worse_12 : decode cX4_worse 12 = .ok (.iload_n 2, 1) := by decide +kernel
theorem dX4_worse_13 : decode cX4_worse 13 = .ok (.invokevirtual 96, 3) := by decide +kernel
theorem dX4_worse_16 : decode cX4_worse 16 = .ok (.ifCond .ne 9, 3) := by decide +kernel
theorem dX4_worse_19 : decode cX4_worse 19 = .ok (.aload_n 0, 1) := by decide +kernel
theorem dX4_worse_20 : decode cX4_worse 20 = .ok (.iconst (-1), 1) := by decide +kernel
theorem dX4_worse_21 : decode cX4_worse 21 = .ok (.invokevirtual 34, 3) := by decide +kernel
theorem dX4_worse_24 : decode cX4_worse 24 = .ok (.ireturn, 1) := by decide +kernel
theorem dX4_worse_25 : decode cX4_worse 25 = .ok (.aload_n 0, 1) := by decide +kernel
theorem dX4_worse_26 : decode cX4_worse 26 = .ok (.iload_n 1, 1) := by decide +kernel
theorem dX4_worse_27 : decode cX4_worse 27 = .ok (.invokevirtual 49, 3) := by decide +kernel
theorem dX4_worse_30 : decode cX4_worse 30 = .ok (.iload_n 2, 1) := by decide +kernel
theorem dX4_worse_31 : decode cX4_worse 31 = .ok (.aload_n 0, 1) := by decide +kernel
theorem dX4_worse_32 : decode cX4_worse 32 = .ok (.iload_n 1, 1) := by decide +kernel
theorem dX4_worse_33 : decode cX4_worse 33 = .ok (.invokevirtual 49, 3) := by decide +kernel
theorem dX4_worse_36 : decode cX4_worse 36 = .ok (.invokevirtual 99, 3) := by decide +kernel
theorem dX4_worse_39 : decode cX4_worse 39 = .ok (.aload_n 0, 1) := by decide +kernel
theorem dX4_worse_40 : decode cX4_worse 40 = .ok (.iconst 1, 1) := by decide +kernel
theorem dX4_worse_41 : decode cX4_worse 41 = .ok (.iload_n 1, 1) := by decide +kernel
theorem dX4_worse_42 : decode cX4_worse 42 = .ok (.isub, 1) := by decide +kernel
theorem dX4_worse_43 : decode cX4_worse 43 = .ok (.invokevirtual 49, 3) := by decide +kernel
theorem dX4_worse_46 : decode cX4_worse 46 = .ok (.invokevirtual 99, 3) := by decide +kernel
theorem dX4_worse_49 : decode cX4_worse 49 = .ok (.invokevirtual 103, 3) := by decide +kernel
theorem dX4_worse_52 : decode cX4_worse 52 = .ok (.ireturn, 1) := by decide +kernel
theorem dX4_left_0 : decode cX4_left 0 = .ok (.iload_n 1, 1) := by decide +kernel
theorem dX4_left_1 : decode cX4_left 1 = .ok (.invokestatic 61, 3) := by decide +kernel
theorem dX4_left_4 : decode cX4_left 4 = .ok (.ifCond .ne 9, 3) := by decide +kernel
theorem dX4_left_7 : decode cX4_left 7 = .ok (.aload_n 0, 1) := by decide +kernel
theorem dX4_left_8 : decode cX4_left 8 = .ok (.iconst (-1), 1) := by decide +kernel
theorem dX4_left_9 : decode cX4_left 9 = .ok (.invokevirtual 34, 3) := by decide +kernel
theorem dX4_left_12 : decode cX4_left 12 = .ok (.ireturn, 1) := by decide +kernel
theorem dX4_left_13 : decode cX4_left 13 = .ok (.aload_n 0, 1) := by decide +kernel
theorem dX4_left_14 : decode cX4_left 14 = .ok (.getfield 22, 3) := by decide +kernel
theorem dX4_left_17 : decode cX4_left 17 = .ok (.aload_n 0, 1) := by decide +kernel
theorem dX4_left_18 : decode cX4_left 18 = .ok (.getfield 10, 3) := by decide +kernel
theorem dX4_left_21 : decode cX4_left 21 = .ok (.aload_n 0, 1) := by decide +kernel
theorem dX4_left_22 : decode cX4_left 22 = .ok (.getfield 16, 3) := by decide +kernel
theorem dX4_left_25 : decode cX4_left 25 = .ok (.invokevirtual 107, 3) := by decide +kernel
theorem dX4_left_28 : decode cX4_left 28 = .ok (.iload_n 1, 1) := by decide +kernel
theorem dX4_left_29 : decode cX4_left 29 = .ok (.ifCond .ne 13, 3) := by decide +kernel
theorem dX4_left_32 : decode cX4_left 32 = .ok (.aload_n 0, 1) := by decide +kernel
theorem dX4_left_33 : decode cX4_left 33 = .ok (.getfield 22, 3) := by decide +kernel
theorem dX4_left_36 : decode cX4_left 36 = .ok (.getfield 111, 3) := by decide +kernel
theorem dX4_left_39 : decode cX4_left 39 = .ok (.goto 10, 3) := by decide +kernel
theorem dX4_left_42 : decode cX4_left 42 = .ok (.aload_n 0, 1) := by decide +kernel
theorem dX4_left_43 : decode cX4_left 43 = .ok (.getfield 22, 3) := by decide +kernel
theorem dX4_left_46 : decode cX4_left 46 = .ok (.getfield 114, 3) := by decide +kernel
theorem dX4_left_49 : decode cX4_left 49 = .ok (.ireturn, 1) := by decide +kernel
theorem dX4_times_0 : decode cX4_times 0 = .ok (.aload_n 0, 1) := by decide +kernel
theorem dX4_times_1 : decode cX4_times 1 = .ok (.getfield 22, 3) := by decide +kernel
theorem dX4_times_4 : decode cX4_times 4 = .ok (.aload_n 0, 1) := by decide +kernel
theorem dX4_times_5 : decode cX4_times 5 = .ok (.getfield 10, 3) := by decide +kernel
theorem dX4_times_8 : decode cX4_times 8 = .ok (.aload_n 0, 1) := by decide +kernel
theorem dX4_times_9 : decode cX4_times 9 = .ok (.getfield 16, 3) := by decide +kernel
theorem dX4_times_12 : decode cX4_times 12 = .ok (.invokevirtual 107, 3) := by decide +kernel
theorem dX4_times_15 : decode cX4_times 15 = .ok (.aload_n 0, 1) := by decide +kernel
theorem dX4_times_16 : decode cX4_times 16 = .ok (.getfield 22, 3) := by decide +kernel
theorem dX4_times_19 : decode cX4_times 19 = .ok (.getfield 117, 3) := by decide +kernel
theorem dX4_times_22 : decode cX4_times 22 = .ok (.ireturn, 1) := by decide +kernel
theorem dX4_sure_0 : decode cX4_sure 0 = .ok (.iload_n 1, 1) := by decide +kernel
theorem dX4_sure_1 : decode cX4_sure 1 = .ok (.invokestatic 61, 3) := by decide +kernel
theorem dX4_sure_4 : decode cX4_sure 4 = .ok (.ifCond .ne 9, 3) := by decide +kernel
theorem dX4_sure_7 : decode cX4_sure 7 = .ok (.aload_n 0, 1) := by decide +kernel
theorem dX4_sure_8 : decode cX4_sure 8 = .ok (.iconst (-1), 1) := by decide +kernel
theorem dX4_sure_9 : decode cX4_sure 9 = .ok (.invokevirtual 46, 3) := by decide +kernel
theorem dX4_sure_12 : decode cX4_sure 12 = .ok (.ireturn, 1) := by decide +kernel
theorem dX4_sure_13 : decode cX4_sure 13 = .ok (.aload_n 0, 1) := by decide +kernel
theorem dX4_sure_14 : decode cX4_sure 14 = .ok (.iload_n 1, 1) := by decide +kernel
theorem dX4_sure_15 : decode cX4_sure 15 = .ok (.invokevirtual 49, 3) := by decide +kernel
theorem dX4_sure_18 : decode cX4_sure 18 = .ok (.aload_n 0, 1) := by decide +kernel
theorem dX4_sure_19 : decode cX4_sure 19 = .ok (.iconst 1, 1) := by decide +kernel
theorem dX4_sure_20 : decode cX4_sure 20 = .ok (.iload_n 1, 1) := by decide +kernel
theorem dX4_sure_21 : decode cX4_sure 21 = .ok (.isub, 1) := by decide +kernel
theorem dX4_sure_22 : decode cX4_sure 22 = .ok (.invokevirtual 49, 3) := by decide +kernel
theorem dX4_sure_25 : decode cX4_sure 25 = .ok (.getfield 120, 3) := by decide +kernel
theorem dX4_sure_28 : decode cX4_sure 28 = .ok (.invokevirtual 123, 3) := by decide +kernel
theorem dX4_sure_31 : decode cX4_sure 31 = .ok (.ireturn, 1) := by decide +kernel
theorem dX4_hold_0 : decode cX4_hold 0 = .ok (.iload_n 1, 1) := by decide +kernel
theorem dX4_hold_1 : decode cX4_hold 1 = .ok (.invokestatic 61, 3) := by decide +kernel
theorem dX4_hold_4 : decode cX4_hold 4 = .ok (.ifCond .ne 9, 3) := by decide +kernel
theorem dX4_hold_7 : decode cX4_hold 7 = .ok (.aload_n 0, 1) := by decide +kernel
theorem dX4_hold_8 : decode cX4_hold 8 = .ok (.iconst (-1), 1) := by decide +kernel
theorem dX4_hold_9 : decode cX4_hold 9 = .ok (.invokevirtual 46, 3) := by decide +kernel
theorem dX4_hold_12 : decode cX4_hold 12 = .ok (.ireturn, 1) := by decide +kernel
theorem dX4_hold_13 : decode cX4_hold 13 = .ok (.aload_n 0, 1) := by decide +kernel
theorem dX4_hold_14 : decode cX4_hold 14 = .ok (.iload_n 1, 1) := by decide +kernel
theorem dX4_hold_15 : decode cX4_hold 15 = .ok (.invokevirtual 49, 3) := by decide +kernel
theorem dX4_hold_18 : decode cX4_hold 18 = .ok (.aload_n 0, 1) := by decide +kernel
theorem dX4_hold_19 : decode cX4_hold 19 = .ok (.iconst 1, 1) := by decide +kernel
theorem dX4_hold_20 : decode cX4_hold 20 = .ok (.iload_n 1, 1) := by decide +kernel
theorem dX4_hold_21 : decode cX4_hold 21 = .ok (.isub, 1) := by decide +kernel
theorem dX4_hold_22 : decode cX4_hold 22 = .ok (.invokevirtual 49, 3) := by decide +kernel
theorem dX4_hold_25 : decode cX4_hold 25 = .ok (.getfield 120, 3) := by decide +kernel
theorem dX4_hold_28 : decode cX4_hold 28 = .ok (.invokevirtual 126, 3) := by decide +kernel
theorem dX4_hold_31 : decode cX4_hold 31 = .ok (.ireturn, 1) := by decide +kernel
theorem dX4_corners_0 : decode cX4_corners 0 = .ok (.iload_n 1, 1) := by decide +kernel
theorem dX4_corners_1 : decode cX4_corners 1 = .ok (.invokestatic 61, 3) := by decide +kernel
theorem dX4_corners_4 : decode cX4_corners 4 = .ok (.ifCond .ne 9, 3) := by decide +kernel
theorem dX4_corners_7 : decode cX4_corners 7 = .ok (.aload_n 0, 1) := by decide +kernel
theorem dX4_corners_8 : decode cX4_corners 8 = .ok (.iconst (-1), 1) := by decide +kernel
theorem dX4_corners_9 : decode cX4_corners 9 = .ok (.invokevirtual 34, 3) := by decide +kernel
theorem dX4_corners_12 : decode cX4_corners 12 = .ok (.ireturn, 1) := by decide +kernel
theorem dX4_corners_13 : decode cX4_corners 13 = .ok (.aload_n 0, 1) := by decide +kernel
theorem dX4_corners_14 : decode cX4_corners 14 = .ok (.invokevirtual 129, 3) := by decide +kernel
theorem dX4_corners_17 : decode cX4_corners 17 = .ok (.aload_n 0, 1) := by decide +kernel
theorem dX4_corners_18 : decode cX4_corners 18 = .ok (.iload_n 1, 1) := by decide +kernel
theorem dX4_corners_19 : decode cX4_corners 19 = .ok (.invokevirtual 49, 3) := by decide +kernel
theorem dX4_corners_22 : decode cX4_corners 22 = .ok (.getfield 132, 3) := by decide +kernel
theorem dX4_corners_25 : decode cX4_corners 25 = .ok (.getfield 136, 3) := by decide +kernel
theorem dX4_corners_28 : decode cX4_corners 28 = .ok (.ireturn, 1) := by decide +kernel
theorem dX4_corner_0 : decode cX4_corner 0 = .ok (.iload_n 1, 1) := by decide +kernel
theorem dX4_corner_1 : decode cX4_corner 1 = .ok (.invokestatic 61, 3) := by decide +kernel
theorem dX4_corner_4 : decode cX4_corner 4 = .ok (.ifCond .eq 15, 3) := by decide +kernel
theorem dX4_corner_7 : decode cX4_corner 7 = .ok (.aload_n 0, 1) := by decide +kernel
theorem dX4_corner_8 : decode cX4_corner 8 = .ok (.iload_n 1, 1) := by decide +kernel
theorem dX4_corner_9 : decode cX4_corner 9 = .ok (.invokevirtual 49, 3) := by decide +kernel
theorem dX4_corner_12 : decode cX4_corner 12 = .ok (.iload_n 3, 1) := by decide +kernel
theorem dX4_corner_13 : decode cX4_corner 13 = .ok (.invokevirtual 96, 3) := by decide +kernel
theorem dX4_corner_16 : decode cX4_corner 16 = .ok (.ifCond .ne 9, 3) := by decide +kernel
theorem dX4_corner_19 : decode cX4_corner 19 = .ok (.aload_n 0, 1) := by decide +kernel
theorem dX4_corner_20 : decode cX4_corner 20 = .ok (.iconst (-1), 1) := by decide +kernel
theorem dX4_corner_21 : decode cX4_corner 21 = .ok (.invokevirtual 34, 3) := by decide +kernel
theorem dX4_corner_24 : decode cX4_corner 24 = .ok (.ireturn, 1) := by decide +kernel
theorem dX4_corner_25 : decode cX4_corner 25 = .ok (.aload_n 0, 1) := by decide +kernel
theorem dX4_corner_26 : decode cX4_corner 26 = .ok (.invokevirtual 129, 3) := by decide +kernel
theorem dX4_corner_29 : decode cX4_corner 29 = .ok (.aload_n 0, 1) := by decide +kernel
theorem dX4_corner_30 : decode cX4_corner 30 = .ok (.iload_n 1, 1) := by decide +kernel
theorem dX4_corner_31 : decode cX4_corner 31 = .ok (.invokevirtual 49, 3) := by decide +kernel
theorem dX4_corner_34 : decode cX4_corner 34 = .ok (.getfield 132, 3) := by decide +kernel
theorem dX4_corner_37 : decode cX4_corner 37 = .ok (.iload_n 2, 1) := by decide +kernel
theorem dX4_corner_38 : decode cX4_corner 38 = .ok (.invokevirtual 141, 3) := by decide +kernel
theorem dX4_corner_41 : decode cX4_corner 41 = .ok (.astore 5, 2) := by decide +kernel
theorem dX4_corner_43 : decode cX4_corner 43 = .ok (.aload 5, 2) := by decide +kernel
theorem dX4_corner_45 : decode cX4_corner 45 = .ok (.ifnonnull 9, 3) := by decide +kernel
theorem dX4_corner_48 : decode cX4_corner 48 = .ok (.aload_n 0, 1) := by decide +kernel
theorem dX4_corner_49 : decode cX4_corner 49 = .ok (.iconst (-1), 1) := by decide +kernel
theorem dX4_corner_50 : decode cX4_corner 50 = .ok (.invokevirtual 34, 3) := by decide +kernel
theorem dX4_corner_53 : decode cX4_corner 53 = .ok (.ireturn, 1) := by decide +kernel
theorem dX4_corner_54 : decode cX4_corner 54 = .ok (.iload 4, 2) := by decide +kernel
theorem dX4_corner_56 : decode cX4_corner 56 = .ok (.ifCond .lt 9, 3) := by decide +kernel
theorem dX4_corner_59 : decode cX4_corner 59 = .ok (.iload 4, 2) := by decide +kernel
theorem dX4_corner_61 : decode cX4_corner 61 = .ok (.iconst 2, 1) := by decide +kernel
theorem dX4_corner_62 : decode cX4_corner 62 = .ok (.if_icmp .le 10, 3) := by decide +kernel
theorem dX4_corner_65 : decode cX4_corner 65 = .ok (.aload_n 0, 1) := by decide +kernel
theorem dX4_corner_66 : decode cX4_corner 66 = .ok (.bipush (-2), 2) := by decide +kernel
theorem dX4_corner_68 : decode cX4_corner 68 = .ok (.invokevirtual 34, 3) := by decide +kernel
theorem dX4_corner_71 : decode cX4_corner 71 = .ok (.ireturn, 1) := by decide +kernel
theorem dX4_corner_72 : decode cX4_corner 72 = .ok (.iload 4, 2) := by decide +kernel
theorem dX4_corner_74 : decode cX4_corner 74 = .ok (.iconst 2, 1) := by decide +kernel
theorem dX4_corner_75 : decode cX4_corner 75 = .ok (.if_icmp .ne 11, 3) := by decide +kernel
theorem dX4_corner_78 : decode cX4_corner 78 = .ok (.aload 5, 2) := by decide +kernel
theorem dX4_corner_80 : decode cX4_corner 80 = .ok (.getfield 80, 3) := by decide +kernel
theorem dX4_corner_83 : decode cX4_corner 83 = .ok (.goto 21, 3) := by decide +kernel
theorem dX4_corner_86 : decode cX4_corner 86 = .ok (.aload 5, 2) := by decide +kernel
theorem dX4_corner_88 : decode cX4_corner 88 = .ok (.getfield 144, 3) := by decide +kernel
theorem dX4_corner_91 : decode cX4_corner 91 = .ok (.iload_n 3, 1) := by decide +kernel
theorem dX4_corner_92 : decode cX4_corner 92 = .ok (.laload, 1) := by decide +kernel
theorem dX4_corner_93 : decode cX4_corner 93 = .ok (.aload 5, 2) := by decide +kernel
theorem dX4_corner_95 : decode cX4_corner 95 = .ok (.getfield 148, 3) := by decide +kernel
theorem dX4_corner_98 : decode cX4_corner 98 = .ok (.iload 4, 2) := by decide +kernel
theorem dX4_corner_100 : decode cX4_corner 100 = .ok (.invokestatic 152, 3) := by decide +kernel
theorem dX4_corner_103 : decode cX4_corner 103 = .ok (.l2i, 1) := by decide +kernel
theorem dX4_corner_104 : decode cX4_corner 104 = .ok (.ireturn, 1) := by decide +kernel
theorem dX4_balances_0 : decode cX4_balances 0 = .ok (.aload_n 0, 1) := by decide +kernel
theorem dX4_balances_1 : decode cX4_balances 1 = .ok (.invokevirtual 129, 3) := by decide +kernel
theorem dX4_balances_4 : decode cX4_balances 4 = .ok (.aload_n 0, 1) := by decide +kernel
theorem dX4_balances_5 : decode cX4_balances 5 = .ok (.bipush 69, 2) := by decide +kernel
theorem dX4_balances_7 : decode cX4_balances 7 = .ok (.iconst 0, 1) := by decide +kernel
theorem dX4_balances_8 : decode cX4_balances 8 = .ok (.invokevirtual 156, 3) := by decide +kernel
theorem dX4_balances_11 : decode cX4_balances 11 = .ok (.ireturn, 1) := by decide +kernel
theorem dX4_balance_0 : decode cX4_balance 0 = .ok (.aload_n 0, 1) := by decide +kernel
theorem dX4_balance_1 : decode cX4_balance 1 = .ok (.invokevirtual 129, 3) := by decide +kernel
theorem dX4_balance_4 : decode cX4_balance 4 = .ok (.aload_n 0, 1) := by decide +kernel
theorem dX4_balance_5 : decode cX4_balance 5 = .ok (.iload_n 1, 1) := by decide +kernel
theorem dX4_balance_6 : decode cX4_balance 6 = .ok (.invokevirtual 159, 3) := by decide +kernel
theorem dX4_balance_9 : decode cX4_balance 9 = .ok (.istore_n 3, 1) := by decide +kernel
theorem dX4_balance_10 : decode cX4_balance 10 = .ok (.iload_n 3, 1) := by decide +kernel
theorem dX4_balance_11 : decode cX4_balance 11 = .ok (.bipush (-9), 2) := by decide +kernel
theorem dX4_balance_13 : decode cX4_balance 13 = .ok (.if_icmp .ne 9, 3) := by decide +kernel
theorem dX4_balance_16 : decode cX4_balance 16 = .ok (.aload_n 0, 1) := by decide +kernel
theorem dX4_balance_17 : decode cX4_balance 17 = .ok (.iconst (-1), 1) := by decide +kernel
theorem dX4_balance_18 : decode cX4_balance 18 = .ok (.invokevirtual 68, 3) := by decide +kernel
theorem dX4_balance_21 : decode cX4_balance 21 = .ok (.lreturn, 1) := by decide +kernel
theorem dX4_balance_22 : decode cX4_balance 22 = .ok (.aload_n 0, 1) := by decide +kernel
theorem dX4_balance_23 : decode cX4_balance 23 = .ok (.getfield 10, 3) := by decide +kernel
theorem dX4_balance_26 : decode cX4_balance 26 = .ok (.getfield 132, 3) := by decide +kernel
theorem dX4_balance_29 : decode cX4_balance 29 = .ok (.iload_n 3, 1) := by decide +kernel
theorem dX4_balance_30 : decode cX4_balance 30 = .ok (.bipush 69, 2) := by decide +kernel
theorem dX4_balance_32 : decode cX4_balance 32 = .ok (.idiv, 1) := by decide +kernel
theorem dX4_balance_33 : decode cX4_balance 33 = .ok (.invokevirtual 141, 3) := by decide +kernel
theorem dX4_balance_36 : decode cX4_balance 36 = .ok (.astore 4, 2) := by decide +kernel
theorem dX4_balance_38 : decode cX4_balance 38 = .ok (.aload_n 0, 1) := by decide +kernel
theorem dX4_balance_39 : decode cX4_balance 39 = .ok (.getfield 16, 3) := by decide +kernel
theorem dX4_balance_42 : decode cX4_balance 42 = .ok (.getfield 132, 3) := by decide +kernel
theorem dX4_balance_45 : decode cX4_balance 45 = .ok (.iload_n 3, 1) := by decide +kernel
theorem dX4_balance_46 : decode cX4_balance 46 = .ok (.bipush 69, 2) := by decide +kernel
theorem dX4_balance_48 : decode cX4_balance 48 = .ok (.irem, 1) := by decide +kernel
theorem dX4_balance_49 : decode cX4_balance 49 = .ok (.invokevirtual 141, 3) := by decide +kernel
theorem dX4_balance_52 : decode cX4_balance 52 = .ok (.astore 5, 2) := by decide +kernel
theorem dX4_balance_54 : decode cX4_balance 54 = .ok (.aload 4, 2) := by decide +kernel
theorem dX4_balance_56 : decode cX4_balance 56 = .ok (.ifnull 8, 3) := by decide +kernel
theorem dX4_balance_59 : decode cX4_balance 59 = .ok (.aload 5, 2) := by decide +kernel
theorem dX4_balance_61 : decode cX4_balance 61 = .ok (.ifnonnull 9, 3) := by decide +kernel
theorem dX4_balance_64 : decode cX4_balance 64 = .ok (.aload_n 0, 1) := by decide +kernel
theorem dX4_balance_65 : decode cX4_balance 65 = .ok (.iconst (-1), 1) := by decide +kernel
theorem dX4_balance_66 : decode cX4_balance 66 = .ok (.invokevirtual 68, 3) := by decide +kernel
theorem dX4_balance_69 : decode cX4_balance 69 = .ok (.lreturn, 1) := by decide +kernel
theorem dX4_balance_70 : decode cX4_balance 70 = .ok (.iload_n 2, 1) := by decide +kernel
theorem dX4_balance_71 : decode cX4_balance 71 = .ok (.ifCond .lt 9, 3) := by decide +kernel
theorem dX4_balance_74 : decode cX4_balance 74 = .ok (.iload_n 2, 1) := by decide +kernel
theorem dX4_balance_75 : decode cX4_balance 75 = .ok (.bipush 6, 2) := by decide +kernel
theorem dX4_balance_77 : decode cX4_balance 77 = .ok (.if_icmp .le 10, 3) := by decide +kernel
theorem dX4_balance_80 : decode cX4_balance 80 = .ok (.aload_n 0, 1) := by decide +kernel
theorem dX4_balance_81 : decode cX4_balance 81 = .ok (.bipush (-2), 2) := by decide +kernel
theorem dX4_balance_83 : decode cX4_balance 83 = .ok (.invokevirtual 68, 3) := by decide +kernel
theorem dX4_balance_86 : decode cX4_balance 86 = .ok (.lreturn, 1) := by decide +kernel
theorem dX4_balance_87 : decode cX4_balance 87 = .ok (.iload_n 2, 1) := by decide +kernel
theorem dX4_balance_88 : decode cX4_balance 88 = .ok (.tableswitch 73 0 4 #[36, 42, 48, 58, 58], 36) := by decide +kernel
theorem dX4_balance_124 : decode cX4_balance 124 = .ok (.iload_n 3, 1) := by decide +kernel
theorem dX4_balance_125 : decode cX4_balance 125 = .ok (.bipush 69, 2) := by decide +kernel
theorem dX4_balance_127 : decode cX4_balance 127 = .ok (.idiv, 1) := by decide +kernel
theorem dX4_balance_128 : decode cX4_balance 128 = .ok (.i2l, 1) := by decide +kernel
theorem dX4_balance_129 : decode cX4_balance 129 = .ok (.lreturn, 1) := by decide +kernel
theorem dX4_balance_130 : decode cX4_balance 130 = .ok (.iload_n 3, 1) := by decide +kernel
theorem dX4_balance_131 : decode cX4_balance 131 = .ok (.bipush 69, 2) := by decide +kernel
theorem dX4_balance_133 : decode cX4_balance 133 = .ok (.irem, 1) := by decide +kernel
theorem dX4_balance_134 : decode cX4_balance 134 = .ok (.i2l, 1) := by decide +kernel
theorem dX4_balance_135 : decode cX4_balance 135 = .ok (.lreturn, 1) := by decide +kernel
theorem dX4_balance_136 : decode cX4_balance 136 = .ok (.aload_n 0, 1) := by decide +kernel
theorem dX4_balance_137 : decode cX4_balance 137 = .ok (.aload 4, 2) := by decide +kernel
theorem dX4_balance_139 : decode cX4_balance 139 = .ok (.aload 5, 2) := by decide +kernel
theorem dX4_balance_141 : decode cX4_balance 141 = .ok (.invokevirtual 162, 3) := by decide +kernel
theorem dX4_balance_144 : decode cX4_balance 144 = .ok (.i2l, 1) := by decide +kernel
theorem dX4_balance_145 : decode cX4_balance 145 = .ok (.lreturn, 1) := by decide +kernel
theorem dX4_balance_146 : decode cX4_balance 146 = .ok (.aload_n 0, 1) := by decide +kernel
theorem dX4_balance_147 : decode cX4_balance 147 = .ok (.getfield 10, 3) := by decide +kernel
theorem dX4_balance_150 : decode cX4_balance 150 = .ok (.aload 4, 2) := by decide +kernel
theorem dX4_balance_152 : decode cX4_balance 152 = .ok (.aload 5, 2) := by decide +kernel
theorem dX4_balance_154 : decode cX4_balance 154 = .ok (.iload_n 2, 1) := by decide +kernel
theorem dX4_balance_155 : decode cX4_balance 155 = .ok (.iconst 3, 1) := by decide +kernel
theorem dX4_balance_156 : decode cX4_balance 156 = .ok (.isub, 1) := by decide +kernel
theorem dX4_balance_157 : decode cX4_balance 157 = .ok (.invokevirtual 76, 3) := by decide +kernel
theorem dX4_balance_160 : decode cX4_balance 160 = .ok (.lreturn, 1) := by decide +kernel
theorem dX4_balance_161 : decode cX4_balance 161 = .ok (.aload_n 0, 1) := by decide +kernel
theorem dX4_balance_162 : decode cX4_balance 162 = .ok (.getfield 16, 3) := by decide +kernel
theorem dX4_balance_165 : decode cX4_balance 165 = .ok (.aload 5, 2) := by decide +kernel
theorem dX4_balance_167 : decode cX4_balance 167 = .ok (.aload 4, 2) := by decide +kernel
theorem dX4_balance_169 : decode cX4_balance 169 = .ok (.iload_n 2, 1) := by decide +kernel
theorem dX4_balance_170 : decode cX4_balance 170 = .ok (.iconst 5, 1) := by decide +kernel
theorem dX4_balance_171 : decode cX4_balance 171 = .ok (.isub, 1) := by decide +kernel
theorem dX4_balance_172 : decode cX4_balance 172 = .ok (.invokevirtual 76, 3) := by decide +kernel
theorem dX4_balance_175 : decode cX4_balance 175 = .ok (.lreturn, 1) := by decide +kernel
theorem dX4_find_0 : decode cX4_find 0 = .ok (.aload_n 0, 1) := by decide +kernel
theorem dX4_find_1 : decode cX4_find 1 = .ok (.iconst 0, 1) := by decide +kernel
theorem dX4_find_2 : decode cX4_find 2 = .ok (.invokevirtual 72, 3) := by decide +kernel
theorem dX4_find_5 : decode cX4_find 5 = .ok (.astore_n 1, 1) := by decide +kernel
theorem dX4_find_6 : decode cX4_find 6 = .ok (.aload_n 0, 1) := by decide +kernel
theorem dX4_find_7 : decode cX4_find 7 = .ok (.iconst 1, 1) := by decide +kernel
theorem dX4_find_8 : decode cX4_find 8 = .ok (.invokevirtual 72, 3) := by decide +kernel
theorem dX4_find_11 : decode cX4_find 11 = .ok (.astore_n 2, 1) := by decide +kernel
theorem dX4_find_12 : decode cX4_find 12 = .ok (.aload_n 1, 1) := by decide +kernel
theorem dX4_find_13 : decode cX4_find 13 = .ok (.ifnull 7, 3) := by decide +kernel
theorem dX4_find_16 : decode cX4_find 16 = .ok (.aload_n 2, 1) := by decide +kernel
theorem dX4_find_17 : decode cX4_find 17 = .ok (.ifnonnull 10, 3) := by decide +kernel
theorem dX4_find_20 : decode cX4_find 20 = .ok (.aload_n 0, 1) := by decide +kernel
theorem dX4_find_21 : decode cX4_find 21 = .ok (.bipush (-5), 2) := by decide +kernel
theorem dX4_find_23 : decode cX4_find 23 = .ok (.invokevirtual 34, 3) := by decide +kernel
theorem dX4_find_26 : decode cX4_find 26 = .ok (.ireturn, 1) := by decide +kernel
theorem dX4_find_27 : decode cX4_find 27 = .ok (.aload_n 0, 1) := by decide +kernel
theorem dX4_find_28 : decode cX4_find 28 = .ok (.invokevirtual 129, 3) := by decide +kernel
theorem dX4_find_31 : decode cX4_find 31 = .ok (.aload_n 0, 1) := by decide +kernel
theorem dX4_find_32 : decode cX4_find 32 = .ok (.getfield 10, 3) := by decide +kernel
theorem dX4_find_35 : decode cX4_find 35 = .ok (.getfield 132, 3) := by decide +kernel
theorem dX4_find_38 : decode cX4_find 38 = .ok (.aload_n 1, 1) := by decide +kernel
theorem dX4_find_39 : decode cX4_find 39 = .ok (.invokevirtual 166, 3) := by decide +kernel
theorem dX4_find_42 : decode cX4_find 42 = .ok (.istore_n 3, 1) := by decide +kernel
theorem dX4_find_43 : decode cX4_find 43 = .ok (.aload_n 0, 1) := by decide +kernel
theorem dX4_find_44 : decode cX4_find 44 = .ok (.getfield 16, 3) := by decide +kernel
theorem dX4_find_47 : decode cX4_find 47 = .ok (.getfield 132, 3) := by decide +kernel
theorem dX4_find_50 : decode cX4_find 50 = .ok (.aload_n 2, 1) := by decide +kernel
theorem dX4_find_51 : decode cX4_find 51 = .ok (.invokevirtual 166, 3) := by decide +kernel
theorem dX4_find_54 : decode cX4_find 54 = .ok (.istore 4, 2) := by decide +kernel
theorem dX4_find_56 : decode cX4_find 56 = .ok (.iload_n 3, 1) := by decide +kernel
theorem dX4_find_57 : decode cX4_find 57 = .ok (.bipush (-9), 2) := by decide +kernel
theorem dX4_find_59 : decode cX4_find 59 = .ok (.if_icmp .eq 18, 3) := by decide +kernel
theorem dX4_find_62 : decode cX4_find 62 = .ok (.iload 4, 2) := by decide +kernel
theorem dX4_find_64 : decode cX4_find 64 = .ok (.bipush (-9), 2) := by decide +kernel
theorem dX4_find_66 : decode cX4_find 66 = .ok (.if_icmp .eq 11, 3) := by decide +kernel
theorem dX4_find_69 : decode cX4_find 69 = .ok (.aload_n 1, 1) := by decide +kernel
theorem dX4_find_70 : decode cX4_find 70 = .ok (.aload_n 2, 1) := by decide +kernel
theorem dX4_find_71 : decode cX4_find 71 = .ok (.invokevirtual 86, 3) := by decide +kernel
theorem dX4_find_74 : decode cX4_find 74 = .ok (.ifCond .ne 6, 3) := by decide +kernel
theorem dX4_find_77 : decode cX4_find 77 = .ok (.bipush (-9), 2) := by decide +kernel
theorem dX4_find_79 : decode cX4_find 79 = .ok (.ireturn, 1) := by decide +kernel
theorem dX4_find_80 : decode cX4_find 80 = .ok (.aload_n 0, 1) := by decide +kernel
theorem dX4_find_81 : decode cX4_find 81 = .ok (.iload_n 3, 1) := by decide +kernel
theorem dX4_find_82 : decode cX4_find 82 = .ok (.iload 4, 2) := by decide +kernel
theorem dX4_find_84 : decode cX4_find 84 = .ok (.invokevirtual 156, 3) := by decide +kernel
theorem dX4_find_87 : decode cX4_find 87 = .ok (.ireturn, 1) := by decide +kernel
theorem dX4_turn_0 : decode cX4_turn 0 = .ok (.aload_n 0, 1) := by decide +kernel
theorem dX4_turn_1 : decode cX4_turn 1 = .ok (.getfield 10, 3) := by decide +kernel
theorem dX4_turn_4 : decode cX4_turn 4 = .ok (.astore_n 1, 1) := by decide +kernel
theorem dX4_turn_5 : decode cX4_turn 5 = .ok (.aload_n 0, 1) := by decide +kernel
theorem dX4_turn_6 : decode cX4_turn 6 = .ok (.aload_n 0, 1) := by decide +kernel
theorem dX4_turn_7 : decode cX4_turn 7 = .ok (.getfield 16, 3) := by decide +kernel
theorem dX4_turn_10 : decode cX4_turn 10 = .ok (.putfield 10, 3) := by decide +kernel
theorem dX4_turn_13 : decode cX4_turn 13 = .ok (.aload_n 0, 1) := by decide +kernel
theorem dX4_turn_14 : decode cX4_turn 14 = .ok (.aload_n 1, 1) := by decide +kernel
theorem dX4_turn_15 : decode cX4_turn 15 = .ok (.putfield 16, 3) := by decide +kernel
theorem dX4_turn_18 : decode cX4_turn 18 = .ok (.iconst 1, 1) := by decide +kernel
theorem dX4_turn_19 : decode cX4_turn 19 = .ok (.ireturn, 1) := by decide +kernel
theorem dX4_raise_0 : decode cX4_raise 0 = .ok (.iload_n 1, 1) := by decide +kernel
theorem dX4_raise_1 : decode cX4_raise 1 = .ok (.invokestatic 61, 3) := by decide +kernel
theorem dX4_raise_4 : decode cX4_raise 4 = .ok (.ifCond .eq 17, 3) := by decide +kernel
theorem dX4_raise_7 : decode cX4_raise 7 = .ok (.aload_n 0, 1) := by decide +kernel
theorem dX4_raise_8 : decode cX4_raise 8 = .ok (.iconst 1, 1) := by decide +kernel
theorem dX4_raise_9 : decode cX4_raise 9 = .ok (.iload_n 1, 1) := by decide +kernel
theorem dX4_raise_10 : decode cX4_raise 10 = .ok (.isub, 1) := by decide +kernel
theorem dX4_raise_11 : decode cX4_raise 11 = .ok (.invokevirtual 49, 3) := by decide +kernel
theorem dX4_raise_14 : decode cX4_raise 14 = .ok (.iload_n 2, 1) := by decide +kernel
theorem dX4_raise_15 : decode cX4_raise 15 = .ok (.invokevirtual 96, 3) := by decide +kernel
theorem dX4_raise_18 : decode cX4_raise 18 = .ok (.ifCond .ne 9, 3) := by decide +kernel
theorem dX4_raise_21 : decode cX4_raise 21 = .ok (.aload_n 0, 1) := by decide +kernel
theorem dX4_raise_22 : decode cX4_raise 22 = .ok (.iconst (-1), 1) := by decide +kernel
theorem dX4_raise_23 : decode cX4_raise 23 = .ok (.invokevirtual 34, 3) := by decide +kernel
theorem dX4_raise_26 : decode cX4_raise 26 = .ok (.ireturn, 1) := by decide +kernel
theorem dX4_raise_27 : decode cX4_raise 27 = .ok (.aload_n 0, 1) := by decide +kernel
theorem dX4_raise_28 : decode cX4_raise 28 = .ok (.iload_n 1, 1) := by decide +kernel
theorem dX4_raise_29 : decode cX4_raise 29 = .ok (.invokevirtual 49, 3) := by decide +kernel
theorem dX4_raise_32 : decode cX4_raise 32 = .ok (.astore 4, 2) := by decide +kernel
theorem dX4_raise_34 : decode cX4_raise 34 = .ok (.aload 4, 2) := by decide +kernel
theorem dX4_raise_36 : decode cX4_raise 36 = .ok (.iload_n 2, 1) := by decide +kernel
theorem dX4_raise_37 : decode cX4_raise 37 = .ok (.invokevirtual 170, 3) := by decide +kernel
theorem dX4_raise_40 : decode cX4_raise 40 = .ok (.i2l, 1) := by decide +kernel
theorem dX4_raise_41 : decode cX4_raise 41 = .ok (.iload_n 3, 1) := by decide +kernel
theorem dX4_raise_42 : decode cX4_raise 42 = .ok (.i2l, 1) := by decide +kernel
theorem dX4_raise_43 : decode cX4_raise 43 = .ok (.ladd, 1) := by decide +kernel
theorem dX4_raise_44 : decode cX4_raise 44 = .ok (.ldc2_w 173, 3) := by decide +kernel
theorem dX4_raise_47 : decode cX4_raise 47 = .ok (.lcmp, 1) := by decide +kernel
theorem dX4_raise_48 : decode cX4_raise 48 = .ok (.ifCond .ge 10, 3) := by decide +kernel
theorem dX4_raise_51 : decode cX4_raise 51 = .ok (.aload_n 0, 1) := by decide +kernel
theorem dX4_raise_52 : decode cX4_raise 52 = .ok (.bipush (-4), 2) := by decide +kernel
theorem dX4_raise_54 : decode cX4_raise 54 = .ok (.invokevirtual 34, 3) := by decide +kernel
theorem dX4_raise_57 : decode cX4_raise 57 = .ok (.ireturn, 1) := by decide +kernel
theorem dX4_raise_58 : decode cX4_raise 58 = .ok (.aload 4, 2) := by decide +kernel
theorem dX4_raise_60 : decode cX4_raise 60 = .ok (.iload_n 2, 1) := by decide +kernel
theorem dX4_raise_61 : decode cX4_raise 61 = .ok (.invokevirtual 175, 3) := by decide +kernel
theorem dX4_raise_64 : decode cX4_raise 64 = .ok (.i2l, 1) := by decide +kernel
theorem dX4_raise_65 : decode cX4_raise 65 = .ok (.iload_n 3, 1) := by decide +kernel
theorem dX4_raise_66 : decode cX4_raise 66 = .ok (.i2l, 1) := by decide +kernel
theorem dX4_raise_67 : decode cX4_raise 67 = .ok (.ladd, 1) := by decide +kernel
theorem dX4_raise_68 : decode cX4_raise 68 = .ok (.ldc2_w 178, 3) := by decide +kernel
theorem dX4_raise_71 : decode cX4_raise 71 = .ok (.lcmp, 1) := by decide +kernel
theorem dX4_raise_72 : decode cX4_raise 72 = .ok (.ifCond .le 10, 3) := by decide +kernel
theorem dX4_raise_75 : decode cX4_raise 75 = .ok (.aload_n 0, 1) := by decide +kernel
theorem dX4_raise_76 : decode cX4_raise 76 = .ok (.bipush (-6), 2) := by decide +kernel
theorem dX4_raise_78 : decode cX4_raise 78 = .ok (.invokevirtual 34, 3) := by decide +kernel
theorem dX4_raise_81 : decode cX4_raise 81 = .ok (.ireturn, 1) := by decide +kernel
theorem dX4_raise_82 : decode cX4_raise 82 = .ok (.aload 4, 2) := by decide +kernel
theorem dX4_raise_84 : decode cX4_raise 84 = .ok (.iload_n 2, 1) := by decide +kernel
theorem dX4_raise_85 : decode cX4_raise 85 = .ok (.iload_n 3, 1) := by decide +kernel
theorem dX4_raise_86 : decode cX4_raise 86 = .ok (.invokevirtual 180, 3) := by decide +kernel
theorem dX4_raise_89 : decode cX4_raise 89 = .ok (.aload_n 0, 1) := by decide +kernel
theorem dX4_raise_90 : decode cX4_raise 90 = .ok (.iconst 0, 1) := by decide +kernel
theorem dX4_raise_91 : decode cX4_raise 91 = .ok (.putfield 30, 3) := by decide +kernel
theorem dX4_raise_94 : decode cX4_raise 94 = .ok (.iconst 1, 1) := by decide +kernel
theorem dX4_raise_95 : decode cX4_raise 95 = .ok (.ireturn, 1) := by decide +kernel
theorem dX4_scale_0 : decode cX4_scale 0 = .ok (.iload_n 1, 1) := by decide +kernel
theorem dX4_scale_1 : decode cX4_scale 1 = .ok (.invokestatic 61, 3) := by decide +kernel
theorem dX4_scale_4 : decode cX4_scale 4 = .ok (.ifCond .ne 9, 3) := by decide +kernel
theorem dX4_scale_7 : decode cX4_scale 7 = .ok (.aload_n 0, 1) := by decide +kernel
theorem dX4_scale_8 : decode cX4_scale 8 = .ok (.iconst (-1), 1) := by decide +kernel
theorem dX4_scale_9 : decode cX4_scale 9 = .ok (.invokevirtual 34, 3) := by decide +kernel
theorem dX4_scale_12 : decode cX4_scale 12 = .ok (.ireturn, 1) := by decide +kernel
theorem dX4_scale_13 : decode cX4_scale 13 = .ok (.iload_n 2, 1) := by decide +kernel
theorem dX4_scale_14 : decode cX4_scale 14 = .ok (.iconst 1, 1) := by decide +kernel
theorem dX4_scale_15 : decode cX4_scale 15 = .ok (.if_icmp .ge 10, 3) := by decide +kernel
theorem dX4_scale_18 : decode cX4_scale 18 = .ok (.aload_n 0, 1) := by decide +kernel
theorem dX4_scale_19 : decode cX4_scale 19 = .ok (.bipush (-4), 2) := by decide +kernel
theorem dX4_scale_21 : decode cX4_scale 21 = .ok (.invokevirtual 34, 3) := by decide +kernel
theorem dX4_scale_24 : decode cX4_scale 24 = .ok (.ireturn, 1) := by decide +kernel
theorem dX4_scale_25 : decode cX4_scale 25 = .ok (.aload_n 0, 1) := by decide +kernel
theorem dX4_scale_26 : decode cX4_scale 26 = .ok (.iload_n 1, 1) := by decide +kernel
theorem dX4_scale_27 : decode cX4_scale 27 = .ok (.invokevirtual 49, 3) := by decide +kernel
theorem dX4_scale_30 : decode cX4_scale 30 = .ok (.invokevirtual 184, 3) := by decide +kernel
theorem dX4_scale_33 : decode cX4_scale 33 = .ok (.i2l, 1) := by decide +kernel
theorem dX4_scale_34 : decode cX4_scale 34 = .ok (.iload_n 2, 1) := by decide +kernel
theorem dX4_scale_35 : decode cX4_scale 35 = .ok (.i2l, 1) := by decide +kernel
theorem dX4_scale_36 : decode cX4_scale 36 = .ok (.lmul, 1) := by decide +kernel
theorem dX4_scale_37 : decode cX4_scale 37 = .ok (.ldc2_w 178, 3) := by decide +kernel
theorem dX4_scale_40 : decode cX4_scale 40 = .ok (.lcmp, 1) := by decide +kernel
theorem dX4_scale_41 : decode cX4_scale 41 = .ok (.ifCond .le 10, 3) := by decide +kernel
theorem dX4_scale_44 : decode cX4_scale 44 = .ok (.aload_n 0, 1) := by decide +kernel
theorem dX4_scale_45 : decode cX4_scale 45 = .ok (.bipush (-6), 2) := by decide +kernel
theorem dX4_scale_47 : decode cX4_scale 47 = .ok (.invokevirtual 34, 3) := by decide +kernel
theorem dX4_scale_50 : decode cX4_scale 50 = .ok (.ireturn, 1) := by decide +kernel
theorem dX4_scale_51 : decode cX4_scale 51 = .ok (.aload_n 0, 1) := by decide +kernel
theorem dX4_scale_52 : decode cX4_scale 52 = .ok (.iload_n 1, 1) := by decide +kernel
theorem dX4_scale_53 : decode cX4_scale 53 = .ok (.invokevirtual 49, 3) := by decide +kernel
theorem dX4_scale_56 : decode cX4_scale 56 = .ok (.iload_n 2, 1) := by decide +kernel
theorem dX4_scale_57 : decode cX4_scale 57 = .ok (.invokevirtual 187, 3) := by decide +kernel
theorem dX4_scale_60 : decode cX4_scale 60 = .ok (.aload_n 0, 1) := by decide +kernel
theorem dX4_scale_61 : decode cX4_scale 61 = .ok (.iconst 0, 1) := by decide +kernel
theorem dX4_scale_62 : decode cX4_scale 62 = .ok (.putfield 30, 3) := by decide +kernel
theorem dX4_scale_65 : decode cX4_scale 65 = .ok (.iconst 1, 1) := by decide +kernel
theorem dX4_scale_66 : decode cX4_scale 66 = .ok (.ireturn, 1) := by decide +kernel
theorem dX4_status_0 : decode cX4_status 0 = .ok (.iload_n 1, 1) := by decide +kernel
theorem dX4_status_1 : decode cX4_status 1 = .ok (.tableswitch 117 0 4 #[35, 43, 51, 71, 91], 35) := by decide +kernel
theorem dX4_status_36 : decode cX4_status 36 = .ok (.aload_n 0, 1) := by decide +kernel
theorem dX4_status_37 : decode cX4_status 37 = .ok (.getfield 10, 3) := by decide +kernel
theorem dX4_status_40 : decode cX4_status 40 = .ok (.getfield 120, 3) := by decide +kernel
theorem dX4_status_43 : decode cX4_status 43 = .ok (.ireturn, 1) := by decide +kernel
theorem dX4_status_44 : decode cX4_status 44 = .ok (.aload_n 0, 1) := by decide +kernel
theorem dX4_status_45 : decode cX4_status 45 = .ok (.getfield 16, 3) := by decide +kernel
theorem dX4_status_48 : decode cX4_status 48 = .ok (.getfield 120, 3) := by decide +kernel
theorem dX4_status_51 : decode cX4_status 51 = .ok (.ireturn, 1) := by decide +kernel
theorem dX4_status_52 : decode cX4_status 52 = .ok (.aload_n 0, 1) := by decide +kernel
theorem dX4_status_53 : decode cX4_status 53 = .ok (.getfield 10, 3) := by decide +kernel
theorem dX4_status_56 : decode cX4_status 56 = .ok (.aload_n 0, 1) := by decide +kernel
theorem dX4_status_57 : decode cX4_status 57 = .ok (.getfield 16, 3) := by decide +kernel
theorem dX4_status_60 : decode cX4_status 60 = .ok (.invokevirtual 190, 3) := by decide +kernel
theorem dX4_status_63 : decode cX4_status 63 = .ok (.ifCond .eq 7, 3) := by decide +kernel
theorem dX4_status_66 : decode cX4_status 66 = .ok (.iconst 1, 1) := by decide +kernel
theorem dX4_status_67 : decode cX4_status 67 = .ok (.goto 4, 3) := by decide +kernel
theorem dX4_status_70 : decode cX4_status 70 = .ok (.iconst 0, 1) := by decide +kernel
theorem dX4_status_71 : decode cX4_status 71 = .ok (.ireturn, 1) := by decide +kernel
theorem dX4_status_72 : decode cX4_status 72 = .ok (.aload_n 0, 1) := by decide +kernel
theorem dX4_status_73 : decode cX4_status 73 = .ok (.getfield 10, 3) := by decide +kernel
theorem dX4_status_76 : decode cX4_status 76 = .ok (.aload_n 0, 1) := by decide +kernel
theorem dX4_status_77 : decode cX4_status 77 = .ok (.getfield 16, 3) := by decide +kernel
theorem dX4_status_80 : decode cX4_status 80 = .ok (.invokevirtual 194, 3) := by decide +kernel
theorem dX4_status_83 : decode cX4_status 83 = .ok (.ifCond .eq 7, 3) := by decide +kernel
theorem dX4_status_86 : decode cX4_status 86 = .ok (.iconst 1, 1) := by decide +kernel
theorem dX4_status_87 : decode cX4_status 87 = .ok (.goto 4, 3) := by decide +kernel
theorem dX4_status_90 : decode cX4_status 90 = .ok (.iconst 0, 1) := by decide +kernel
theorem dX4_status_91 : decode cX4_status 91 = .ok (.ireturn, 1) := by decide +kernel
theorem dX4_status_92 : decode cX4_status 92 = .ok (.aload_n 0, 1) := by decide +kernel
theorem dX4_status_93 : decode cX4_status 93 = .ok (.invokevirtual 129, 3) := by decide +kernel
theorem dX4_status_96 : decode cX4_status 96 = .ok (.aload_n 0, 1) := by decide +kernel
theorem dX4_status_97 : decode cX4_status 97 = .ok (.getfield 10, 3) := by decide +kernel
theorem dX4_status_100 : decode cX4_status 100 = .ok (.getfield 132, 3) := by decide +kernel
theorem dX4_status_103 : decode cX4_status 103 = .ok (.getfield 136, 3) := by decide +kernel
theorem dX4_status_106 : decode cX4_status 106 = .ok (.aload_n 0, 1) := by decide +kernel
theorem dX4_status_107 : decode cX4_status 107 = .ok (.getfield 16, 3) := by decide +kernel
theorem dX4_status_110 : decode cX4_status 110 = .ok (.getfield 132, 3) := by decide +kernel
theorem dX4_status_113 : decode cX4_status 113 = .ok (.getfield 136, 3) := by decide +kernel
theorem dX4_status_116 : decode cX4_status 116 = .ok (.iadd, 1) := by decide +kernel
theorem dX4_status_117 : decode cX4_status 117 = .ok (.ireturn, 1) := by decide +kernel
theorem dX4_status_118 : decode cX4_status 118 = .ok (.aload_n 0, 1) := by decide +kernel
theorem dX4_status_119 : decode cX4_status 119 = .ok (.iload_n 1, 1) := by decide +kernel
theorem dX4_status_120 : decode cX4_status 120 = .ok (.invokevirtual 197, 3) := by decide +kernel
theorem dX4_status_123 : decode cX4_status 123 = .ok (.ireturn, 1) := by decide +kernel
theorem dX4_refusalsCounted_0 : decode cX4_refusalsCounted 0 = .ok (.iload_n 1, 1) := by decide +kernel
theorem dX4_refusalsCounted_1 : decode cX4_refusalsCounted 1 = .ok (.bipush 10, 2) := by decide +kernel
theorem dX4_refusalsCounted_3 : decode cX4_refusalsCounted 3 = .ok (.if_icmp .le 9, 3) := by decide +kernel
theorem dX4_refusalsCounted_6 : decode cX4_refusalsCounted 6 = .ok (.iload_n 1, 1) := by decide +kernel
theorem dX4_refusalsCounted_7 : decode cX4_refusalsCounted 7 = .ok (.bipush 16, 2) := by decide +kernel
theorem dX4_refusalsCounted_9 : decode cX4_refusalsCounted 9 = .ok (.if_icmp .le 6, 3) := by decide +kernel
theorem dX4_refusalsCounted_12 : decode cX4_refusalsCounted 12 = .ok (.bipush (-9), 2) := by decide +kernel
theorem dX4_refusalsCounted_14 : decode cX4_refusalsCounted 14 = .ok (.ireturn, 1) := by decide +kernel
theorem dX4_refusalsCounted_15 : decode cX4_refusalsCounted 15 = .ok (.aload_n 0, 1) := by decide +kernel
theorem dX4_refusalsCounted_16 : decode cX4_refusalsCounted 16 = .ok (.getfield 26, 3) := by decide +kernel
theorem dX4_refusalsCounted_19 : decode cX4_refusalsCounted 19 = .ok (.iload_n 1, 1) := by decide +kernel
theorem dX4_refusalsCounted_20 : decode cX4_refusalsCounted 20 = .ok (.bipush 10, 2) := by decide +kernel
theorem dX4_refusalsCounted_22 : decode cX4_refusalsCounted 22 = .ok (.isub, 1) := by decide +kernel
theorem dX4_refusalsCounted_23 : decode cX4_refusalsCounted 23 = .ok (.iaload, 1) := by decide +kernel
theorem dX4_refusalsCounted_24 : decode cX4_refusalsCounted 24 = .ok (.ireturn, 1) := by decide +kernel
theorem dX4_refuse_0 : decode cX4_refuse 0 = .ok (.iload_n 1, 1) := by decide +kernel
theorem dX4_refuse_1 : decode cX4_refuse 1 = .ok (.ifCond .ge 20, 3) := by decide +kernel
theorem dX4_refuse_4 : decode cX4_refuse 4 = .ok (.iload_n 1, 1) := by decide +kernel
theorem dX4_refuse_5 : decode cX4_refuse 5 = .ok (.bipush (-6), 2) := by decide +kernel
theorem dX4_refuse_7 : decode cX4_refuse 7 = .ok (.if_icmp .lt 14, 3) := by decide +kernel
theorem dX4_refuse_10 : decode cX4_refuse 10 = .ok (.aload_n 0, 1) := by decide +kernel
theorem dX4_refuse_11 : decode cX4_refuse 11 = .ok (.getfield 26, 3) := by decide +kernel
theorem dX4_refuse_14 : decode cX4_refuse 14 = .ok (.iload_n 1, 1) := by decide +kernel
theorem dX4_refuse_15 : decode cX4_refuse 15 = .ok (.ineg, 1) := by decide +kernel
theorem dX4_refuse_16 : decode cX4_refuse 16 = .ok (.dup2, 1) := by decide +kernel
theorem dX4_refuse_17 : decode cX4_refuse 17 = .ok (.iaload, 1) := by decide +kernel
theorem dX4_refuse_18 : decode cX4_refuse 18 = .ok (.iconst 1, 1) := by decide +kernel
theorem dX4_refuse_19 : decode cX4_refuse 19 = .ok (.iadd, 1) := by decide +kernel
theorem dX4_refuse_20 : decode cX4_refuse 20 = .ok (.iastore, 1) := by decide +kernel
theorem dX4_refuse_21 : decode cX4_refuse 21 = .ok (.iload_n 1, 1) := by decide +kernel
theorem dX4_refuse_22 : decode cX4_refuse 22 = .ok (.ireturn, 1) := by decide +kernel
theorem dX4_refuseAmongPays_0 : decode cX4_refuseAmongPays 0 = .ok (.ldc 200, 2) := by decide +kernel
theorem dX4_refuseAmongPays_2 : decode cX4_refuseAmongPays 2 = .ok (.aload_n 0, 1) := by decide +kernel
theorem dX4_refuseAmongPays_3 : decode cX4_refuseAmongPays 3 = .ok (.iload_n 1, 1) := by decide +kernel
theorem dX4_refuseAmongPays_4 : decode cX4_refuseAmongPays 4 = .ok (.invokevirtual 34, 3) := by decide +kernel
theorem dX4_refuseAmongPays_7 : decode cX4_refuseAmongPays 7 = .ok (.isub, 1) := by decide +kernel
theorem dX4_refuseAmongPays_8 : decode cX4_refuseAmongPays 8 = .ok (.ireturn, 1) := by decide +kernel
theorem dX4_refuseAmongLongs_0 : decode cX4_refuseAmongLongs 0 = .ok (.ldc2_w 201, 3) := by decide +kernel
theorem dX4_refuseAmongLongs_3 : decode cX4_refuseAmongLongs 3 = .ok (.aload_n 0, 1) := by decide +kernel
theorem dX4_refuseAmongLongs_4 : decode cX4_refuseAmongLongs 4 = .ok (.iload_n 1, 1) := by decide +kernel
theorem dX4_refuseAmongLongs_5 : decode cX4_refuseAmongLongs 5 = .ok (.invokevirtual 34, 3) := by decide +kernel
theorem dX4_refuseAmongLongs_8 : decode cX4_refuseAmongLongs 8 = .ok (.i2l, 1) := by decide +kernel
theorem dX4_refuseAmongLongs_9 : decode cX4_refuseAmongLongs 9 = .ok (.lsub, 1) := by decide +kernel
theorem dX4_refuseAmongLongs_10 : decode cX4_refuseAmongLongs 10 = .ok (.lreturn, 1) := by decide +kernel
theorem dX4_isWho_0 : decode cX4_isWho 0 = .ok (.iload_n 0, 1) := by decide +kernel
theorem dX4_isWho_1 : decode cX4_isWho 1 = .ok (.ifCond .eq 8, 3) := by decide +kernel
theorem dX4_isWho_4 : decode cX4_isWho 4 = .ok (.iload_n 0, 1) := by decide +kernel
theorem dX4_isWho_5 : decode cX4_isWho 5 = .ok (.iconst 1, 1) := by decide +kernel
theorem dX4_isWho_6 : decode cX4_isWho 6 = .ok (.if_icmp .ne 7, 3) := by decide +kernel
theorem dX4_isWho_9 : decode cX4_isWho 9 = .ok (.iconst 1, 1) := by decide +kernel
theorem dX4_isWho_10 : decode cX4_isWho 10 = .ok (.goto 4, 3) := by decide +kernel
theorem dX4_isWho_13 : decode cX4_isWho 13 = .ok (.iconst 0, 1) := by decide +kernel
theorem dX4_isWho_14 : decode cX4_isWho 14 = .ok (.ireturn, 1) := by decide +kernel
theorem dX4_isPlace_0 : decode cX4_isPlace 0 = .ok (.iload_n 1, 1) := by decide +kernel
theorem dX4_isPlace_1 : decode cX4_isPlace 1 = .ok (.invokestatic 61, 3) := by decide +kernel
theorem dX4_isPlace_4 : decode cX4_isPlace 4 = .ok (.ifCond .eq 29, 3) := by decide +kernel
theorem dX4_isPlace_7 : decode cX4_isPlace 7 = .ok (.aload_n 0, 1) := by decide +kernel
theorem dX4_isPlace_8 : decode cX4_isPlace 8 = .ok (.getfield 10, 3) := by decide +kernel
theorem dX4_isPlace_11 : decode cX4_isPlace 11 = .ok (.iload_n 2, 1) := by decide +kernel
theorem dX4_isPlace_12 : decode cX4_isPlace 12 = .ok (.invokevirtual 96, 3) := by decide +kernel
theorem dX4_isPlace_15 : decode cX4_isPlace 15 = .ok (.ifCond .eq 18, 3) := by decide +kernel
theorem dX4_isPlace_18 : decode cX4_isPlace 18 = .ok (.aload_n 0, 1) := by decide +kernel
theorem dX4_isPlace_19 : decode cX4_isPlace 19 = .ok (.getfield 16, 3) := by decide +kernel
theorem dX4_isPlace_22 : decode cX4_isPlace 22 = .ok (.iload_n 3, 1) := by decide +kernel
theorem dX4_isPlace_23 : decode cX4_isPlace 23 = .ok (.invokevirtual 96, 3) := by decide +kernel
theorem dX4_isPlace_26 : decode cX4_isPlace 26 = .ok (.ifCond .eq 7, 3) := by decide +kernel
theorem dX4_isPlace_29 : decode cX4_isPlace 29 = .ok (.iconst 1, 1) := by decide +kernel
theorem dX4_isPlace_30 : decode cX4_isPlace 30 = .ok (.goto 4, 3) := by decide +kernel
theorem dX4_isPlace_33 : decode cX4_isPlace 33 = .ok (.iconst 0, 1) := by decide +kernel
theorem dX4_isPlace_34 : decode cX4_isPlace 34 = .ok (.ireturn, 1) := by decide +kernel
theorem dX4_player_0 : decode cX4_player 0 = .ok (.iload_n 1, 1) := by decide +kernel
theorem dX4_player_1 : decode cX4_player 1 = .ok (.ifCond .ne 10, 3) := by decide +kernel
theorem dX4_player_4 : decode cX4_player 4 = .ok (.aload_n 0, 1) := by decide +kernel
theorem dX4_player_5 : decode cX4_player 5 = .ok (.getfield 10, 3) := by decide +kernel
theorem dX4_player_8 : decode cX4_player 8 = .ok (.goto 7, 3) := by decide +kernel
theorem dX4_player_11 : decode cX4_player 11 = .ok (.aload_n 0, 1) := by decide +kernel
theorem dX4_player_12 : decode cX4_player 12 = .ok (.getfield 16, 3) := by decide +kernel
theorem dX4_player_15 : decode cX4_player 15 = .ok (.areturn, 1) := by decide +kernel
theorem dX4_trayOf_0 : decode cX4_trayOf 0 = .ok (.aload_n 0, 1) := by decide +kernel
theorem dX4_trayOf_1 : decode cX4_trayOf 1 = .ok (.iload_n 1, 1) := by decide +kernel
theorem dX4_trayOf_2 : decode cX4_trayOf 2 = .ok (.invokevirtual 49, 3) := by decide +kernel
theorem dX4_trayOf_5 : decode cX4_trayOf 5 = .ok (.aload_n 0, 1) := by decide +kernel
theorem dX4_trayOf_6 : decode cX4_trayOf 6 = .ok (.iconst 1, 1) := by decide +kernel
theorem dX4_trayOf_7 : decode cX4_trayOf 7 = .ok (.iload_n 1, 1) := by decide +kernel
theorem dX4_trayOf_8 : decode cX4_trayOf 8 = .ok (.isub, 1) := by decide +kernel
theorem dX4_trayOf_9 : decode cX4_trayOf 9 = .ok (.invokevirtual 49, 3) := by decide +kernel
theorem dX4_trayOf_12 : decode cX4_trayOf 12 = .ok (.invokevirtual 203, 3) := by decide +kernel
theorem dX4_trayOf_15 : decode cX4_trayOf 15 = .ok (.areturn, 1) := by decide +kernel
theorem dX4_knowCorners_0 : decode cX4_knowCorners 0 = .ok (.aload_n 0, 1) := by decide +kernel
theorem dX4_knowCorners_1 : decode cX4_knowCorners 1 = .ok (.getfield 30, 3) := by decide +kernel
theorem dX4_knowCorners_4 : decode cX4_knowCorners 4 = .ok (.ifCond .ne 50, 3) := by decide +kernel
theorem dX4_knowCorners_7 : decode cX4_knowCorners 7 = .ok (.aload_n 0, 1) := by decide +kernel
theorem dX4_knowCorners_8 : decode cX4_knowCorners 8 = .ok (.getfield 10, 3) := by decide +kernel
theorem dX4_knowCorners_11 : decode cX4_knowCorners 11 = .ok (.getfield 132, 3) := by decide +kernel
theorem dX4_knowCorners_14 : decode cX4_knowCorners 14 = .ok (.aload_n 0, 1) := by decide +kernel
theorem dX4_knowCorners_15 : decode cX4_knowCorners 15 = .ok (.getfield 10, 3) := by decide +kernel
theorem dX4_knowCorners_18 : decode cX4_knowCorners 18 = .ok (.invokevirtual 99, 3) := by decide +kernel
theorem dX4_knowCorners_21 : decode cX4_knowCorners 21 = .ok (.aload_n 0, 1) := by decide +kernel
theorem dX4_knowCorners_22 : decode cX4_knowCorners 22 = .ok (.getfield 16, 3) := by decide +kernel
theorem dX4_knowCorners_25 : decode cX4_knowCorners 25 = .ok (.invokevirtual 207, 3) := by decide +kernel
theorem dX4_knowCorners_28 : decode cX4_knowCorners 28 = .ok (.aload_n 0, 1) := by decide +kernel
theorem dX4_knowCorners_29 : decode cX4_knowCorners 29 = .ok (.getfield 16, 3) := by decide +kernel
theorem dX4_knowCorners_32 : decode cX4_knowCorners 32 = .ok (.getfield 132, 3) := by decide +kernel
theorem dX4_knowCorners_35 : decode cX4_knowCorners 35 = .ok (.aload_n 0, 1) := by decide +kernel
theorem dX4_knowCorners_36 : decode cX4_knowCorners 36 = .ok (.getfield 16, 3) := by decide +kernel
theorem dX4_knowCorners_39 : decode cX4_knowCorners 39 = .ok (.invokevirtual 99, 3) := by decide +kernel
theorem dX4_knowCorners_42 : decode cX4_knowCorners 42 = .ok (.aload_n 0, 1) := by decide +kernel
theorem dX4_knowCorners_43 : decode cX4_knowCorners 43 = .ok (.getfield 10, 3) := by decide +kernel
theorem dX4_knowCorners_46 : decode cX4_knowCorners 46 = .ok (.invokevirtual 207, 3) := by decide +kernel
theorem dX4_knowCorners_49 : decode cX4_knowCorners 49 = .ok (.aload_n 0, 1) := by decide +kernel
theorem dX4_knowCorners_50 : decode cX4_knowCorners 50 = .ok (.iconst 1, 1) := by decide +kernel
theorem dX4_knowCorners_51 : decode cX4_knowCorners 51 = .ok (.putfield 30, 3) := by decide +kernel
theorem dX4_knowCorners_54 : decode cX4_knowCorners 54 = .ok (.return_, 1) := by decide +kernel
theorem dX4_balancesBefore_0 : decode cX4_balancesBefore 0 = .ok (.iconst 0, 1) := by decide +kernel
theorem dX4_balancesBefore_1 : decode cX4_balancesBefore 1 = .ok (.istore_n 3, 1) := by decide +kernel
theorem dX4_balancesBefore_2 : decode cX4_balancesBefore 2 = .ok (.iconst 0, 1) := by decide +kernel
theorem dX4_balancesBefore_3 : decode cX4_balancesBefore 3 = .ok (.istore 4, 2) := by decide +kernel
theorem dX4_balancesBefore_5 : decode cX4_balancesBefore 5 = .ok (.iload 4, 2) := by decide +kernel
theorem dX4_balancesBefore_7 : decode cX4_balancesBefore 7 = .ok (.aload_n 0, 1) := by decide +kernel
theorem dX4_balancesBefore_8 : decode cX4_balancesBefore 8 = .ok (.getfield 10, 3) := by decide +kernel
theorem dX4_balancesBefore_11 : decode cX4_balancesBefore 11 = .ok (.getfield 132, 3) := by decide +kernel
theorem dX4_balancesBefore_14 : decode cX4_balancesBefore 14 = .ok (.getfield 136, 3) := by decide +kernel
theorem dX4_balancesBefore_17 : decode cX4_balancesBefore 17 = .ok (.if_icmp .ge 50, 3) := by decide +kernel
theorem dX4_balancesBefore_20 : decode cX4_balancesBefore 20 = .ok (.iload 4, 2) := by decide +kernel
theorem dX4_balancesBefore_22 : decode cX4_balancesBefore 22 = .ok (.iload_n 1, 1) := by decide +kernel
theorem dX4_balancesBefore_23 : decode cX4_balancesBefore 23 = .ok (.if_icmp .gt 44, 3) := by decide +kernel
theorem dX4_balancesBefore_26 : decode cX4_balancesBefore 26 = .ok (.iload 4, 2) := by decide +kernel
theorem dX4_balancesBefore_28 : decode cX4_balancesBefore 28 = .ok (.iload_n 1, 1) := by decide +kernel
theorem dX4_balancesBefore_29 : decode cX4_balancesBefore 29 = .ok (.if_icmp .ge 8, 3) := by decide +kernel
theorem dX4_balancesBefore_32 : decode cX4_balancesBefore 32 = .ok (.bipush 69, 2) := by decide +kernel
theorem dX4_balancesBefore_34 : decode cX4_balancesBefore 34 = .ok (.goto 4, 3) := by decide +kernel
theorem dX4_balancesBefore_37 : decode cX4_balancesBefore 37 = .ok (.iload_n 2, 1) := by decide +kernel
theorem dX4_balancesBefore_38 : decode cX4_balancesBefore 38 = .ok (.istore 5, 2) := by decide +kernel
theorem dX4_balancesBefore_40 : decode cX4_balancesBefore 40 = .ok (.iload_n 3, 1) := by decide +kernel
theorem dX4_balancesBefore_41 : decode cX4_balancesBefore 41 = .ok (.aload_n 0, 1) := by decide +kernel
theorem dX4_balancesBefore_42 : decode cX4_balancesBefore 42 = .ok (.aload_n 0, 1) := by decide +kernel
theorem dX4_balancesBefore_43 : decode cX4_balancesBefore 43 = .ok (.getfield 10, 3) := by decide +kernel
theorem dX4_balancesBefore_46 : decode cX4_balancesBefore 46 = .ok (.getfield 132, 3) := by decide +kernel
theorem dX4_balancesBefore_49 : decode cX4_balancesBefore 49 = .ok (.iload 4, 2) := by decide +kernel
theorem dX4_balancesBefore_51 : decode cX4_balancesBefore 51 = .ok (.invokevirtual 141, 3) := by decide +kernel
theorem dX4_balancesBefore_54 : decode cX4_balancesBefore 54 = .ok (.iload 5, 2) := by decide +kernel
theorem dX4_balancesBefore_56 : decode cX4_balancesBefore 56 = .ok (.invokevirtual 211, 3) := by decide +kernel
theorem dX4_balancesBefore_59 : decode cX4_balancesBefore 59 = .ok (.iadd, 1) := by decide +kernel
theorem dX4_balancesBefore_60 : decode cX4_balancesBefore 60 = .ok (.istore_n 3, 1) := by decide +kernel
theorem dX4_balancesBefore_61 : decode cX4_balancesBefore 61 = .ok (.iinc 4 1, 3) := by decide +kernel
theorem dX4_balancesBefore_64 : decode cX4_balancesBefore 64 = .ok (.goto (-59), 3) := by decide +kernel
theorem dX4_balancesBefore_67 : decode cX4_balancesBefore 67 = .ok (.iload_n 3, 1) := by decide +kernel
theorem dX4_balancesBefore_68 : decode cX4_balancesBefore 68 = .ok (.ireturn, 1) := by decide +kernel
theorem dX4_balancesOf_0 : decode cX4_balancesOf 0 = .ok (.aload_n 0, 1) := by decide +kernel
theorem dX4_balancesOf_1 : decode cX4_balancesOf 1 = .ok (.getfield 16, 3) := by decide +kernel
theorem dX4_balancesOf_4 : decode cX4_balancesOf 4 = .ok (.getfield 132, 3) := by decide +kernel
theorem dX4_balancesOf_7 : decode cX4_balancesOf 7 = .ok (.astore_n 3, 1) := by decide +kernel
theorem dX4_balancesOf_8 : decode cX4_balancesOf 8 = .ok (.iconst 0, 1) := by decide +kernel
theorem dX4_balancesOf_9 : decode cX4_balancesOf 9 = .ok (.istore 4, 2) := by decide +kernel
theorem dX4_balancesOf_11 : decode cX4_balancesOf 11 = .ok (.iconst 0, 1) := by decide +kernel
theorem dX4_balancesOf_12 : decode cX4_balancesOf 12 = .ok (.istore 5, 2) := by decide +kernel
theorem dX4_balancesOf_14 : decode cX4_balancesOf 14 = .ok (.iload 5, 2) := by decide +kernel
theorem dX4_balancesOf_16 : decode cX4_balancesOf 16 = .ok (.aload_n 3, 1) := by decide +kernel
theorem dX4_balancesOf_17 : decode cX4_balancesOf 17 = .ok (.getfield 136, 3) := by decide +kernel
theorem dX4_balancesOf_20 : decode cX4_balancesOf 20 = .ok (.if_icmp .ge 44, 3) := by decide +kernel
theorem dX4_balancesOf_23 : decode cX4_balancesOf 23 = .ok (.iload 5, 2) := by decide +kernel
theorem dX4_balancesOf_25 : decode cX4_balancesOf 25 = .ok (.iload_n 2, 1) := by decide +kernel
theorem dX4_balancesOf_26 : decode cX4_balancesOf 26 = .ok (.if_icmp .ge 38, 3) := by decide +kernel
theorem dX4_balancesOf_29 : decode cX4_balancesOf 29 = .ok (.aload_n 3, 1) := by decide +kernel
theorem dX4_balancesOf_30 : decode cX4_balancesOf 30 = .ok (.iload 5, 2) := by decide +kernel
theorem dX4_balancesOf_32 : decode cX4_balancesOf 32 = .ok (.invokevirtual 141, 3) := by decide +kernel
theorem dX4_balancesOf_35 : decode cX4_balancesOf 35 = .ok (.astore 6, 2) := by decide +kernel
theorem dX4_balancesOf_37 : decode cX4_balancesOf 37 = .ok (.aload_n 1, 1) := by decide +kernel
theorem dX4_balancesOf_38 : decode cX4_balancesOf 38 = .ok (.ifnull 20, 3) := by decide +kernel
theorem dX4_balancesOf_41 : decode cX4_balancesOf 41 = .ok (.aload 6, 2) := by decide +kernel
theorem dX4_balancesOf_43 : decode cX4_balancesOf 43 = .ok (.ifnull 15, 3) := by decide +kernel
theorem dX4_balancesOf_46 : decode cX4_balancesOf 46 = .ok (.aload_n 1, 1) := by decide +kernel
theorem dX4_balancesOf_47 : decode cX4_balancesOf 47 = .ok (.aload 6, 2) := by decide +kernel
theorem dX4_balancesOf_49 : decode cX4_balancesOf 49 = .ok (.invokevirtual 86, 3) := by decide +kernel
theorem dX4_balancesOf_52 : decode cX4_balancesOf 52 = .ok (.ifCond .eq 6, 3) := by decide +kernel
theorem dX4_balancesOf_55 : decode cX4_balancesOf 55 = .ok (.iinc 4 1, 3) := by decide +kernel
theorem dX4_balancesOf_58 : decode cX4_balancesOf 58 = .ok (.iinc 5 1, 3) := by decide +kernel
theorem dX4_balancesOf_61 : decode cX4_balancesOf 61 = .ok (.goto (-47), 3) := by decide +kernel
theorem dX4_balancesOf_64 : decode cX4_balancesOf 64 = .ok (.iload 4, 2) := by decide +kernel
theorem dX4_balancesOf_66 : decode cX4_balancesOf 66 = .ok (.ireturn, 1) := by decide +kernel
theorem dX4_pairOf_0 : decode cX4_pairOf 0 = .ok (.iconst 0, 1) := by decide +kernel
theorem dX4_pairOf_1 : decode cX4_pairOf 1 = .ok (.istore_n 2, 1) := by decide +kernel
theorem dX4_pairOf_2 : decode cX4_pairOf 2 = .ok (.iconst 0, 1) := by decide +kernel
theorem dX4_pairOf_3 : decode cX4_pairOf 3 = .ok (.istore_n 3, 1) := by decide +kernel
theorem dX4_pairOf_4 : decode cX4_pairOf 4 = .ok (.iload_n 3, 1) := by decide +kernel
theorem dX4_pairOf_5 : decode cX4_pairOf 5 = .ok (.aload_n 0, 1) := by decide +kernel
theorem dX4_pairOf_6 : decode cX4_pairOf 6 = .ok (.getfield 10, 3) := by decide +kernel
theorem dX4_pairOf_9 : decode cX4_pairOf 9 = .ok (.getfield 132, 3) := by decide +kernel
theorem dX4_pairOf_12 : decode cX4_pairOf 12 = .ok (.getfield 136, 3) := by decide +kernel
theorem dX4_pairOf_15 : decode cX4_pairOf 15 = .ok (.if_icmp .ge 106, 3) := by decide +kernel
theorem dX4_pairOf_18 : decode cX4_pairOf 18 = .ok (.iload_n 2, 1) := by decide +kernel
theorem dX4_pairOf_19 : decode cX4_pairOf 19 = .ok (.iload_n 1, 1) := by decide +kernel
theorem dX4_pairOf_20 : decode cX4_pairOf 20 = .ok (.if_icmp .gt 101, 3) := by decide +kernel
theorem dX4_pairOf_23 : decode cX4_pairOf 23 = .ok (.aload_n 0, 1) := by decide +kernel
theorem dX4_pairOf_24 : decode cX4_pairOf 24 = .ok (.getfield 10, 3) := by decide +kernel
theorem dX4_pairOf_27 : decode cX4_pairOf 27 = .ok (.getfield 132, 3) := by decide +kernel
theorem dX4_pairOf_30 : decode cX4_pairOf 30 = .ok (.iload_n 3, 1) := by decide +kernel
theorem dX4_pairOf_31 : decode cX4_pairOf 31 = .ok (.invokevirtual 141, 3) := by decide +kernel
theorem dX4_pairOf_34 : decode cX4_pairOf 34 = .ok (.astore 4, 2) := by decide +kernel
theorem dX4_pairOf_36 : decode cX4_pairOf 36 = .ok (.iconst 0, 1) := by decide +kernel
theorem dX4_pairOf_37 : decode cX4_pairOf 37 = .ok (.istore 5, 2) := by decide +kernel
theorem dX4_pairOf_39 : decode cX4_pairOf 39 = .ok (.iload 5, 2) := by decide +kernel
theorem dX4_pairOf_41 : decode cX4_pairOf 41 = .ok (.aload_n 0, 1) := by decide +kernel
theorem dX4_pairOf_42 : decode cX4_pairOf 42 = .ok (.getfield 16, 3) := by decide +kernel
theorem dX4_pairOf_45 : decode cX4_pairOf 45 = .ok (.getfield 132, 3) := by decide +kernel
theorem dX4_pairOf_48 : decode cX4_pairOf 48 = .ok (.getfield 136, 3) := by decide +kernel
theorem dX4_pairOf_51 : decode cX4_pairOf 51 = .ok (.if_icmp .ge 64, 3) := by decide +kernel
theorem dX4_pairOf_54 : decode cX4_pairOf 54 = .ok (.iload_n 2, 1) := by decide +kernel
theorem dX4_pairOf_55 : decode cX4_pairOf 55 = .ok (.iload_n 1, 1) := by decide +kernel
theorem dX4_pairOf_56 : decode cX4_pairOf 56 = .ok (.if_icmp .gt 59, 3) := by decide +kernel
theorem dX4_pairOf_59 : decode cX4_pairOf 59 = .ok (.aload_n 0, 1) := by decide +kernel
theorem dX4_pairOf_60 : decode cX4_pairOf 60 = .ok (.getfield 16, 3) := by decide +kernel
theorem dX4_pairOf_63 : decode cX4_pairOf 63 = .ok (.getfield 132, 3) := by decide +kernel
theorem dX4_pairOf_66 : decode cX4_pairOf 66 = .ok (.iload 5, 2) := by decide +kernel
theorem dX4_pairOf_68 : decode cX4_pairOf 68 = .ok (.invokevirtual 141, 3) := by decide +kernel
theorem dX4_pairOf_71 : decode cX4_pairOf 71 = .ok (.astore 6, 2) := by decide +kernel
theorem dX4_pairOf_73 : decode cX4_pairOf 73 = .ok (.aload 4, 2) := by decide +kernel
theorem dX4_pairOf_75 : decode cX4_pairOf 75 = .ok (.ifnull 34, 3) := by decide +kernel
theorem dX4_pairOf_78 : decode cX4_pairOf 78 = .ok (.aload 6, 2) := by decide +kernel
theorem dX4_pairOf_80 : decode cX4_pairOf 80 = .ok (.ifnull 29, 3) := by decide +kernel
theorem dX4_pairOf_83 : decode cX4_pairOf 83 = .ok (.aload 4, 2) := by decide +kernel
theorem dX4_pairOf_85 : decode cX4_pairOf 85 = .ok (.aload 6, 2) := by decide +kernel
theorem dX4_pairOf_87 : decode cX4_pairOf 87 = .ok (.invokevirtual 86, 3) := by decide +kernel
theorem dX4_pairOf_90 : decode cX4_pairOf 90 = .ok (.ifCond .eq 19, 3) := by decide +kernel
theorem dX4_pairOf_93 : decode cX4_pairOf 93 = .ok (.iload_n 2, 1) := by decide +kernel
theorem dX4_pairOf_94 : decode cX4_pairOf 94 = .ok (.iload_n 1, 1) := by decide +kernel
theorem dX4_pairOf_95 : decode cX4_pairOf 95 = .ok (.if_icmp .ne 11, 3) := by decide +kernel
theorem dX4_pairOf_98 : decode cX4_pairOf 98 = .ok (.iload_n 3, 1) := by decide +kernel
theorem dX4_pairOf_99 : decode cX4_pairOf 99 = .ok (.bipush 69, 2) := by decide +kernel
theorem dX4_pairOf_101 : decode cX4_pairOf 101 = .ok (.imul, 1) := by decide +kernel
theorem dX4_pairOf_102 : decode cX4_pairOf 102 = .ok (.iload 5, 2) := by decide +kernel
theorem dX4_pairOf_104 : decode cX4_pairOf 104 = .ok (.iadd, 1) := by decide +kernel
theorem dX4_pairOf_105 : decode cX4_pairOf 105 = .ok (.ireturn, 1) := by decide +kernel
theorem dX4_pairOf_106 : decode cX4_pairOf 106 = .ok (.iinc 2 1, 3) := by decide +kernel
theorem dX4_pairOf_109 : decode cX4_pairOf 109 = .ok (.iinc 5 1, 3) := by decide +kernel
theorem dX4_pairOf_112 : decode cX4_pairOf 112 = .ok (.goto (-73), 3) := by decide +kernel
theorem dX4_pairOf_115 : decode cX4_pairOf 115 = .ok (.iinc 3 1, 3) := by decide +kernel
theorem dX4_pairOf_118 : decode cX4_pairOf 118 = .ok (.goto (-114), 3) := by decide +kernel
theorem dX4_pairOf_121 : decode cX4_pairOf 121 = .ok (.bipush (-9), 2) := by decide +kernel
theorem dX4_pairOf_123 : decode cX4_pairOf 123 = .ok (.ireturn, 1) := by decide +kernel
theorem dX4_kindOf_0 : decode cX4_kindOf 0 = .ok (.aload_n 1, 1) := by decide +kernel
theorem dX4_kindOf_1 : decode cX4_kindOf 1 = .ok (.getfield 90, 3) := by decide +kernel
theorem dX4_kindOf_4 : decode cX4_kindOf 4 = .ok (.invokestatic 215, 3) := by decide +kernel
theorem dX4_kindOf_7 : decode cX4_kindOf 7 = .ok (.istore_n 3, 1) := by decide +kernel
theorem dX4_kindOf_8 : decode cX4_kindOf 8 = .ok (.aload_n 2, 1) := by decide +kernel
theorem dX4_kindOf_9 : decode cX4_kindOf 9 = .ok (.getfield 90, 3) := by decide +kernel
theorem dX4_kindOf_12 : decode cX4_kindOf 12 = .ok (.invokestatic 215, 3) := by decide +kernel
theorem dX4_kindOf_15 : decode cX4_kindOf 15 = .ok (.istore 4, 2) := by decide +kernel
theorem dX4_kindOf_17 : decode cX4_kindOf 17 = .ok (.iload_n 3, 1) := by decide +kernel
theorem dX4_kindOf_18 : decode cX4_kindOf 18 = .ok (.iconst 1, 1) := by decide +kernel
theorem dX4_kindOf_19 : decode cX4_kindOf 19 = .ok (.if_icmp .ne 49, 3) := by decide +kernel
theorem dX4_kindOf_22 : decode cX4_kindOf 22 = .ok (.iload 4, 2) := by decide +kernel
theorem dX4_kindOf_24 : decode cX4_kindOf 24 = .ok (.iconst 1, 1) := by decide +kernel
theorem dX4_kindOf_25 : decode cX4_kindOf 25 = .ok (.if_icmp .ne 43, 3) := by decide +kernel
theorem dX4_kindOf_28 : decode cX4_kindOf 28 = .ok (.aload_n 1, 1) := by decide +kernel
theorem dX4_kindOf_29 : decode cX4_kindOf 29 = .ok (.getfield 90, 3) := by decide +kernel
theorem dX4_kindOf_32 : decode cX4_kindOf 32 = .ok (.aload_n 2, 1) := by decide +kernel
theorem dX4_kindOf_33 : decode cX4_kindOf 33 = .ok (.getfield 80, 3) := by decide +kernel
theorem dX4_kindOf_36 : decode cX4_kindOf 36 = .ok (.if_icmp .ne 18, 3) := by decide +kernel
theorem dX4_kindOf_39 : decode cX4_kindOf 39 = .ok (.aload_n 2, 1) := by decide +kernel
theorem dX4_kindOf_40 : decode cX4_kindOf 40 = .ok (.getfield 90, 3) := by decide +kernel
theorem dX4_kindOf_43 : decode cX4_kindOf 43 = .ok (.aload_n 1, 1) := by decide +kernel
theorem dX4_kindOf_44 : decode cX4_kindOf 44 = .ok (.getfield 80, 3) := by decide +kernel
theorem dX4_kindOf_47 : decode cX4_kindOf 47 = .ok (.if_icmp .ne 7, 3) := by decide +kernel
theorem dX4_kindOf_50 : decode cX4_kindOf 50 = .ok (.iconst 1, 1) := by decide +kernel
theorem dX4_kindOf_51 : decode cX4_kindOf 51 = .ok (.goto 4, 3) := by decide +kernel
theorem dX4_kindOf_54 : decode cX4_kindOf 54 = .ok (.iconst 0, 1) := by decide +kernel
theorem dX4_kindOf_55 : decode cX4_kindOf 55 = .ok (.istore 5, 2) := by decide +kernel
theorem dX4_kindOf_57 : decode cX4_kindOf 57 = .ok (.iload 5, 2) := by decide +kernel
theorem dX4_kindOf_59 : decode cX4_kindOf 59 = .ok (.ifCond .eq 7, 3) := by decide +kernel
theorem dX4_kindOf_62 : decode cX4_kindOf 62 = .ok (.iconst 4, 1) := by decide +kernel
theorem dX4_kindOf_63 : decode cX4_kindOf 63 = .ok (.goto 4, 3) := by decide +kernel
theorem dX4_kindOf_66 : decode cX4_kindOf 66 = .ok (.iconst 3, 1) := by decide +kernel
theorem dX4_kindOf_67 : decode cX4_kindOf 67 = .ok (.ireturn, 1) := by decide +kernel
theorem dX4_kindOf_68 : decode cX4_kindOf 68 = .ok (.iload_n 3, 1) := by decide +kernel
theorem dX4_kindOf_69 : decode cX4_kindOf 69 = .ok (.aload_n 0, 1) := by decide +kernel
theorem dX4_kindOf_70 : decode cX4_kindOf 70 = .ok (.getfield 10, 3) := by decide +kernel
theorem dX4_kindOf_73 : decode cX4_kindOf 73 = .ok (.getfield 120, 3) := by decide +kernel
theorem dX4_kindOf_76 : decode cX4_kindOf 76 = .ok (.if_icmp .ne 17, 3) := by decide +kernel
theorem dX4_kindOf_79 : decode cX4_kindOf 79 = .ok (.iload 4, 2) := by decide +kernel
theorem dX4_kindOf_81 : decode cX4_kindOf 81 = .ok (.aload_n 0, 1) := by decide +kernel
theorem dX4_kindOf_82 : decode cX4_kindOf 82 = .ok (.getfield 16, 3) := by decide +kernel
theorem dX4_kindOf_85 : decode cX4_kindOf 85 = .ok (.getfield 120, 3) := by decide +kernel
theorem dX4_kindOf_88 : decode cX4_kindOf 88 = .ok (.if_icmp .ne 5, 3) := by decide +kernel
theorem dX4_kindOf_91 : decode cX4_kindOf 91 = .ok (.iconst 2, 1) := by decide +kernel
theorem dX4_kindOf_92 : decode cX4_kindOf 92 = .ok (.ireturn, 1) := by decide +kernel
theorem dX4_kindOf_93 : decode cX4_kindOf 93 = .ok (.iload_n 3, 1) := by decide +kernel
theorem dX4_kindOf_94 : decode cX4_kindOf 94 = .ok (.iload 4, 2) := by decide +kernel
theorem dX4_kindOf_96 : decode cX4_kindOf 96 = .ok (.if_icmp .ne 7, 3) := by decide +kernel
theorem dX4_kindOf_99 : decode cX4_kindOf 99 = .ok (.iconst 1, 1) := by decide +kernel
theorem dX4_kindOf_100 : decode cX4_kindOf 100 = .ok (.goto 4, 3) := by decide +kernel
theorem dX4_kindOf_103 : decode cX4_kindOf 103 = .ok (.iconst 0, 1) := by decide +kernel
theorem dX4_kindOf_104 : decode cX4_kindOf 104 = .ok (.ireturn, 1) := by decide +kernel
theorem dX4_hasBit_0 : decode cX4_hasBit 0 = .ok (.iload_n 0, 1) := by decide +kernel
theorem dX4_hasBit_1 : decode cX4_hasBit 1 = .ok (.iload_n 1, 1) := by decide +kernel
theorem dX4_hasBit_2 : decode cX4_hasBit 2 = .ok (.ishr, 1) := by decide +kernel
theorem dX4_hasBit_3 : decode cX4_hasBit 3 = .ok (.iconst 1, 1) := by decide +kernel
theorem dX4_hasBit_4 : decode cX4_hasBit 4 = .ok (.iand, 1) := by decide +kernel
theorem dX4_hasBit_5 : decode cX4_hasBit 5 = .ok (.iconst 1, 1) := by decide +kernel
theorem dX4_hasBit_6 : decode cX4_hasBit 6 = .ok (.if_icmp .ne 7, 3) := by decide +kernel
theorem dX4_hasBit_9 : decode cX4_hasBit 9 = .ok (.iconst 1, 1) := by decide +kernel
theorem dX4_hasBit_10 : decode cX4_hasBit 10 = .ok (.goto 4, 3) := by decide +kernel
theorem dX4_hasBit_13 : decode cX4_hasBit 13 = .ok (.iconst 0, 1) := by decide +kernel
theorem dX4_hasBit_14 : decode cX4_hasBit 14 = .ok (.ireturn, 1) := by decide +kernel
theorem dX4_firstOf_0 : decode cX4_firstOf 0 = .ok (.iconst 0, 1) := by decide +kernel
theorem dX4_firstOf_1 : decode cX4_firstOf 1 = .ok (.istore_n 1, 1) := by decide +kernel
theorem dX4_firstOf_2 : decode cX4_firstOf 2 = .ok (.iload_n 1, 1) := by decide +kernel
theorem dX4_firstOf_3 : decode cX4_firstOf 3 = .ok (.iconst 4, 1) := by decide +kernel
theorem dX4_firstOf_4 : decode cX4_firstOf 4 = .ok (.if_icmp .ge 19, 3) := by decide +kernel
theorem dX4_firstOf_7 : decode cX4_firstOf 7 = .ok (.iload_n 0, 1) := by decide +kernel
theorem dX4_firstOf_8 : decode cX4_firstOf 8 = .ok (.iload_n 1, 1) := by decide +kernel
theorem dX4_firstOf_9 : decode cX4_firstOf 9 = .ok (.invokestatic 220, 3) := by decide +kernel
theorem dX4_firstOf_12 : decode cX4_firstOf 12 = .ok (.ifCond .eq 5, 3) := by decide +kernel
theorem dX4_firstOf_15 : decode cX4_firstOf 15 = .ok (.iload_n 1, 1) := by decide +kernel
theorem dX4_firstOf_16 : decode cX4_firstOf 16 = .ok (.ireturn, 1) := by decide +kernel
theorem dX4_firstOf_17 : decode cX4_firstOf 17 = .ok (.iinc 1 1, 3) := by decide +kernel
theorem dX4_firstOf_20 : decode cX4_firstOf 20 = .ok (.goto (-18), 3) := by decide +kernel
theorem dX4_firstOf_23 : decode cX4_firstOf 23 = .ok (.bipush (-9), 2) := by decide +kernel
theorem dX4_firstOf_25 : decode cX4_firstOf 25 = .ok (.ireturn, 1) := by decide +kernel
theorem dX4_lowest_0 : decode cX4_lowest 0 = .ok (.lload_n 0, 1) := by decide +kernel
theorem dX4_lowest_1 : decode cX4_lowest 1 = .ok (.invokestatic 224, 3) := by decide +kernel
theorem dX4_lowest_4 : decode cX4_lowest 4 = .ok (.lload_n 2, 1) := by decide +kernel
theorem dX4_lowest_5 : decode cX4_lowest 5 = .ok (.invokestatic 230, 3) := by decide +kernel
theorem dX4_lowest_8 : decode cX4_lowest 8 = .ok (.lstore 5, 2) := by decide +kernel
theorem dX4_lowest_10 : decode cX4_lowest 10 = .ok (.lload 5, 2) := by decide +kernel
theorem dX4_lowest_12 : decode cX4_lowest 12 = .ok (.lconst 0, 1) := by decide +kernel
theorem dX4_lowest_13 : decode cX4_lowest 13 = .ok (.lcmp, 1) := by decide +kernel
theorem dX4_lowest_14 : decode cX4_lowest 14 = .ok (.ifCond .gt 5, 3) := by decide +kernel
theorem dX4_lowest_17 : decode cX4_lowest 17 = .ok (.lconst 0, 1) := by decide +kernel
theorem dX4_lowest_18 : decode cX4_lowest 18 = .ok (.lreturn, 1) := by decide +kernel
theorem dX4_lowest_19 : decode cX4_lowest 19 = .ok (.iload 4, 2) := by decide +kernel
theorem dX4_lowest_21 : decode cX4_lowest 21 = .ok (.ifCond .ne 10, 3) := by decide +kernel
theorem dX4_lowest_24 : decode cX4_lowest 24 = .ok (.lload_n 0, 1) := by decide +kernel
theorem dX4_lowest_25 : decode cX4_lowest 25 = .ok (.lload 5, 2) := by decide +kernel
theorem dX4_lowest_27 : decode cX4_lowest 27 = .ok (.ldiv, 1) := by decide +kernel
theorem dX4_lowest_28 : decode cX4_lowest 28 = .ok (.goto 7, 3) := by decide +kernel
theorem dX4_lowest_31 : decode cX4_lowest 31 = .ok (.lload_n 2, 1) := by decide +kernel
theorem dX4_lowest_32 : decode cX4_lowest 32 = .ok (.lload 5, 2) := by decide +kernel
theorem dX4_lowest_34 : decode cX4_lowest 34 = .ok (.ldiv, 1) := by decide +kernel
theorem dX4_lowest_35 : decode cX4_lowest 35 = .ok (.lreturn, 1) := by decide +kernel
theorem dX4_commonFactor_0 : decode cX4_commonFactor 0 = .ok (.lload_n 0, 1) := by decide +kernel
theorem dX4_commonFactor_1 : decode cX4_commonFactor 1 = .ok (.lstore 4, 2) := by decide +kernel
theorem dX4_commonFactor_3 : decode cX4_commonFactor 3 = .ok (.lload_n 2, 1) := by decide +kernel
theorem dX4_commonFactor_4 : decode cX4_commonFactor 4 = .ok (.lstore 6, 2) := by decide +kernel
theorem dX4_commonFactor_6 : decode cX4_commonFactor 6 = .ok (.iconst 0, 1) := by decide +kernel
theorem dX4_commonFactor_7 : decode cX4_commonFactor 7 = .ok (.istore 8, 2) := by decide +kernel
theorem dX4_commonFactor_9 : decode cX4_commonFactor 9 = .ok (.iload 8, 2) := by decide +kernel
theorem dX4_commonFactor_11 : decode cX4_commonFactor 11 = .ok (.bipush 100, 2) := by decide +kernel
theorem dX4_commonFactor_13 : decode cX4_commonFactor 13 = .ok (.if_icmp .ge 31, 3) := by decide +kernel
theorem dX4_commonFactor_16 : decode cX4_commonFactor 16 = .ok (.lload 6, 2) := by decide +kernel
theorem dX4_commonFactor_18 : decode cX4_commonFactor 18 = .ok (.lconst 0, 1) := by decide +kernel
theorem dX4_commonFactor_19 : decode cX4_commonFactor 19 = .ok (.lcmp, 1) := by decide +kernel
theorem dX4_commonFactor_20 : decode cX4_commonFactor 20 = .ok (.ifCond .eq 24, 3) := by decide +kernel
theorem dX4_commonFactor_23 : decode cX4_commonFactor 23 = .ok (.lload 4, 2) := by decide +kernel
theorem dX4_commonFactor_25 : decode cX4_commonFactor 25 = .ok (.lload 6, 2) := by decide +kernel
theorem dX4_commonFactor_27 : decode cX4_commonFactor 27 = .ok (.lrem, 1) := by decide +kernel
theorem dX4_commonFactor_28 : decode cX4_commonFactor 28 = .ok (.lstore 9, 2) := by decide +kernel
theorem dX4_commonFactor_30 : decode cX4_commonFactor 30 = .ok (.lload 6, 2) := by decide +kernel
theorem dX4_commonFactor_32 : decode cX4_commonFactor 32 = .ok (.lstore 4, 2) := by decide +kernel
theorem dX4_commonFactor_34 : decode cX4_commonFactor 34 = .ok (.lload 9, 2) := by decide +kernel
theorem dX4_commonFactor_36 : decode cX4_commonFactor 36 = .ok (.lstore 6, 2) := by decide +kernel
theorem dX4_commonFactor_38 : decode cX4_commonFactor 38 = .ok (.iinc 8 1, 3) := by decide +kernel
theorem dX4_commonFactor_41 : decode cX4_commonFactor 41 = .ok (.goto (-32), 3) := by decide +kernel
theorem dX4_commonFactor_44 : decode cX4_commonFactor 44 = .ok (.lload 4, 2) := by decide +kernel
theorem dX4_commonFactor_46 : decode cX4_commonFactor 46 = .ok (.lreturn, 1) := by decide +kernel
theorem dJ6_bitCount_0f7a4_0 : decode cJ6_bitCount_0f7a4 0 = .ok (.iload_n 0, 1) := by decide +kernel
theorem dJ6_bitCount_0f7a4_1 : decode cJ6_bitCount_0f7a4 1 = .ok (.iload_n 0, 1) := by decide +kernel
theorem dJ6_bitCount_0f7a4_2 : decode cJ6_bitCount_0f7a4 2 = .ok (.iconst 1, 1) := by decide +kernel
theorem dJ6_bitCount_0f7a4_3 : decode cJ6_bitCount_0f7a4 3 = .ok (.iushr, 1) := by decide +kernel
theorem dJ6_bitCount_0f7a4_4 : decode cJ6_bitCount_0f7a4 4 = .ok (.ldc_w 265, 3) := by decide +kernel
theorem dJ6_bitCount_0f7a4_7 : decode cJ6_bitCount_0f7a4 7 = .ok (.iand, 1) := by decide +kernel
theorem dJ6_bitCount_0f7a4_8 : decode cJ6_bitCount_0f7a4 8 = .ok (.isub, 1) := by decide +kernel
theorem dJ6_bitCount_0f7a4_9 : decode cJ6_bitCount_0f7a4 9 = .ok (.istore_n 0, 1) := by decide +kernel
theorem dJ6_bitCount_0f7a4_10 : decode cJ6_bitCount_0f7a4 10 = .ok (.iload_n 0, 1) := by decide +kernel
theorem dJ6_bitCount_0f7a4_11 : decode cJ6_bitCount_0f7a4 11 = .ok (.ldc_w 266, 3) := by decide +kernel
theorem dJ6_bitCount_0f7a4_14 : decode cJ6_bitCount_0f7a4 14 = .ok (.iand, 1) := by decide +kernel
theorem dJ6_bitCount_0f7a4_15 : decode cJ6_bitCount_0f7a4 15 = .ok (.iload_n 0, 1) := by decide +kernel
theorem dJ6_bitCount_0f7a4_16 : decode cJ6_bitCount_0f7a4 16 = .ok (.iconst 2, 1) := by decide +kernel
theorem dJ6_bitCount_0f7a4_17 : decode cJ6_bitCount_0f7a4 17 = .ok (.iushr, 1) := by decide +kernel
theorem dJ6_bitCount_0f7a4_18 : decode cJ6_bitCount_0f7a4 18 = .ok (.ldc_w 266, 3) := by decide +kernel
theorem dJ6_bitCount_0f7a4_21 : decode cJ6_bitCount_0f7a4 21 = .ok (.iand, 1) := by decide +kernel
theorem dJ6_bitCount_0f7a4_22 : decode cJ6_bitCount_0f7a4 22 = .ok (.iadd, 1) := by decide +kernel
theorem dJ6_bitCount_0f7a4_23 : decode cJ6_bitCount_0f7a4 23 = .ok (.istore_n 0, 1) := by decide +kernel
theorem dJ6_bitCount_0f7a4_24 : decode cJ6_bitCount_0f7a4 24 = .ok (.iload_n 0, 1) := by decide +kernel
theorem dJ6_bitCount_0f7a4_25 : decode cJ6_bitCount_0f7a4 25 = .ok (.iload_n 0, 1) := by decide +kernel
theorem dJ6_bitCount_0f7a4_26 : decode cJ6_bitCount_0f7a4 26 = .ok (.iconst 4, 1) := by decide +kernel
theorem dJ6_bitCount_0f7a4_27 : decode cJ6_bitCount_0f7a4 27 = .ok (.iushr, 1) := by decide +kernel
theorem dJ6_bitCount_0f7a4_28 : decode cJ6_bitCount_0f7a4 28 = .ok (.iadd, 1) := by decide +kernel
theorem dJ6_bitCount_0f7a4_29 : decode cJ6_bitCount_0f7a4 29 = .ok (.ldc_w 267, 3) := by decide +kernel
theorem dJ6_bitCount_0f7a4_32 : decode cJ6_bitCount_0f7a4 32 = .ok (.iand, 1) := by decide +kernel
theorem dJ6_bitCount_0f7a4_33 : decode cJ6_bitCount_0f7a4 33 = .ok (.istore_n 0, 1) := by decide +kernel
theorem dJ6_bitCount_0f7a4_34 : decode cJ6_bitCount_0f7a4 34 = .ok (.iload_n 0, 1) := by decide +kernel
theorem dJ6_bitCount_0f7a4_35 : decode cJ6_bitCount_0f7a4 35 = .ok (.iload_n 0, 1) := by decide +kernel
theorem dJ6_bitCount_0f7a4_36 : decode cJ6_bitCount_0f7a4 36 = .ok (.bipush 8, 2) := by decide +kernel
theorem dJ6_bitCount_0f7a4_38 : decode cJ6_bitCount_0f7a4 38 = .ok (.iushr, 1) := by decide +kernel
theorem dJ6_bitCount_0f7a4_39 : decode cJ6_bitCount_0f7a4 39 = .ok (.iadd, 1) := by decide +kernel
theorem dJ6_bitCount_0f7a4_40 : decode cJ6_bitCount_0f7a4 40 = .ok (.istore_n 0, 1) := by decide +kernel
theorem dJ6_bitCount_0f7a4_41 : decode cJ6_bitCount_0f7a4 41 = .ok (.iload_n 0, 1) := by decide +kernel
theorem dJ6_bitCount_0f7a4_42 : decode cJ6_bitCount_0f7a4 42 = .ok (.iload_n 0, 1) := by decide +kernel
theorem dJ6_bitCount_0f7a4_43 : decode cJ6_bitCount_0f7a4 43 = .ok (.bipush 16, 2) := by decide +kernel
theorem dJ6_bitCount_0f7a4_45 : decode cJ6_bitCount_0f7a4 45 = .ok (.iushr, 1) := by decide +kernel
theorem dJ6_bitCount_0f7a4_46 : decode cJ6_bitCount_0f7a4 46 = .ok (.iadd, 1) := by decide +kernel
theorem dJ6_bitCount_0f7a4_47 : decode cJ6_bitCount_0f7a4 47 = .ok (.istore_n 0, 1) := by decide +kernel
theorem dJ6_bitCount_0f7a4_48 : decode cJ6_bitCount_0f7a4 48 = .ok (.iload_n 0, 1) := by decide +kernel
theorem dJ6_bitCount_0f7a4_49 : decode cJ6_bitCount_0f7a4 49 = .ok (.bipush 63, 2) := by decide +kernel
theorem dJ6_bitCount_0f7a4_51 : decode cJ6_bitCount_0f7a4 51 = .ok (.iand, 1) := by decide +kernel
theorem dJ6_bitCount_0f7a4_52 : decode cJ6_bitCount_0f7a4 52 = .ok (.ireturn, 1) := by decide +kernel
theorem dJ9_abs_0f7a4_0 : decode cJ9_abs_0f7a4 0 = .ok (.iload_n 0, 1) := by decide +kernel
theorem dJ9_abs_0f7a4_1 : decode cJ9_abs_0f7a4 1 = .ok (.ifCond .ge 8, 3) := by decide +kernel
theorem dJ9_abs_0f7a4_4 : decode cJ9_abs_0f7a4 4 = .ok (.iload_n 0, 1) := by decide +kernel
theorem dJ9_abs_0f7a4_5 : decode cJ9_abs_0f7a4 5 = .ok (.ineg, 1) := by decide +kernel
theorem dJ9_abs_0f7a4_6 : decode cJ9_abs_0f7a4 6 = .ok (.goto 4, 3) := by decide +kernel
theorem dJ9_abs_0f7a4_9 : decode cJ9_abs_0f7a4 9 = .ok (.iload_n 0, 1) := by decide +kernel
theorem dJ9_abs_0f7a4_10 : decode cJ9_abs_0f7a4 10 = .ok (.ireturn, 1) := by decide +kernel
theorem dJ9_abs_067f4_0 : decode cJ9_abs_067f4 0 = .ok (.lload_n 0, 1) := by decide +kernel
theorem dJ9_abs_067f4_1 : decode cJ9_abs_067f4 1 = .ok (.lconst 0, 1) := by decide +kernel
theorem dJ9_abs_067f4_2 : decode cJ9_abs_067f4 2 = .ok (.lcmp, 1) := by decide +kernel
theorem dJ9_abs_067f4_3 : decode cJ9_abs_067f4 3 = .ok (.ifCond .ge 8, 3) := by decide +kernel
theorem dJ9_abs_067f4_6 : decode cJ9_abs_067f4 6 = .ok (.lload_n 0, 1) := by decide +kernel
theorem dJ9_abs_067f4_7 : decode cJ9_abs_067f4 7 = .ok (.lneg, 1) := by decide +kernel
theorem dJ9_abs_067f4_8 : decode cJ9_abs_067f4 8 = .ok (.goto 4, 3) := by decide +kernel
theorem dJ9_abs_067f4_11 : decode cJ9_abs_067f4 11 = .ok (.lload_n 0, 1) := by decide +kernel
theorem dJ9_abs_067f4_12 : decode cJ9_abs_067f4 12 = .ok (.lreturn, 1) := by decide +kernel
theorem dJ9_max_7cf53_0 : decode cJ9_max_7cf53 0 = .ok (.iload_n 0, 1) := by decide +kernel
theorem dJ9_max_7cf53_1 : decode cJ9_max_7cf53 1 = .ok (.iload_n 1, 1) := by decide +kernel
theorem dJ9_max_7cf53_2 : decode cJ9_max_7cf53 2 = .ok (.if_icmp .lt 7, 3) := by decide +kernel
theorem dJ9_max_7cf53_5 : decode cJ9_max_7cf53 5 = .ok (.iload_n 0, 1) := by decide +kernel
theorem dJ9_max_7cf53_6 : decode cJ9_max_7cf53 6 = .ok (.goto 4, 3) := by decide +kernel
theorem dJ9_max_7cf53_9 : decode cJ9_max_7cf53 9 = .ok (.iload_n 1, 1) := by decide +kernel
theorem dJ9_max_7cf53_10 : decode cJ9_max_7cf53 10 = .ok (.ireturn, 1) := by decide +kernel
theorem dJ9_min_7cf53_0 : decode cJ9_min_7cf53 0 = .ok (.iload_n 0, 1) := by decide +kernel
theorem dJ9_min_7cf53_1 : decode cJ9_min_7cf53 1 = .ok (.iload_n 1, 1) := by decide +kernel
theorem dJ9_min_7cf53_2 : decode cJ9_min_7cf53 2 = .ok (.if_icmp .gt 7, 3) := by decide +kernel
theorem dJ9_min_7cf53_5 : decode cJ9_min_7cf53 5 = .ok (.iload_n 0, 1) := by decide +kernel
theorem dJ9_min_7cf53_6 : decode cJ9_min_7cf53 6 = .ok (.goto 4, 3) := by decide +kernel
theorem dJ9_min_7cf53_9 : decode cJ9_min_7cf53 9 = .ok (.iload_n 1, 1) := by decide +kernel
theorem dJ9_min_7cf53_10 : decode cJ9_min_7cf53 10 = .ok (.ireturn, 1) := by decide +kernel
end
section
theorem dX5_init_0 : decode cX5_init 0 = .ok (.aload_n 0, 1) := by decide +kernel
theorem dX5_init_1 : decode cX5_init 1 = .ok (.invokespecial 1, 3) := by decide +kernel
theorem dX5_init_4 : decode cX5_init 4 = .ok (.aload_n 0, 1) := by decide +kernel
theorem dX5_init_5 : decode cX5_init 5 = .ok (.iconst 2, 1) := by decide +kernel
theorem dX5_init_6 : decode cX5_init 6 = .ok (.newarray .int, 2) := by decide +kernel
theorem dX5_init_8 : decode cX5_init 8 = .ok (.dup, 1) := by decide +kernel
theorem dX5_init_9 : decode cX5_init 9 = .ok (.iconst 0, 1) := by decide +kernel
theorem dX5_init_10 : decode cX5_init 10 = .ok (.iconst 1, 1) := by decide +kernel
theorem dX5_init_11 : decode cX5_init 11 = .ok (.iastore, 1) := by decide +kernel
theorem dX5_init_12 : decode cX5_init 12 = .ok (.dup, 1) := by decide +kernel
theorem dX5_init_13 : decode cX5_init 13 = .ok (.iconst 1, 1) := by decide +kernel
theorem dX5_init_14 : decode cX5_init 14 = .ok (.iconst 1, 1) := by decide +kernel
theorem dX5_init_15 : decode cX5_init 15 = .ok (.iastore, 1) := by decide +kernel
theorem dX5_init_16 : decode cX5_init 16 = .ok (.putfield 7, 3) := by decide +kernel
theorem dX5_init_19 : decode cX5_init 19 = .ok (.aload_n 0, 1) := by decide +kernel
theorem dX5_init_20 : decode cX5_init 20 = .ok (.bipush 32, 2) := by decide +kernel
theorem dX5_init_22 : decode cX5_init 22 = .ok (.newarray .int, 2) := by decide +kernel
theorem dX5_init_24 : decode cX5_init 24 = .ok (.putfield 13, 3) := by decide +kernel
theorem dX5_init_27 : decode cX5_init 27 = .ok (.aload_n 0, 1) := by decide +kernel
theorem dX5_init_28 : decode cX5_init 28 = .ok (.bipush 8, 2) := by decide +kernel
theorem dX5_init_30 : decode cX5_init 30 = .ok (.newarray .int, 2) := by decide +kernel
theorem dX5_init_32 : decode cX5_init 32 = .ok (.putfield 16, 3) := by decide +kernel
theorem dX5_init_35 : decode cX5_init 35 = .ok (.aload_n 0, 1) := by decide +kernel
theorem dX5_init_36 : decode cX5_init 36 = .ok (.bipush 7, 2) := by decide +kernel
theorem dX5_init_38 : decode cX5_init 38 = .ok (.newarray .int, 2) := by decide +kernel
theorem dX5_init_40 : decode cX5_init 40 = .ok (.putfield 19, 3) := by decide +kernel
theorem dX5_init_43 : decode cX5_init 43 = .ok (.aload_n 0, 1) := by decide +kernel
theorem dX5_init_44 : decode cX5_init 44 = .ok (.iconst 4, 1) := by decide +kernel
theorem dX5_init_45 : decode cX5_init 45 = .ok (.newarray .long, 2) := by decide +kernel
theorem dX5_init_47 : decode cX5_init 47 = .ok (.putfield 22, 3) := by decide +kernel
theorem dX5_init_50 : decode cX5_init 50 = .ok (.aload_n 0, 1) := by decide +kernel
theorem dX5_init_51 : decode cX5_init 51 = .ok (.iconst 4, 1) := by decide +kernel
theorem dX5_init_52 : decode cX5_init 52 = .ok (.newarray .long, 2) := by decide +kernel
theorem dX5_init_54 : decode cX5_init 54 = .ok (.putfield 26, 3) := by decide +kernel
theorem dX5_init_57 : decode cX5_init 57 = .ok (.aload_n 0, 1) := by decide +kernel
theorem dX5_init_58 : decode cX5_init 58 = .ok (.iconst 2, 1) := by decide +kernel
theorem dX5_init_59 : decode cX5_init 59 = .ok (.newarray .int, 2) := by decide +kernel
theorem dX5_init_61 : decode cX5_init 61 = .ok (.putfield 29, 3) := by decide +kernel
theorem dX5_init_64 : decode cX5_init 64 = .ok (.aload_n 0, 1) := by decide +kernel
theorem dX5_init_65 : decode cX5_init 65 = .ok (.sipush 640, 3) := by decide +kernel
theorem dX5_init_68 : decode cX5_init 68 = .ok (.newarray .long, 2) := by decide +kernel
theorem dX5_init_70 : decode cX5_init 70 = .ok (.putfield 32, 3) := by decide +kernel
theorem dX5_init_73 : decode cX5_init 73 = .ok (.aload_n 0, 1) := by decide +kernel
theorem dX5_init_74 : decode cX5_init 74 = .ok (.sipush 160, 3) := by decide +kernel
theorem dX5_init_77 : decode cX5_init 77 = .ok (.newarray .long, 2) := by decide +kernel
theorem dX5_init_79 : decode cX5_init 79 = .ok (.putfield 35, 3) := by decide +kernel
theorem dX5_init_82 : decode cX5_init 82 = .ok (.aload_n 0, 1) := by decide +kernel
theorem dX5_init_83 : decode cX5_init 83 = .ok (.sipush 160, 3) := by decide +kernel
theorem dX5_init_86 : decode cX5_init 86 = .ok (.newarray .int, 2) := by decide +kernel
theorem dX5_init_88 : decode cX5_init 88 = .ok (.putfield 38, 3) := by decide +kernel
theorem dX5_init_91 : decode cX5_init 91 = .ok (.aload_n 0, 1) := by decide +kernel
theorem dX5_init_92 : decode cX5_init 92 = .ok (.sipush 160, 3) := by decide +kernel
theorem dX5_init_95 : decode cX5_init 95 = .ok (.newarray .int, 2) := by decide +kernel
theorem dX5_init_97 : decode cX5_init 97 = .ok (.putfield 41, 3) := by decide +kernel
theorem dX5_init_100 : decode cX5_init 100 = .ok (.aload_n 0, 1) := by decide +kernel
theorem dX5_init_101 : decode cX5_init 101 = .ok (.bipush 9, 2) := by decide +kernel
theorem dX5_init_103 : decode cX5_init 103 = .ok (.newarray .long, 2) := by decide +kernel
theorem dX5_init_105 : decode cX5_init 105 = .ok (.putfield 44, 3) := by decide +kernel
theorem dX5_init_108 : decode cX5_init 108 = .ok (.aload_n 0, 1) := by decide +kernel
theorem dX5_init_109 : decode cX5_init 109 = .ok (.iconst 4, 1) := by decide +kernel
theorem dX5_init_110 : decode cX5_init 110 = .ok (.newarray .int, 2) := by decide +kernel
theorem dX5_init_112 : decode cX5_init 112 = .ok (.putfield 47, 3) := by decide +kernel
theorem dX5_init_115 : decode cX5_init 115 = .ok (.aload_n 0, 1) := by decide +kernel
theorem dX5_init_116 : decode cX5_init 116 = .ok (.iconst 4, 1) := by decide +kernel
theorem dX5_init_117 : decode cX5_init 117 = .ok (.newarray .int, 2) := by decide +kernel
theorem dX5_init_119 : decode cX5_init 119 = .ok (.putfield 50, 3) := by decide +kernel
theorem dX5_init_122 : decode cX5_init 122 = .ok (.aload_n 0, 1) := by decide +kernel
theorem dX5_init_123 : decode cX5_init 123 = .ok (.iconst 4, 1) := by decide +kernel
theorem dX5_init_124 : decode cX5_init 124 = .ok (.newarray .long, 2) := by decide +kernel
theorem dX5_init_126 : decode cX5_init 126 = .ok (.putfield 53, 3) := by decide +kernel
theorem dX5_init_129 : decode cX5_init 129 = .ok (.aload_n 0, 1) := by decide +kernel
theorem dX5_init_130 : decode cX5_init 130 = .ok (.bipush 40, 2) := by decide +kernel
theorem dX5_init_132 : decode cX5_init 132 = .ok (.newarray .int, 2) := by decide +kernel
theorem dX5_init_134 : decode cX5_init 134 = .ok (.putfield 56, 3) := by decide +kernel
theorem dX5_init_137 : decode cX5_init 137 = .ok (.return_, 1) := by decide +kernel
theorem dX5_in_0 : decode cX5_in 0 = .ok (.lload_n 0, 1) := by decide +kernel
theorem dX5_in_1 : decode cX5_in 1 = .ok (.lload_n 2, 1) := by decide +kernel
theorem dX5_in_2 : decode cX5_in 2 = .ok (.lcmp, 1) := by decide +kernel
theorem dX5_in_3 : decode cX5_in 3 = .ok (.ifCond .lt 14, 3) := by decide +kernel
theorem dX5_in_6 : decode cX5_in 6 = .ok (.lload_n 0, 1) := by decide +kernel
theorem dX5_in_7 : decode cX5_in 7 = .ok (.lload 4, 2) := by decide +kernel
theorem dX5_in_9 : decode cX5_in 9 = .ok (.lcmp, 1) := by decide +kernel
theorem dX5_in_10 : decode cX5_in 10 = .ok (.ifCond .gt 7, 3) := by decide +kernel
theorem dX5_in_13 : decode cX5_in 13 = .ok (.iconst 1, 1) := by decide +kernel
theorem dX5_in_14 : decode cX5_in 14 = .ok (.goto 4, 3) := by decide +kernel
theorem dX5_in_17 : decode cX5_in 17 = .ok (.iconst 0, 1) := by decide +kernel
theorem dX5_in_18 : decode cX5_in 18 = .ok (.ireturn, 1) := by decide +kernel
theorem dX5_refuse_0 : decode cX5_refuse 0 = .ok (.aload_n 0, 1) := by decide +kernel
theorem dX5_refuse_1 : decode cX5_refuse 1 = .ok (.getfield 19, 3) := by decide +kernel
theorem dX5_refuse_4 : decode cX5_refuse 4 = .ok (.iload_n 1, 1) := by decide +kernel
theorem dX5_refuse_5 : decode cX5_refuse 5 = .ok (.ineg, 1) := by decide +kernel
theorem dX5_refuse_6 : decode cX5_refuse 6 = .ok (.dup2, 1) := by decide +kernel
theorem dX5_refuse_7 : decode cX5_refuse 7 = .ok (.iaload, 1) := by decide +kernel
theorem dX5_refuse_8 : decode cX5_refuse 8 = .ok (.iconst 1, 1) := by decide +kernel
theorem dX5_refuse_9 : decode cX5_refuse 9 = .ok (.iadd, 1) := by decide +kernel
theorem dX5_refuse_10 : decode cX5_refuse 10 = .ok (.iastore, 1) := by decide +kernel
theorem dX5_refuse_11 : decode cX5_refuse 11 = .ok (.iload_n 1, 1) := by decide +kernel
theorem dX5_refuse_12 : decode cX5_refuse 12 = .ok (.ireturn, 1) := by decide +kernel
theorem dX5_refuseBig_0 : decode cX5_refuseBig 0 = .ok (.aload_n 0, 1) := by decide +kernel
theorem dX5_refuseBig_1 : decode cX5_refuseBig 1 = .ok (.getfield 19, 3) := by decide +kernel
theorem dX5_refuseBig_4 : decode cX5_refuseBig 4 = .ok (.iload_n 1, 1) := by decide +kernel
theorem dX5_refuseBig_5 : decode cX5_refuseBig 5 = .ok (.ineg, 1) := by decide +kernel
theorem dX5_refuseBig_6 : decode cX5_refuseBig 6 = .ok (.dup2, 1) := by decide +kernel
theorem dX5_refuseBig_7 : decode cX5_refuseBig 7 = .ok (.iaload, 1) := by decide +kernel
theorem dX5_refuseBig_8 : decode cX5_refuseBig 8 = .ok (.iconst 1, 1) := by decide +kernel
theorem dX5_refuseBig_9 : decode cX5_refuseBig 9 = .ok (.iadd, 1) := by decide +kernel
theorem dX5_refuseBig_10 : decode cX5_refuseBig 10 = .ok (.iastore, 1) := by decide +kernel
theorem dX5_refuseBig_11 : decode cX5_refuseBig 11 = .ok (.ldc 59, 2) := by decide +kernel
theorem dX5_refuseBig_13 : decode cX5_refuseBig 13 = .ok (.iload_n 1, 1) := by decide +kernel
theorem dX5_refuseBig_14 : decode cX5_refuseBig 14 = .ok (.isub, 1) := by decide +kernel
theorem dX5_refuseBig_15 : decode cX5_refuseBig 15 = .ok (.ireturn, 1) := by decide +kernel
theorem dX5_refuseGreat_0 : decode cX5_refuseGreat 0 = .ok (.aload_n 0, 1) := by decide +kernel
theorem dX5_refuseGreat_1 : decode cX5_refuseGreat 1 = .ok (.getfield 19, 3) := by decide +kernel
theorem dX5_refuseGreat_4 : decode cX5_refuseGreat 4 = .ok (.iload_n 1, 1) := by decide +kernel
theorem dX5_refuseGreat_5 : decode cX5_refuseGreat 5 = .ok (.ineg, 1) := by decide +kernel
theorem dX5_refuseGreat_6 : decode cX5_refuseGreat 6 = .ok (.dup2, 1) := by decide +kernel
theorem dX5_refuseGreat_7 : decode cX5_refuseGreat 7 = .ok (.iaload, 1) := by decide +kernel
theorem dX5_refuseGreat_8 : decode cX5_refuseGreat 8 = .ok (.iconst 1, 1) := by decide +kernel
theorem dX5_refuseGreat_9 : decode cX5_refuseGreat 9 = .ok (.iadd, 1) := by decide +kernel
theorem dX5_refuseGreat_10 : decode cX5_refuseGreat 10 = .ok (.iastore, 1) := by decide +kernel
theorem dX5_refuseGreat_11 : decode cX5_refuseGreat 11 = .ok (.ldc2_w 60, 3) := by decide +kernel
theorem dX5_refuseGreat_14 : decode cX5_refuseGreat 14 = .ok (.iload_n 1, 1) := by decide +kernel
theorem dX5_refuseGreat_15 : decode cX5_refuseGreat 15 = .ok (.i2l, 1) := by decide +kernel
theorem dX5_refuseGreat_16 : decode cX5_refuseGreat 16 = .ok (.lsub, 1) := by decide +kernel
theorem dX5_refuseGreat_17 : decode cX5_refuseGreat 17 = .ok (.lreturn, 1) := by decide +kernel
theorem dX5_isWho_0 : decode cX5_isWho 0 = .ok (.iload_n 0, 1) := by decide +kernel
theorem dX5_isWho_1 : decode cX5_isWho 1 = .ok (.ifCond .eq 8, 3) := by decide +kernel
theorem dX5_isWho_4 : decode cX5_isWho 4 = .ok (.iload_n 0, 1) := by decide +kernel
theorem dX5_isWho_5 : decode cX5_isWho 5 = .ok (.iconst 1, 1) := by decide +kernel
theorem dX5_isWho_6 : decode cX5_isWho 6 = .ok (.if_icmp .ne 7, 3) := by decide +kernel
theorem dX5_isWho_9 : decode cX5_isWho 9 = .ok (.iconst 1, 1) := by decide +kernel
theorem dX5_isWho_10 : decode cX5_isWho 10 = .ok (.goto 4, 3) := by decide +kernel
theorem dX5_isWho_13 : decode cX5_isWho 13 = .ok (.iconst 0, 1) := by decide +kernel
theorem dX5_isWho_14 : decode cX5_isWho 14 = .ok (.ireturn, 1) := by decide +kernel
theorem dX5_isChoice_0 : decode cX5_isChoice 0 = .ok (.iload_n 1, 1) := by decide +kernel
theorem dX5_isChoice_1 : decode cX5_isChoice 1 = .ok (.invokestatic 62, 3) := by decide +kernel
theorem dX5_isChoice_4 : decode cX5_isChoice 4 = .ok (.ifCond .eq 25, 3) := by decide +kernel
theorem dX5_isChoice_7 : decode cX5_isChoice 7 = .ok (.iload_n 2, 1) := by decide +kernel
theorem dX5_isChoice_8 : decode cX5_isChoice 8 = .ok (.i2l, 1) := by decide +kernel
theorem dX5_isChoice_9 : decode cX5_isChoice 9 = .ok (.lconst 0, 1) := by decide +kernel
theorem dX5_isChoice_10 : decode cX5_isChoice 10 = .ok (.aload_n 0, 1) := by decide +kernel
theorem dX5_isChoice_11 : decode cX5_isChoice 11 = .ok (.getfield 7, 3) := by decide +kernel
theorem dX5_isChoice_14 : decode cX5_isChoice 14 = .ok (.iload_n 1, 1) := by decide +kernel
theorem dX5_isChoice_15 : decode cX5_isChoice 15 = .ok (.iaload, 1) := by decide +kernel
theorem dX5_isChoice_16 : decode cX5_isChoice 16 = .ok (.iconst 1, 1) := by decide +kernel
theorem dX5_isChoice_17 : decode cX5_isChoice 17 = .ok (.isub, 1) := by decide +kernel
theorem dX5_isChoice_18 : decode cX5_isChoice 18 = .ok (.i2l, 1) := by decide +kernel
theorem dX5_isChoice_19 : decode cX5_isChoice 19 = .ok (.invokestatic 66, 3) := by decide +kernel
theorem dX5_isChoice_22 : decode cX5_isChoice 22 = .ok (.ifCond .eq 7, 3) := by decide +kernel
theorem dX5_isChoice_25 : decode cX5_isChoice 25 = .ok (.iconst 1, 1) := by decide +kernel
theorem dX5_isChoice_26 : decode cX5_isChoice 26 = .ok (.goto 4, 3) := by decide +kernel
theorem dX5_isChoice_29 : decode cX5_isChoice 29 = .ok (.iconst 0, 1) := by decide +kernel
theorem dX5_isChoice_30 : decode cX5_isChoice 30 = .ok (.ireturn, 1) := by decide +kernel
theorem dX5_get_0 : decode cX5_get 0 = .ok (.iload_n 1, 1) := by decide +kernel
theorem dX5_get_1 : decode cX5_get 1 = .ok (.ifCond .ne 16, 3) := by decide +kernel
theorem dX5_get_4 : decode cX5_get 4 = .ok (.aload_n 0, 1) := by decide +kernel
theorem dX5_get_5 : decode cX5_get 5 = .ok (.getfield 13, 3) := by decide +kernel
theorem dX5_get_8 : decode cX5_get 8 = .ok (.iconst 4, 1) := by decide +kernel
theorem dX5_get_9 : decode cX5_get 9 = .ok (.iload_n 2, 1) := by decide +kernel
theorem dX5_get_10 : decode cX5_get 10 = .ok (.imul, 1) := by decide +kernel
theorem dX5_get_11 : decode cX5_get 11 = .ok (.iload_n 3, 1) := by decide +kernel
theorem dX5_get_12 : decode cX5_get 12 = .ok (.iadd, 1) := by decide +kernel
theorem dX5_get_13 : decode cX5_get 13 = .ok (.iaload, 1) := by decide +kernel
theorem dX5_get_14 : decode cX5_get 14 = .ok (.goto 16, 3) := by decide +kernel
theorem dX5_get_17 : decode cX5_get 17 = .ok (.aload_n 0, 1) := by decide +kernel
theorem dX5_get_18 : decode cX5_get 18 = .ok (.getfield 13, 3) := by decide +kernel
theorem dX5_get_21 : decode cX5_get 21 = .ok (.bipush 16, 2) := by decide +kernel
theorem dX5_get_23 : decode cX5_get 23 = .ok (.iconst 4, 1) := by decide +kernel
theorem dX5_get_24 : decode cX5_get 24 = .ok (.iload_n 3, 1) := by decide +kernel
theorem dX5_get_25 : decode cX5_get 25 = .ok (.imul, 1) := by decide +kernel
theorem dX5_get_26 : decode cX5_get 26 = .ok (.iadd, 1) := by decide +kernel
theorem dX5_get_27 : decode cX5_get 27 = .ok (.iload_n 2, 1) := by decide +kernel
theorem dX5_get_28 : decode cX5_get 28 = .ok (.iadd, 1) := by decide +kernel
theorem dX5_get_29 : decode cX5_get 29 = .ok (.iaload, 1) := by decide +kernel
theorem dX5_get_30 : decode cX5_get 30 = .ok (.ireturn, 1) := by decide +kernel
theorem dX5_game_0 : decode cX5_game 0 = .ok (.iload_n 1, 1) := by decide +kernel
theorem dX5_game_1 : decode cX5_game 1 = .ok (.iconst 1, 1) := by decide +kernel
theorem dX5_game_2 : decode cX5_game 2 = .ok (.if_icmp .lt 8, 3) := by decide +kernel
theorem dX5_game_5 : decode cX5_game 5 = .ok (.iload_n 2, 1) := by decide +kernel
theorem dX5_game_6 : decode cX5_game 6 = .ok (.iconst 1, 1) := by decide +kernel
theorem dX5_game_7 : decode cX5_game 7 = .ok (.if_icmp .ge 10, 3) := by decide +kernel
theorem dX5_game_10 : decode cX5_game 10 = .ok (.aload_n 0, 1) := by decide +kernel
theorem dX5_game_11 : decode cX5_game 11 = .ok (.bipush (-4), 2) := by decide +kernel
theorem dX5_game_13 : decode cX5_game 13 = .ok (.invokevirtual 70, 3) := by decide +kernel
theorem dX5_game_16 : decode cX5_game 16 = .ok (.ireturn, 1) := by decide +kernel
theorem dX5_game_17 : decode cX5_game 17 = .ok (.iload_n 1, 1) := by decide +kernel
theorem dX5_game_18 : decode cX5_game 18 = .ok (.iconst 4, 1) := by decide +kernel
theorem dX5_game_19 : decode cX5_game 19 = .ok (.if_icmp .gt 8, 3) := by decide +kernel
theorem dX5_game_22 : decode cX5_game 22 = .ok (.iload_n 2, 1) := by decide +kernel
theorem dX5_game_23 : decode cX5_game 23 = .ok (.iconst 4, 1) := by decide +kernel
theorem dX5_game_24 : decode cX5_game 24 = .ok (.if_icmp .le 10, 3) := by decide +kernel
theorem dX5_game_27 : decode cX5_game 27 = .ok (.aload_n 0, 1) := by decide +kernel
theorem dX5_game_28 : decode cX5_game 28 = .ok (.bipush (-6), 2) := by decide +kernel
theorem dX5_game_30 : decode cX5_game 30 = .ok (.invokevirtual 70, 3) := by decide +kernel
theorem dX5_game_33 : decode cX5_game 33 = .ok (.ireturn, 1) := by decide +kernel
theorem dX5_game_34 : decode cX5_game 34 = .ok (.aload_n 0, 1) := by decide +kernel
theorem dX5_game_35 : decode cX5_game 35 = .ok (.getfield 7, 3) := by decide +kernel
theorem dX5_game_38 : decode cX5_game 38 = .ok (.iconst 0, 1) := by decide +kernel
theorem dX5_game_39 : decode cX5_game 39 = .ok (.iload_n 1, 1) := by decide +kernel
theorem dX5_game_40 : decode cX5_game 40 = .ok (.iastore, 1) := by decide +kernel
theorem dX5_game_41 : decode cX5_game 41 = .ok (.aload_n 0, 1) := by decide +kernel
theorem dX5_game_42 : decode cX5_game 42 = .ok (.getfield 7, 3) := by decide +kernel
theorem dX5_game_45 : decode cX5_game 45 = .ok (.iconst 1, 1) := by decide +kernel
theorem dX5_game_46 : decode cX5_game 46 = .ok (.iload_n 2, 1) := by decide +kernel
theorem dX5_game_47 : decode cX5_game 47 = .ok (.iastore, 1) := by decide +kernel
theorem dX5_game_48 : decode cX5_game 48 = .ok (.iconst 0, 1) := by decide +kernel
theorem dX5_game_49 : decode cX5_game 49 = .ok (.istore_n 3, 1) := by decide +kernel
theorem dX5_game_50 : decode cX5_game 50 = .ok (.iload_n 3, 1) := by decide +kernel
theorem dX5_game_51 : decode cX5_game 51 = .ok (.bipush 32, 2) := by decide +kernel
theorem dX5_game_53 : decode cX5_game 53 = .ok (.if_icmp .ge 16, 3) := by decide +kernel
theorem dX5_game_56 : decode cX5_game 56 = .ok (.aload_n 0, 1) := by decide +kernel
theorem dX5_game_57 : decode cX5_game 57 = .ok (.getfield 13, 3) := by decide +kernel
theorem dX5_game_60 : decode cX5_game 60 = .ok (.iload_n 3, 1) := by decide +kernel
theorem dX5_game_61 : decode cX5_game 61 = .ok (.iconst 0, 1) := by decide +kernel
theorem dX5_game_62 : decode cX5_game 62 = .ok (.iastore, 1) := by decide +kernel
theorem dX5_game_63 : decode cX5_game 63 = .ok (.iinc 3 1, 3) := by decide +kernel
theorem dX5_game_66 : decode cX5_game 66 = .ok (.goto (-16), 3) := by decide +kernel
theorem dX5_game_69 : decode cX5_game 69 = .ok (.iconst 1, 1) := by decide +kernel
theorem dX5_game_70 : decode cX5_game 70 = .ok (.ireturn, 1) := by decide +kernel
theorem dX5_pay_0 : decode cX5_pay 0 = .ok (.iload_n 1, 1) := by decide +kernel
theorem dX5_pay_1 : decode cX5_pay 1 = .ok (.invokestatic 62, 3) := by decide +kernel
theorem dX5_pay_4 : decode cX5_pay 4 = .ok (.ifCond .eq 21, 3) := by decide +kernel
theorem dX5_pay_7 : decode cX5_pay 7 = .ok (.aload_n 0, 1) := by decide +kernel
theorem dX5_pay_8 : decode cX5_pay 8 = .ok (.iconst 0, 1) := by decide +kernel
theorem dX5_pay_9 : decode cX5_pay 9 = .ok (.iload_n 2, 1) := by decide +kernel
theorem dX5_pay_10 : decode cX5_pay 10 = .ok (.invokevirtual 74, 3) := by decide +kernel
theorem dX5_pay_13 : decode cX5_pay 13 = .ok (.ifCond .eq 12, 3) := by decide +kernel
theorem dX5_pay_16 : decode cX5_pay 16 = .ok (.aload_n 0, 1) := by decide +kernel
theorem dX5_pay_17 : decode cX5_pay 17 = .ok (.iconst 1, 1) := by decide +kernel
theorem dX5_pay_18 : decode cX5_pay 18 = .ok (.iload_n 3, 1) := by decide +kernel
theorem dX5_pay_19 : decode cX5_pay 19 = .ok (.invokevirtual 74, 3) := by decide +kernel
theorem dX5_pay_22 : decode cX5_pay 22 = .ok (.ifCond .ne 9, 3) := by decide +kernel
theorem dX5_pay_25 : decode cX5_pay 25 = .ok (.aload_n 0, 1) := by decide +kernel
theorem dX5_pay_26 : decode cX5_pay 26 = .ok (.iconst (-1), 1) := by decide +kernel
theorem dX5_pay_27 : decode cX5_pay 27 = .ok (.invokevirtual 78, 3) := by decide +kernel
theorem dX5_pay_30 : decode cX5_pay 30 = .ok (.ireturn, 1) := by decide +kernel
theorem dX5_pay_31 : decode cX5_pay 31 = .ok (.iload 4, 2) := by decide +kernel
theorem dX5_pay_33 : decode cX5_pay 33 = .ok (.bipush (-20), 2) := by decide +kernel
theorem dX5_pay_35 : decode cX5_pay 35 = .ok (.if_icmp .ge 10, 3) := by decide +kernel
theorem dX5_pay_38 : decode cX5_pay 38 = .ok (.aload_n 0, 1) := by decide +kernel
theorem dX5_pay_39 : decode cX5_pay 39 = .ok (.bipush (-4), 2) := by decide +kernel
theorem dX5_pay_41 : decode cX5_pay 41 = .ok (.invokevirtual 78, 3) := by decide +kernel
theorem dX5_pay_44 : decode cX5_pay 44 = .ok (.ireturn, 1) := by decide +kernel
theorem dX5_pay_45 : decode cX5_pay 45 = .ok (.iload 4, 2) := by decide +kernel
theorem dX5_pay_47 : decode cX5_pay 47 = .ok (.bipush 20, 2) := by decide +kernel
theorem dX5_pay_49 : decode cX5_pay 49 = .ok (.if_icmp .le 10, 3) := by decide +kernel
theorem dX5_pay_52 : decode cX5_pay 52 = .ok (.aload_n 0, 1) := by decide +kernel
theorem dX5_pay_53 : decode cX5_pay 53 = .ok (.bipush (-6), 2) := by decide +kernel
theorem dX5_pay_55 : decode cX5_pay 55 = .ok (.invokevirtual 78, 3) := by decide +kernel
theorem dX5_pay_58 : decode cX5_pay 58 = .ok (.ireturn, 1) := by decide +kernel
theorem dX5_pay_59 : decode cX5_pay 59 = .ok (.bipush 16, 2) := by decide +kernel
theorem dX5_pay_61 : decode cX5_pay 61 = .ok (.iload_n 1, 1) := by decide +kernel
theorem dX5_pay_62 : decode cX5_pay 62 = .ok (.imul, 1) := by decide +kernel
theorem dX5_pay_63 : decode cX5_pay 63 = .ok (.iconst 4, 1) := by decide +kernel
theorem dX5_pay_64 : decode cX5_pay 64 = .ok (.iload_n 2, 1) := by decide +kernel
theorem dX5_pay_65 : decode cX5_pay 65 = .ok (.imul, 1) := by decide +kernel
theorem dX5_pay_66 : decode cX5_pay 66 = .ok (.iadd, 1) := by decide +kernel
theorem dX5_pay_67 : decode cX5_pay 67 = .ok (.iload_n 3, 1) := by decide +kernel
theorem dX5_pay_68 : decode cX5_pay 68 = .ok (.iadd, 1) := by decide +kernel
theorem dX5_pay_69 : decode cX5_pay 69 = .ok (.istore 5, 2) := by decide +kernel
theorem dX5_pay_71 : decode cX5_pay 71 = .ok (.aload_n 0, 1) := by decide +kernel
theorem dX5_pay_72 : decode cX5_pay 72 = .ok (.getfield 13, 3) := by decide +kernel
theorem dX5_pay_75 : decode cX5_pay 75 = .ok (.iload 5, 2) := by decide +kernel
theorem dX5_pay_77 : decode cX5_pay 77 = .ok (.iaload, 1) := by decide +kernel
theorem dX5_pay_78 : decode cX5_pay 78 = .ok (.istore 6, 2) := by decide +kernel
theorem dX5_pay_80 : decode cX5_pay 80 = .ok (.aload_n 0, 1) := by decide +kernel
theorem dX5_pay_81 : decode cX5_pay 81 = .ok (.getfield 13, 3) := by decide +kernel
theorem dX5_pay_84 : decode cX5_pay 84 = .ok (.iload 5, 2) := by decide +kernel
theorem dX5_pay_86 : decode cX5_pay 86 = .ok (.iload 4, 2) := by decide +kernel
theorem dX5_pay_88 : decode cX5_pay 88 = .ok (.iastore, 1) := by decide +kernel
theorem dX5_pay_89 : decode cX5_pay 89 = .ok (.iload 6, 2) := by decide +kernel
theorem dX5_pay_91 : decode cX5_pay 91 = .ok (.ireturn, 1) := by decide +kernel
theorem dX5_paid_0 : decode cX5_paid 0 = .ok (.iload_n 1, 1) := by decide +kernel
theorem dX5_paid_1 : decode cX5_paid 1 = .ok (.invokestatic 62, 3) := by decide +kernel
theorem dX5_paid_4 : decode cX5_paid 4 = .ok (.ifCond .eq 39, 3) := by decide +kernel
theorem dX5_paid_7 : decode cX5_paid 7 = .ok (.aload_n 0, 1) := by decide +kernel
theorem dX5_paid_8 : decode cX5_paid 8 = .ok (.iconst 0, 1) := by decide +kernel
theorem dX5_paid_9 : decode cX5_paid 9 = .ok (.iload_n 2, 1) := by decide +kernel
theorem dX5_paid_10 : decode cX5_paid 10 = .ok (.invokevirtual 74, 3) := by decide +kernel
theorem dX5_paid_13 : decode cX5_paid 13 = .ok (.ifCond .eq 30, 3) := by decide +kernel
theorem dX5_paid_16 : decode cX5_paid 16 = .ok (.aload_n 0, 1) := by decide +kernel
theorem dX5_paid_17 : decode cX5_paid 17 = .ok (.iconst 1, 1) := by decide +kernel
theorem dX5_paid_18 : decode cX5_paid 18 = .ok (.iload_n 3, 1) := by decide +kernel
theorem dX5_paid_19 : decode cX5_paid 19 = .ok (.invokevirtual 74, 3) := by decide +kernel
theorem dX5_paid_22 : decode cX5_paid 22 = .ok (.ifCond .eq 21, 3) := by decide +kernel
theorem dX5_paid_25 : decode cX5_paid 25 = .ok (.aload_n 0, 1) := by decide +kernel
theorem dX5_paid_26 : decode cX5_paid 26 = .ok (.getfield 13, 3) := by decide +kernel
theorem dX5_paid_29 : decode cX5_paid 29 = .ok (.bipush 16, 2) := by decide +kernel
theorem dX5_paid_31 : decode cX5_paid 31 = .ok (.iload_n 1, 1) := by decide +kernel
theorem dX5_paid_32 : decode cX5_paid 32 = .ok (.imul, 1) := by decide +kernel
theorem dX5_paid_33 : decode cX5_paid 33 = .ok (.iconst 4, 1) := by decide +kernel
theorem dX5_paid_34 : decode cX5_paid 34 = .ok (.iload_n 2, 1) := by decide +kernel
theorem dX5_paid_35 : decode cX5_paid 35 = .ok (.imul, 1) := by decide +kernel
theorem dX5_paid_36 : decode cX5_paid 36 = .ok (.iadd, 1) := by decide +kernel
theorem dX5_paid_37 : decode cX5_paid 37 = .ok (.iload_n 3, 1) := by decide +kernel
theorem dX5_paid_38 : decode cX5_paid 38 = .ok (.iadd, 1) := by decide +kernel
theorem dX5_paid_39 : decode cX5_paid 39 = .ok (.iaload, 1) := by decide +kernel
theorem dX5_paid_40 : decode cX5_paid 40 = .ok (.goto 8, 3) := by decide +kernel
theorem dX5_paid_43 : decode cX5_paid 43 = .ok (.aload_n 0, 1) := by decide +kernel
theorem dX5_paid_44 : decode cX5_paid 44 = .ok (.iconst (-1), 1) := by decide +kernel
theorem dX5_paid_45 : decode cX5_paid 45 = .ok (.invokevirtual 78, 3) := by decide +kernel
theorem dX5_paid_48 : decode cX5_paid 48 = .ok (.ireturn, 1) := by decide +kernel
theorem dX5_weight_0 : decode cX5_weight 0 = .ok (.iload_n 1, 1) := by decide +kernel
theorem dX5_weight_1 : decode cX5_weight 1 = .ok (.invokestatic 62, 3) := by decide +kernel
theorem dX5_weight_4 : decode cX5_weight 4 = .ok (.ifCond .eq 15, 3) := by decide +kernel
theorem dX5_weight_7 : decode cX5_weight 7 = .ok (.iload_n 2, 1) := by decide +kernel
theorem dX5_weight_8 : decode cX5_weight 8 = .ok (.i2l, 1) := by decide +kernel
theorem dX5_weight_9 : decode cX5_weight 9 = .ok (.lconst 0, 1) := by decide +kernel
theorem dX5_weight_10 : decode cX5_weight 10 = .ok (.ldc2_w 81, 3) := by decide +kernel
theorem dX5_weight_13 : decode cX5_weight 13 = .ok (.invokestatic 66, 3) := by decide +kernel
theorem dX5_weight_16 : decode cX5_weight 16 = .ok (.ifCond .ne 9, 3) := by decide +kernel
theorem dX5_weight_19 : decode cX5_weight 19 = .ok (.aload_n 0, 1) := by decide +kernel
theorem dX5_weight_20 : decode cX5_weight 20 = .ok (.iconst (-1), 1) := by decide +kernel
theorem dX5_weight_21 : decode cX5_weight 21 = .ok (.invokevirtual 70, 3) := by decide +kernel
theorem dX5_weight_24 : decode cX5_weight 24 = .ok (.ireturn, 1) := by decide +kernel
theorem dX5_weight_25 : decode cX5_weight 25 = .ok (.iload_n 3, 1) := by decide +kernel
theorem dX5_weight_26 : decode cX5_weight 26 = .ok (.ifCond .ge 10, 3) := by decide +kernel
theorem dX5_weight_29 : decode cX5_weight 29 = .ok (.aload_n 0, 1) := by decide +kernel
theorem dX5_weight_30 : decode cX5_weight 30 = .ok (.bipush (-4), 2) := by decide +kernel
theorem dX5_weight_32 : decode cX5_weight 32 = .ok (.invokevirtual 70, 3) := by decide +kernel
theorem dX5_weight_35 : decode cX5_weight 35 = .ok (.ireturn, 1) := by decide +kernel
theorem dX5_weight_36 : decode cX5_weight 36 = .ok (.iload_n 3, 1) := by decide +kernel
theorem dX5_weight_37 : decode cX5_weight 37 = .ok (.bipush 99, 2) := by decide +kernel
theorem dX5_weight_39 : decode cX5_weight 39 = .ok (.if_icmp .le 10, 3) := by decide +kernel
theorem dX5_weight_42 : decode cX5_weight 42 = .ok (.aload_n 0, 1) := by decide +kernel
theorem dX5_weight_43 : decode cX5_weight 43 = .ok (.bipush (-6), 2) := by decide +kernel
theorem dX5_weight_45 : decode cX5_weight 45 = .ok (.invokevirtual 70, 3) := by decide +kernel
theorem dX5_weight_48 : decode cX5_weight 48 = .ok (.ireturn, 1) := by decide +kernel
theorem dX5_weight_49 : decode cX5_weight 49 = .ok (.aload_n 0, 1) := by decide +kernel
theorem dX5_weight_50 : decode cX5_weight 50 = .ok (.getfield 16, 3) := by decide +kernel
theorem dX5_weight_53 : decode cX5_weight 53 = .ok (.iconst 4, 1) := by decide +kernel
theorem dX5_weight_54 : decode cX5_weight 54 = .ok (.iload_n 1, 1) := by decide +kernel
theorem dX5_weight_55 : decode cX5_weight 55 = .ok (.imul, 1) := by decide +kernel
theorem dX5_weight_56 : decode cX5_weight 56 = .ok (.iload_n 2, 1) := by decide +kernel
theorem dX5_weight_57 : decode cX5_weight 57 = .ok (.iadd, 1) := by decide +kernel
theorem dX5_weight_58 : decode cX5_weight 58 = .ok (.iaload, 1) := by decide +kernel
theorem dX5_weight_59 : decode cX5_weight 59 = .ok (.istore 4, 2) := by decide +kernel
theorem dX5_weight_61 : decode cX5_weight 61 = .ok (.aload_n 0, 1) := by decide +kernel
theorem dX5_weight_62 : decode cX5_weight 62 = .ok (.getfield 16, 3) := by decide +kernel
theorem dX5_weight_65 : decode cX5_weight 65 = .ok (.iconst 4, 1) := by decide +kernel
theorem dX5_weight_66 : decode cX5_weight 66 = .ok (.iload_n 1, 1) := by decide +kernel
theorem dX5_weight_67 : decode cX5_weight 67 = .ok (.imul, 1) := by decide +kernel
theorem dX5_weight_68 : decode cX5_weight 68 = .ok (.iload_n 2, 1) := by decide +kernel
theorem dX5_weight_69 : decode cX5_weight 69 = .ok (.iadd, 1) := by decide +kernel
theorem dX5_weight_70 : decode cX5_weight 70 = .ok (.iload_n 3, 1) := by decide +kernel
theorem dX5_weight_71 : decode cX5_weight 71 = .ok (.iastore, 1) := by decide +kernel
theorem dX5_weight_72 : decode cX5_weight 72 = .ok (.iload 4, 2) := by decide +kernel
theorem dX5_weight_74 : decode cX5_weight 74 = .ok (.ireturn, 1) := by decide +kernel
theorem dX5_sumOf_0 : decode cX5_sumOf 0 = .ok (.iconst 0, 1) := by decide +kernel
theorem dX5_sumOf_1 : decode cX5_sumOf 1 = .ok (.istore_n 2, 1) := by decide +kernel
theorem dX5_sumOf_2 : decode cX5_sumOf 2 = .ok (.iconst 0, 1) := by decide +kernel
theorem dX5_sumOf_3 : decode cX5_sumOf 3 = .ok (.istore_n 3, 1) := by decide +kernel
theorem dX5_sumOf_4 : decode cX5_sumOf 4 = .ok (.iload_n 3, 1) := by decide +kernel
theorem dX5_sumOf_5 : decode cX5_sumOf 5 = .ok (.aload_n 0, 1) := by decide +kernel
theorem dX5_sumOf_6 : decode cX5_sumOf 6 = .ok (.getfield 7, 3) := by decide +kernel
theorem dX5_sumOf_9 : decode cX5_sumOf 9 = .ok (.iload_n 1, 1) := by decide +kernel
theorem dX5_sumOf_10 : decode cX5_sumOf 10 = .ok (.iaload, 1) := by decide +kernel
theorem dX5_sumOf_11 : decode cX5_sumOf 11 = .ok (.if_icmp .ge 22, 3) := by decide +kernel
theorem dX5_sumOf_14 : decode cX5_sumOf 14 = .ok (.iload_n 2, 1) := by decide +kernel
theorem dX5_sumOf_15 : decode cX5_sumOf 15 = .ok (.aload_n 0, 1) := by decide +kernel
theorem dX5_sumOf_16 : decode cX5_sumOf 16 = .ok (.getfield 16, 3) := by decide +kernel
theorem dX5_sumOf_19 : decode cX5_sumOf 19 = .ok (.iconst 4, 1) := by decide +kernel
theorem dX5_sumOf_20 : decode cX5_sumOf 20 = .ok (.iload_n 1, 1) := by decide +kernel
theorem dX5_sumOf_21 : decode cX5_sumOf 21 = .ok (.imul, 1) := by decide +kernel
theorem dX5_sumOf_22 : decode cX5_sumOf 22 = .ok (.iload_n 3, 1) := by decide +kernel
theorem dX5_sumOf_23 : decode cX5_sumOf 23 = .ok (.iadd, 1) := by decide +kernel
theorem dX5_sumOf_24 : decode cX5_sumOf 24 = .ok (.iaload, 1) := by decide +kernel
theorem dX5_sumOf_25 : decode cX5_sumOf 25 = .ok (.iadd, 1) := by decide +kernel
theorem dX5_sumOf_26 : decode cX5_sumOf 26 = .ok (.istore_n 2, 1) := by decide +kernel
theorem dX5_sumOf_27 : decode cX5_sumOf 27 = .ok (.iinc 3 1, 3) := by decide +kernel
theorem dX5_sumOf_30 : decode cX5_sumOf 30 = .ok (.goto (-26), 3) := by decide +kernel
theorem dX5_sumOf_33 : decode cX5_sumOf 33 = .ok (.iload_n 2, 1) := by decide +kernel
theorem dX5_sumOf_34 : decode cX5_sumOf 34 = .ok (.ireturn, 1) := by decide +kernel
theorem dX5_common_0 : decode cX5_common 0 = .ok (.lload_n 0, 1) := by decide +kernel
theorem dX5_common_1 : decode cX5_common 1 = .ok (.lconst 0, 1) := by decide +kernel
theorem dX5_common_2 : decode cX5_common 2 = .ok (.lcmp, 1) := by decide +kernel
theorem dX5_common_3 : decode cX5_common 3 = .ok (.ifCond .ge 8, 3) := by decide +kernel
theorem dX5_common_6 : decode cX5_common 6 = .ok (.lload_n 0, 1) := by decide +kernel
theorem dX5_common_7 : decode cX5_common 7 = .ok (.lneg, 1) := by decide +kernel
theorem dX5_common_8 : decode cX5_common 8 = .ok (.goto 4, 3) := by decide +kernel
theorem dX5_common_11 : decode cX5_common 11 = .ok (.lload_n 0, 1) := by decide +kernel
theorem dX5_common_12 : decode cX5_common 12 = .ok (.lstore 4, 2) := by decide +kernel
theorem dX5_common_14 : decode cX5_common 14 = .ok (.lload_n 2, 1) := by decide +kernel
theorem dX5_common_15 : decode cX5_common 15 = .ok (.lstore 6, 2) := by decide +kernel
theorem dX5_common_17 : decode cX5_common 17 = .ok (.lload 6, 2) := by decide +kernel
theorem dX5_common_19 : decode cX5_common 19 = .ok (.lconst 0, 1) := by decide +kernel
theorem dX5_common_20 : decode cX5_common 20 = .ok (.lcmp, 1) := by decide +kernel
theorem dX5_common_21 : decode cX5_common 21 = .ok (.ifCond .eq 21, 3) := by decide +kernel
theorem dX5_common_24 : decode cX5_common 24 = .ok (.lload 4, 2) := by decide +kernel
theorem dX5_common_26 : decode cX5_common 26 = .ok (.lload 6, 2) := by decide +kernel
theorem dX5_common_28 : decode cX5_common 28 = .ok (.lrem, 1) := by decide +kernel
theorem dX5_common_29 : decode cX5_common 29 = .ok (.lstore 8, 2) := by decide +kernel
theorem dX5_common_31 : decode cX5_common 31 = .ok (.lload 6, 2) := by decide +kernel
theorem dX5_common_33 : decode cX5_common 33 = .ok (.lstore 4, 2) := by decide +kernel
theorem dX5_common_35 : decode cX5_common 35 = .ok (.lload 8, 2) := by decide +kernel
theorem dX5_common_37 : decode cX5_common 37 = .ok (.lstore 6, 2) := by decide +kernel
theorem dX5_common_39 : decode cX5_common 39 = .ok (.goto (-22), 3) := by decide +kernel
theorem dX5_common_42 : decode cX5_common 42 = .ok (.lload 4, 2) := by decide +kernel
theorem dX5_common_44 : decode cX5_common 44 = .ok (.lreturn, 1) := by decide +kernel
theorem dX5_meanOf_0 : decode cX5_meanOf 0 = .ok (.lconst 0, 1) := by decide +kernel
theorem dX5_meanOf_1 : decode cX5_meanOf 1 = .ok (.lstore 6, 2) := by decide +kernel
theorem dX5_meanOf_3 : decode cX5_meanOf 3 = .ok (.iconst 0, 1) := by decide +kernel
theorem dX5_meanOf_4 : decode cX5_meanOf 4 = .ok (.istore 8, 2) := by decide +kernel
theorem dX5_meanOf_6 : decode cX5_meanOf 6 = .ok (.iload 8, 2) := by decide +kernel
theorem dX5_meanOf_8 : decode cX5_meanOf 8 = .ok (.aload_n 0, 1) := by decide +kernel
theorem dX5_meanOf_9 : decode cX5_meanOf 9 = .ok (.getfield 7, 3) := by decide +kernel
theorem dX5_meanOf_12 : decode cX5_meanOf 12 = .ok (.iconst 0, 1) := by decide +kernel
theorem dX5_meanOf_13 : decode cX5_meanOf 13 = .ok (.iaload, 1) := by decide +kernel
theorem dX5_meanOf_14 : decode cX5_meanOf 14 = .ok (.if_icmp .ge 68, 3) := by decide +kernel
theorem dX5_meanOf_17 : decode cX5_meanOf 17 = .ok (.iconst 0, 1) := by decide +kernel
theorem dX5_meanOf_18 : decode cX5_meanOf 18 = .ok (.istore 9, 2) := by decide +kernel
theorem dX5_meanOf_20 : decode cX5_meanOf 20 = .ok (.iload 9, 2) := by decide +kernel
theorem dX5_meanOf_22 : decode cX5_meanOf 22 = .ok (.aload_n 0, 1) := by decide +kernel
theorem dX5_meanOf_23 : decode cX5_meanOf 23 = .ok (.getfield 7, 3) := by decide +kernel
theorem dX5_meanOf_26 : decode cX5_meanOf 26 = .ok (.iconst 1, 1) := by decide +kernel
theorem dX5_meanOf_27 : decode cX5_meanOf 27 = .ok (.iaload, 1) := by decide +kernel
theorem dX5_meanOf_28 : decode cX5_meanOf 28 = .ok (.if_icmp .ge 48, 3) := by decide +kernel
theorem dX5_meanOf_31 : decode cX5_meanOf 31 = .ok (.lload 6, 2) := by decide +kernel
theorem dX5_meanOf_33 : decode cX5_meanOf 33 = .ok (.aload_n 2, 1) := by decide +kernel
theorem dX5_meanOf_34 : decode cX5_meanOf 34 = .ok (.iload_n 3, 1) := by decide +kernel
theorem dX5_meanOf_35 : decode cX5_meanOf 35 = .ok (.iload 8, 2) := by decide +kernel
theorem dX5_meanOf_37 : decode cX5_meanOf 37 = .ok (.iadd, 1) := by decide +kernel
theorem dX5_meanOf_38 : decode cX5_meanOf 38 = .ok (.laload, 1) := by decide +kernel
theorem dX5_meanOf_39 : decode cX5_meanOf 39 = .ok (.aload 4, 2) := by decide +kernel
theorem dX5_meanOf_41 : decode cX5_meanOf 41 = .ok (.iload 5, 2) := by decide +kernel
theorem dX5_meanOf_43 : decode cX5_meanOf 43 = .ok (.iload 9, 2) := by decide +kernel
theorem dX5_meanOf_45 : decode cX5_meanOf 45 = .ok (.iadd, 1) := by decide +kernel
theorem dX5_meanOf_46 : decode cX5_meanOf 46 = .ok (.laload, 1) := by decide +kernel
theorem dX5_meanOf_47 : decode cX5_meanOf 47 = .ok (.lmul, 1) := by decide +kernel
theorem dX5_meanOf_48 : decode cX5_meanOf 48 = .ok (.aload_n 0, 1) := by decide +kernel
theorem dX5_meanOf_49 : decode cX5_meanOf 49 = .ok (.getfield 13, 3) := by decide +kernel
theorem dX5_meanOf_52 : decode cX5_meanOf 52 = .ok (.bipush 16, 2) := by decide +kernel
theorem dX5_meanOf_54 : decode cX5_meanOf 54 = .ok (.iload_n 1, 1) := by decide +kernel
theorem dX5_meanOf_55 : decode cX5_meanOf 55 = .ok (.imul, 1) := by decide +kernel
theorem dX5_meanOf_56 : decode cX5_meanOf 56 = .ok (.iconst 4, 1) := by decide +kernel
theorem dX5_meanOf_57 : decode cX5_meanOf 57 = .ok (.iload 8, 2) := by decide +kernel
theorem dX5_meanOf_59 : decode cX5_meanOf 59 = .ok (.imul, 1) := by decide +kernel
theorem dX5_meanOf_60 : decode cX5_meanOf 60 = .ok (.iadd, 1) := by decide +kernel
theorem dX5_meanOf_61 : decode cX5_meanOf 61 = .ok (.iload 9, 2) := by decide +kernel
theorem dX5_meanOf_63 : decode cX5_meanOf 63 = .ok (.iadd, 1) := by decide +kernel
theorem dX5_meanOf_64 : decode cX5_meanOf 64 = .ok (.iaload, 1) := by decide +kernel
theorem dX5_meanOf_65 : decode cX5_meanOf 65 = .ok (.i2l, 1) := by decide +kernel
theorem dX5_meanOf_66 : decode cX5_meanOf 66 = .ok (.lmul, 1) := by decide +kernel
theorem dX5_meanOf_67 : decode cX5_meanOf 67 = .ok (.ladd, 1) := by decide +kernel
theorem dX5_meanOf_68 : decode cX5_meanOf 68 = .ok (.lstore 6, 2) := by decide +kernel
theorem dX5_meanOf_70 : decode cX5_meanOf 70 = .ok (.iinc 9 1, 3) := by decide +kernel
theorem dX5_meanOf_73 : decode cX5_meanOf 73 = .ok (.goto (-53), 3) := by decide +kernel
theorem dX5_meanOf_76 : decode cX5_meanOf 76 = .ok (.iinc 8 1, 3) := by decide +kernel
theorem dX5_meanOf_79 : decode cX5_meanOf 79 = .ok (.goto (-73), 3) := by decide +kernel
theorem dX5_meanOf_82 : decode cX5_meanOf 82 = .ok (.lload 6, 2) := by decide +kernel
theorem dX5_meanOf_84 : decode cX5_meanOf 84 = .ok (.lreturn, 1) := by decide +kernel
theorem dX5_showTray_0 : decode cX5_showTray 0 = .ok (.iconst 0, 1) := by decide +kernel
theorem dX5_showTray_1 : decode cX5_showTray 1 = .ok (.istore_n 1, 1) := by decide +kernel
theorem dX5_showTray_2 : decode cX5_showTray 2 = .ok (.iload_n 1, 1) := by decide +kernel
theorem dX5_showTray_3 : decode cX5_showTray 3 = .ok (.iconst 4, 1) := by decide +kernel
theorem dX5_showTray_4 : decode cX5_showTray 4 = .ok (.if_icmp .ge 65, 3) := by decide +kernel
theorem dX5_showTray_7 : decode cX5_showTray 7 = .ok (.aload_n 0, 1) := by decide +kernel
theorem dX5_showTray_8 : decode cX5_showTray 8 = .ok (.getfield 22, 3) := by decide +kernel
theorem dX5_showTray_11 : decode cX5_showTray 11 = .ok (.iload_n 1, 1) := by decide +kernel
theorem dX5_showTray_12 : decode cX5_showTray 12 = .ok (.iload_n 1, 1) := by decide +kernel
theorem dX5_showTray_13 : decode cX5_showTray 13 = .ok (.aload_n 0, 1) := by decide +kernel
theorem dX5_showTray_14 : decode cX5_showTray 14 = .ok (.getfield 7, 3) := by decide +kernel
theorem dX5_showTray_17 : decode cX5_showTray 17 = .ok (.iconst 0, 1) := by decide +kernel
theorem dX5_showTray_18 : decode cX5_showTray 18 = .ok (.iaload, 1) := by decide +kernel
theorem dX5_showTray_19 : decode cX5_showTray 19 = .ok (.if_icmp .ge 13, 3) := by decide +kernel
theorem dX5_showTray_22 : decode cX5_showTray 22 = .ok (.aload_n 0, 1) := by decide +kernel
theorem dX5_showTray_23 : decode cX5_showTray 23 = .ok (.getfield 16, 3) := by decide +kernel
theorem dX5_showTray_26 : decode cX5_showTray 26 = .ok (.iload_n 1, 1) := by decide +kernel
theorem dX5_showTray_27 : decode cX5_showTray 27 = .ok (.iaload, 1) := by decide +kernel
theorem dX5_showTray_28 : decode cX5_showTray 28 = .ok (.i2l, 1) := by decide +kernel
theorem dX5_showTray_29 : decode cX5_showTray 29 = .ok (.goto 4, 3) := by decide +kernel
theorem dX5_showTray_32 : decode cX5_showTray 32 = .ok (.lconst 0, 1) := by decide +kernel
theorem dX5_showTray_33 : decode cX5_showTray 33 = .ok (.lastore, 1) := by decide +kernel
theorem dX5_showTray_34 : decode cX5_showTray 34 = .ok (.aload_n 0, 1) := by decide +kernel
theorem dX5_showTray_35 : decode cX5_showTray 35 = .ok (.getfield 26, 3) := by decide +kernel
theorem dX5_showTray_38 : decode cX5_showTray 38 = .ok (.iload_n 1, 1) := by decide +kernel
theorem dX5_showTray_39 : decode cX5_showTray 39 = .ok (.iload_n 1, 1) := by decide +kernel
theorem dX5_showTray_40 : decode cX5_showTray 40 = .ok (.aload_n 0, 1) := by decide +kernel
theorem dX5_showTray_41 : decode cX5_showTray 41 = .ok (.getfield 7, 3) := by decide +kernel
theorem dX5_showTray_44 : decode cX5_showTray 44 = .ok (.iconst 1, 1) := by decide +kernel
theorem dX5_showTray_45 : decode cX5_showTray 45 = .ok (.iaload, 1) := by decide +kernel
theorem dX5_showTray_46 : decode cX5_showTray 46 = .ok (.if_icmp .ge 15, 3) := by decide +kernel
theorem dX5_showTray_49 : decode cX5_showTray 49 = .ok (.aload_n 0, 1) := by decide +kernel
theorem dX5_showTray_50 : decode cX5_showTray 50 = .ok (.getfield 16, 3) := by decide +kernel
theorem dX5_showTray_53 : decode cX5_showTray 53 = .ok (.iconst 4, 1) := by decide +kernel
theorem dX5_showTray_54 : decode cX5_showTray 54 = .ok (.iload_n 1, 1) := by decide +kernel
theorem dX5_showTray_55 : decode cX5_showTray 55 = .ok (.iadd, 1) := by decide +kernel
theorem dX5_showTray_56 : decode cX5_showTray 56 = .ok (.iaload, 1) := by decide +kernel
theorem dX5_showTray_57 : decode cX5_showTray 57 = .ok (.i2l, 1) := by decide +kernel
theorem dX5_showTray_58 : decode cX5_showTray 58 = .ok (.goto 4, 3) := by decide +kernel
theorem dX5_showTray_61 : decode cX5_showTray 61 = .ok (.lconst 0, 1) := by decide +kernel
theorem dX5_showTray_62 : decode cX5_showTray 62 = .ok (.lastore, 1) := by decide +kernel
theorem dX5_showTray_63 : decode cX5_showTray 63 = .ok (.iinc 1 1, 3) := by decide +kernel
theorem dX5_showTray_66 : decode cX5_showTray 66 = .ok (.goto (-64), 3) := by decide +kernel
theorem dX5_showTray_69 : decode cX5_showTray 69 = .ok (.return_, 1) := by decide +kernel
theorem dX5_mean_0 : decode cX5_mean 0 = .ok (.iload_n 1, 1) := by decide +kernel
theorem dX5_mean_1 : decode cX5_mean 1 = .ok (.invokestatic 62, 3) := by decide +kernel
theorem dX5_mean_4 : decode cX5_mean 4 = .ok (.ifCond .ne 9, 3) := by decide +kernel
theorem dX5_mean_7 : decode cX5_mean 7 = .ok (.aload_n 0, 1) := by decide +kernel
theorem dX5_mean_8 : decode cX5_mean 8 = .ok (.iconst (-1), 1) := by decide +kernel
theorem dX5_mean_9 : decode cX5_mean 9 = .ok (.invokevirtual 83, 3) := by decide +kernel
theorem dX5_mean_12 : decode cX5_mean 12 = .ok (.lreturn, 1) := by decide +kernel
theorem dX5_mean_13 : decode cX5_mean 13 = .ok (.iload_n 2, 1) := by decide +kernel
theorem dX5_mean_14 : decode cX5_mean 14 = .ok (.i2l, 1) := by decide +kernel
theorem dX5_mean_15 : decode cX5_mean 15 = .ok (.lconst 0, 1) := by decide +kernel
theorem dX5_mean_16 : decode cX5_mean 16 = .ok (.lconst 1, 1) := by decide +kernel
theorem dX5_mean_17 : decode cX5_mean 17 = .ok (.invokestatic 66, 3) := by decide +kernel
theorem dX5_mean_20 : decode cX5_mean 20 = .ok (.ifCond .ne 10, 3) := by decide +kernel
theorem dX5_mean_23 : decode cX5_mean 23 = .ok (.aload_n 0, 1) := by decide +kernel
theorem dX5_mean_24 : decode cX5_mean 24 = .ok (.bipush (-2), 2) := by decide +kernel
theorem dX5_mean_26 : decode cX5_mean 26 = .ok (.invokevirtual 83, 3) := by decide +kernel
theorem dX5_mean_29 : decode cX5_mean 29 = .ok (.lreturn, 1) := by decide +kernel
theorem dX5_mean_30 : decode cX5_mean 30 = .ok (.aload_n 0, 1) := by decide +kernel
theorem dX5_mean_31 : decode cX5_mean 31 = .ok (.iconst 0, 1) := by decide +kernel
theorem dX5_mean_32 : decode cX5_mean 32 = .ok (.invokevirtual 87, 3) := by decide +kernel
theorem dX5_mean_35 : decode cX5_mean 35 = .ok (.ifCond .eq 11, 3) := by decide +kernel
theorem dX5_mean_38 : decode cX5_mean 38 = .ok (.aload_n 0, 1) := by decide +kernel
theorem dX5_mean_39 : decode cX5_mean 39 = .ok (.iconst 1, 1) := by decide +kernel
theorem dX5_mean_40 : decode cX5_mean 40 = .ok (.invokevirtual 87, 3) := by decide +kernel
theorem dX5_mean_43 : decode cX5_mean 43 = .ok (.ifCond .ne 10, 3) := by decide +kernel
theorem dX5_mean_46 : decode cX5_mean 46 = .ok (.aload_n 0, 1) := by decide +kernel
theorem dX5_mean_47 : decode cX5_mean 47 = .ok (.bipush (-5), 2) := by decide +kernel
theorem dX5_mean_49 : decode cX5_mean 49 = .ok (.invokevirtual 83, 3) := by decide +kernel
theorem dX5_mean_52 : decode cX5_mean 52 = .ok (.lreturn, 1) := by decide +kernel
theorem dX5_mean_53 : decode cX5_mean 53 = .ok (.aload_n 0, 1) := by decide +kernel
theorem dX5_mean_54 : decode cX5_mean 54 = .ok (.invokevirtual 90, 3) := by decide +kernel
theorem dX5_mean_57 : decode cX5_mean 57 = .ok (.aload_n 0, 1) := by decide +kernel
theorem dX5_mean_58 : decode cX5_mean 58 = .ok (.iload_n 1, 1) := by decide +kernel
theorem dX5_mean_59 : decode cX5_mean 59 = .ok (.aload_n 0, 1) := by decide +kernel
theorem dX5_mean_60 : decode cX5_mean 60 = .ok (.getfield 22, 3) := by decide +kernel
theorem dX5_mean_63 : decode cX5_mean 63 = .ok (.iconst 0, 1) := by decide +kernel
theorem dX5_mean_64 : decode cX5_mean 64 = .ok (.aload_n 0, 1) := by decide +kernel
theorem dX5_mean_65 : decode cX5_mean 65 = .ok (.getfield 26, 3) := by decide +kernel
theorem dX5_mean_68 : decode cX5_mean 68 = .ok (.iconst 0, 1) := by decide +kernel
theorem dX5_mean_69 : decode cX5_mean 69 = .ok (.invokevirtual 93, 3) := by decide +kernel
theorem dX5_mean_72 : decode cX5_mean 72 = .ok (.lstore_n 3, 1) := by decide +kernel
theorem dX5_mean_73 : decode cX5_mean 73 = .ok (.aload_n 0, 1) := by decide +kernel
theorem dX5_mean_74 : decode cX5_mean 74 = .ok (.iconst 0, 1) := by decide +kernel
theorem dX5_mean_75 : decode cX5_mean 75 = .ok (.invokevirtual 87, 3) := by decide +kernel
theorem dX5_mean_78 : decode cX5_mean 78 = .ok (.i2l, 1) := by decide +kernel
theorem dX5_mean_79 : decode cX5_mean 79 = .ok (.aload_n 0, 1) := by decide +kernel
theorem dX5_mean_80 : decode cX5_mean 80 = .ok (.iconst 1, 1) := by decide +kernel
theorem dX5_mean_81 : decode cX5_mean 81 = .ok (.invokevirtual 87, 3) := by decide +kernel
theorem dX5_mean_84 : decode cX5_mean 84 = .ok (.i2l, 1) := by decide +kernel
theorem dX5_mean_85 : decode cX5_mean 85 = .ok (.lmul, 1) := by decide +kernel
theorem dX5_mean_86 : decode cX5_mean 86 = .ok (.lstore 5, 2) := by decide +kernel
theorem dX5_mean_88 : decode cX5_mean 88 = .ok (.lload_n 3, 1) := by decide +kernel
theorem dX5_mean_89 : decode cX5_mean 89 = .ok (.lload 5, 2) := by decide +kernel
theorem dX5_mean_91 : decode cX5_mean 91 = .ok (.invokestatic 97, 3) := by decide +kernel
theorem dX5_mean_94 : decode cX5_mean 94 = .ok (.lstore 7, 2) := by decide +kernel
theorem dX5_mean_96 : decode cX5_mean 96 = .ok (.iload_n 2, 1) := by decide +kernel
theorem dX5_mean_97 : decode cX5_mean 97 = .ok (.ifCond .ne 10, 3) := by decide +kernel
theorem dX5_mean_100 : decode cX5_mean 100 = .ok (.lload_n 3, 1) := by decide +kernel
theorem dX5_mean_101 : decode cX5_mean 101 = .ok (.lload 7, 2) := by decide +kernel
theorem dX5_mean_103 : decode cX5_mean 103 = .ok (.ldiv, 1) := by decide +kernel
theorem dX5_mean_104 : decode cX5_mean 104 = .ok (.goto 8, 3) := by decide +kernel
theorem dX5_mean_107 : decode cX5_mean 107 = .ok (.lload 5, 2) := by decide +kernel
theorem dX5_mean_109 : decode cX5_mean 109 = .ok (.lload 7, 2) := by decide +kernel
theorem dX5_mean_111 : decode cX5_mean 111 = .ok (.ldiv, 1) := by decide +kernel
theorem dX5_mean_112 : decode cX5_mean 112 = .ok (.lreturn, 1) := by decide +kernel
theorem dX5_answersTo_0 : decode cX5_answersTo 0 = .ok (.iconst 0, 1) := by decide +kernel
theorem dX5_answersTo_1 : decode cX5_answersTo 1 = .ok (.istore 4, 2) := by decide +kernel
theorem dX5_answersTo_3 : decode cX5_answersTo 3 = .ok (.lconst 0, 1) := by decide +kernel
theorem dX5_answersTo_4 : decode cX5_answersTo 4 = .ok (.lstore 5, 2) := by decide +kernel
theorem dX5_answersTo_6 : decode cX5_answersTo 6 = .ok (.iconst 0, 1) := by decide +kernel
theorem dX5_answersTo_7 : decode cX5_answersTo 7 = .ok (.istore 7, 2) := by decide +kernel
theorem dX5_answersTo_9 : decode cX5_answersTo 9 = .ok (.iload 7, 2) := by decide +kernel
theorem dX5_answersTo_11 : decode cX5_answersTo 11 = .ok (.aload_n 0, 1) := by decide +kernel
theorem dX5_answersTo_12 : decode cX5_answersTo 12 = .ok (.getfield 7, 3) := by decide +kernel
theorem dX5_answersTo_15 : decode cX5_answersTo 15 = .ok (.iload_n 1, 1) := by decide +kernel
theorem dX5_answersTo_16 : decode cX5_answersTo 16 = .ok (.iaload, 1) := by decide +kernel
theorem dX5_answersTo_17 : decode cX5_answersTo 17 = .ok (.if_icmp .ge 125, 3) := by decide +kernel
theorem dX5_answersTo_20 : decode cX5_answersTo 20 = .ok (.lconst 0, 1) := by decide +kernel
theorem dX5_answersTo_21 : decode cX5_answersTo 21 = .ok (.lstore 8, 2) := by decide +kernel
theorem dX5_answersTo_23 : decode cX5_answersTo 23 = .ok (.iconst 0, 1) := by decide +kernel
theorem dX5_answersTo_24 : decode cX5_answersTo 24 = .ok (.istore 10, 2) := by decide +kernel
theorem dX5_answersTo_26 : decode cX5_answersTo 26 = .ok (.iload 10, 2) := by decide +kernel
theorem dX5_answersTo_28 : decode cX5_answersTo 28 = .ok (.aload_n 0, 1) := by decide +kernel
theorem dX5_answersTo_29 : decode cX5_answersTo 29 = .ok (.getfield 7, 3) := by decide +kernel
theorem dX5_answersTo_32 : decode cX5_answersTo 32 = .ok (.iconst 1, 1) := by decide +kernel
theorem dX5_answersTo_33 : decode cX5_answersTo 33 = .ok (.iload_n 1, 1) := by decide +kernel
theorem dX5_answersTo_34 : decode cX5_answersTo 34 = .ok (.isub, 1) := by decide +kernel
theorem dX5_answersTo_35 : decode cX5_answersTo 35 = .ok (.iaload, 1) := by decide +kernel
theorem dX5_answersTo_36 : decode cX5_answersTo 36 = .ok (.if_icmp .ge 31, 3) := by decide +kernel
theorem dX5_answersTo_39 : decode cX5_answersTo 39 = .ok (.lload 8, 2) := by decide +kernel
theorem dX5_answersTo_41 : decode cX5_answersTo 41 = .ok (.aload_n 2, 1) := by decide +kernel
theorem dX5_answersTo_42 : decode cX5_answersTo 42 = .ok (.iload_n 3, 1) := by decide +kernel
theorem dX5_answersTo_43 : decode cX5_answersTo 43 = .ok (.iload 10, 2) := by decide +kernel
theorem dX5_answersTo_45 : decode cX5_answersTo 45 = .ok (.iadd, 1) := by decide +kernel
theorem dX5_answersTo_46 : decode cX5_answersTo 46 = .ok (.laload, 1) := by decide +kernel
theorem dX5_answersTo_47 : decode cX5_answersTo 47 = .ok (.aload_n 0, 1) := by decide +kernel
theorem dX5_answersTo_48 : decode cX5_answersTo 48 = .ok (.iload_n 1, 1) := by decide +kernel
theorem dX5_answersTo_49 : decode cX5_answersTo 49 = .ok (.iload 7, 2) := by decide +kernel
theorem dX5_answersTo_51 : decode cX5_answersTo 51 = .ok (.iload 10, 2) := by decide +kernel
theorem dX5_answersTo_53 : decode cX5_answersTo 53 = .ok (.invokevirtual 101, 3) := by decide +kernel
theorem dX5_answersTo_56 : decode cX5_answersTo 56 = .ok (.i2l, 1) := by decide +kernel
theorem dX5_answersTo_57 : decode cX5_answersTo 57 = .ok (.lmul, 1) := by decide +kernel
theorem dX5_answersTo_58 : decode cX5_answersTo 58 = .ok (.ladd, 1) := by decide +kernel
theorem dX5_answersTo_59 : decode cX5_answersTo 59 = .ok (.lstore 8, 2) := by decide +kernel
theorem dX5_answersTo_61 : decode cX5_answersTo 61 = .ok (.iinc 10 1, 3) := by decide +kernel
theorem dX5_answersTo_64 : decode cX5_answersTo 64 = .ok (.goto (-38), 3) := by decide +kernel
theorem dX5_answersTo_67 : decode cX5_answersTo 67 = .ok (.iload 7, 2) := by decide +kernel
theorem dX5_answersTo_69 : decode cX5_answersTo 69 = .ok (.ifCond .le 16, 3) := by decide +kernel
theorem dX5_answersTo_72 : decode cX5_answersTo 72 = .ok (.lload 8, 2) := by decide +kernel
theorem dX5_answersTo_74 : decode cX5_answersTo 74 = .ok (.lload 5, 2) := by decide +kernel
theorem dX5_answersTo_76 : decode cX5_answersTo 76 = .ok (.lcmp, 1) := by decide +kernel
theorem dX5_answersTo_77 : decode cX5_answersTo 77 = .ok (.ifCond .ge 8, 3) := by decide +kernel
theorem dX5_answersTo_80 : decode cX5_answersTo 80 = .ok (.iload 4, 2) := by decide +kernel
theorem dX5_answersTo_82 : decode cX5_answersTo 82 = .ok (.goto 30, 3) := by decide +kernel
theorem dX5_answersTo_85 : decode cX5_answersTo 85 = .ok (.iload 7, 2) := by decide +kernel
theorem dX5_answersTo_87 : decode cX5_answersTo 87 = .ok (.ifCond .eq 11, 3) := by decide +kernel
theorem dX5_answersTo_90 : decode cX5_answersTo 90 = .ok (.lload 8, 2) := by decide +kernel
theorem dX5_answersTo_92 : decode cX5_answersTo 92 = .ok (.lload 5, 2) := by decide +kernel
theorem dX5_answersTo_94 : decode cX5_answersTo 94 = .ok (.lcmp, 1) := by decide +kernel
theorem dX5_answersTo_95 : decode cX5_answersTo 95 = .ok (.ifCond .le 10, 3) := by decide +kernel
theorem dX5_answersTo_98 : decode cX5_answersTo 98 = .ok (.iconst 1, 1) := by decide +kernel
theorem dX5_answersTo_99 : decode cX5_answersTo 99 = .ok (.iload 7, 2) := by decide +kernel
theorem dX5_answersTo_101 : decode cX5_answersTo 101 = .ok (.ishl, 1) := by decide +kernel
theorem dX5_answersTo_102 : decode cX5_answersTo 102 = .ok (.goto 10, 3) := by decide +kernel
theorem dX5_answersTo_105 : decode cX5_answersTo 105 = .ok (.iload 4, 2) := by decide +kernel
theorem dX5_answersTo_107 : decode cX5_answersTo 107 = .ok (.iconst 1, 1) := by decide +kernel
theorem dX5_answersTo_108 : decode cX5_answersTo 108 = .ok (.iload 7, 2) := by decide +kernel
theorem dX5_answersTo_110 : decode cX5_answersTo 110 = .ok (.ishl, 1) := by decide +kernel
theorem dX5_answersTo_111 : decode cX5_answersTo 111 = .ok (.ior, 1) := by decide +kernel
theorem dX5_answersTo_112 : decode cX5_answersTo 112 = .ok (.istore 4, 2) := by decide +kernel
theorem dX5_answersTo_114 : decode cX5_answersTo 114 = .ok (.iload 7, 2) := by decide +kernel
theorem dX5_answersTo_116 : decode cX5_answersTo 116 = .ok (.ifCond .eq 11, 3) := by decide +kernel
theorem dX5_answersTo_119 : decode cX5_answersTo 119 = .ok (.lload 8, 2) := by decide +kernel
theorem dX5_answersTo_121 : decode cX5_answersTo 121 = .ok (.lload 5, 2) := by decide +kernel
theorem dX5_answersTo_123 : decode cX5_answersTo 123 = .ok (.lcmp, 1) := by decide +kernel
theorem dX5_answersTo_124 : decode cX5_answersTo 124 = .ok (.ifCond .le 8, 3) := by decide +kernel
theorem dX5_answersTo_127 : decode cX5_answersTo 127 = .ok (.lload 8, 2) := by decide +kernel
theorem dX5_answersTo_129 : decode cX5_answersTo 129 = .ok (.goto 5, 3) := by decide +kernel
theorem dX5_answersTo_132 : decode cX5_answersTo 132 = .ok (.lload 5, 2) := by decide +kernel
theorem dX5_answersTo_134 : decode cX5_answersTo 134 = .ok (.lstore 5, 2) := by decide +kernel
theorem dX5_answersTo_136 : decode cX5_answersTo 136 = .ok (.iinc 7 1, 3) := by decide +kernel
theorem dX5_answersTo_139 : decode cX5_answersTo 139 = .ok (.goto (-130), 3) := by decide +kernel
theorem dX5_answersTo_142 : decode cX5_answersTo 142 = .ok (.iload 4, 2) := by decide +kernel
theorem dX5_answersTo_144 : decode cX5_answersTo 144 = .ok (.ireturn, 1) := by decide +kernel
theorem dX5_trayAnswers_0 : decode cX5_trayAnswers 0 = .ok (.aload_n 0, 1) := by decide +kernel
theorem dX5_trayAnswers_1 : decode cX5_trayAnswers 1 = .ok (.invokevirtual 90, 3) := by decide +kernel
theorem dX5_trayAnswers_4 : decode cX5_trayAnswers 4 = .ok (.iload_n 1, 1) := by decide +kernel
theorem dX5_trayAnswers_5 : decode cX5_trayAnswers 5 = .ok (.ifCond .ne 16, 3) := by decide +kernel
theorem dX5_trayAnswers_8 : decode cX5_trayAnswers 8 = .ok (.aload_n 0, 1) := by decide +kernel
theorem dX5_trayAnswers_9 : decode cX5_trayAnswers 9 = .ok (.iconst 0, 1) := by decide +kernel
theorem dX5_trayAnswers_10 : decode cX5_trayAnswers 10 = .ok (.aload_n 0, 1) := by decide +kernel
theorem dX5_trayAnswers_11 : decode cX5_trayAnswers 11 = .ok (.getfield 26, 3) := by decide +kernel
theorem dX5_trayAnswers_14 : decode cX5_trayAnswers 14 = .ok (.iconst 0, 1) := by decide +kernel
theorem dX5_trayAnswers_15 : decode cX5_trayAnswers 15 = .ok (.invokevirtual 105, 3) := by decide +kernel
theorem dX5_trayAnswers_18 : decode cX5_trayAnswers 18 = .ok (.goto 13, 3) := by decide +kernel
theorem dX5_trayAnswers_21 : decode cX5_trayAnswers 21 = .ok (.aload_n 0, 1) := by decide +kernel
theorem dX5_trayAnswers_22 : decode cX5_trayAnswers 22 = .ok (.iconst 1, 1) := by decide +kernel
theorem dX5_trayAnswers_23 : decode cX5_trayAnswers 23 = .ok (.aload_n 0, 1) := by decide +kernel
theorem dX5_trayAnswers_24 : decode cX5_trayAnswers 24 = .ok (.getfield 22, 3) := by decide +kernel
theorem dX5_trayAnswers_27 : decode cX5_trayAnswers 27 = .ok (.iconst 0, 1) := by decide +kernel
theorem dX5_trayAnswers_28 : decode cX5_trayAnswers 28 = .ok (.invokevirtual 105, 3) := by decide +kernel
theorem dX5_trayAnswers_31 : decode cX5_trayAnswers 31 = .ok (.ireturn, 1) := by decide +kernel
theorem dX5_answers_0 : decode cX5_answers 0 = .ok (.iload_n 1, 1) := by decide +kernel
theorem dX5_answers_1 : decode cX5_answers 1 = .ok (.invokestatic 62, 3) := by decide +kernel
theorem dX5_answers_4 : decode cX5_answers 4 = .ok (.ifCond .ne 9, 3) := by decide +kernel
theorem dX5_answers_7 : decode cX5_answers 7 = .ok (.aload_n 0, 1) := by decide +kernel
theorem dX5_answers_8 : decode cX5_answers 8 = .ok (.iconst (-1), 1) := by decide +kernel
theorem dX5_answers_9 : decode cX5_answers 9 = .ok (.invokevirtual 70, 3) := by decide +kernel
theorem dX5_answers_12 : decode cX5_answers 12 = .ok (.ireturn, 1) := by decide +kernel
theorem dX5_answers_13 : decode cX5_answers 13 = .ok (.aload_n 0, 1) := by decide +kernel
theorem dX5_answers_14 : decode cX5_answers 14 = .ok (.iconst 1, 1) := by decide +kernel
theorem dX5_answers_15 : decode cX5_answers 15 = .ok (.iload_n 1, 1) := by decide +kernel
theorem dX5_answers_16 : decode cX5_answers 16 = .ok (.isub, 1) := by decide +kernel
theorem dX5_answers_17 : decode cX5_answers 17 = .ok (.invokevirtual 87, 3) := by decide +kernel
theorem dX5_answers_20 : decode cX5_answers 20 = .ok (.ifCond .ne 12, 3) := by decide +kernel
theorem dX5_answers_23 : decode cX5_answers 23 = .ok (.aload_n 0, 1) := by decide +kernel
theorem dX5_answers_24 : decode cX5_answers 24 = .ok (.bipush (-5), 2) := by decide +kernel
theorem dX5_answers_26 : decode cX5_answers 26 = .ok (.invokevirtual 70, 3) := by decide +kernel
theorem dX5_answers_29 : decode cX5_answers 29 = .ok (.goto 8, 3) := by decide +kernel
theorem dX5_answers_32 : decode cX5_answers 32 = .ok (.aload_n 0, 1) := by decide +kernel
theorem dX5_answers_33 : decode cX5_answers 33 = .ok (.iload_n 1, 1) := by decide +kernel
theorem dX5_answers_34 : decode cX5_answers 34 = .ok (.invokevirtual 109, 3) := by decide +kernel
theorem dX5_answers_37 : decode cX5_answers 37 = .ok (.ireturn, 1) := by decide +kernel
theorem dX5_whyNot_0 : decode cX5_whyNot 0 = .ok (.iconst 0, 1) := by decide +kernel
theorem dX5_whyNot_1 : decode cX5_whyNot 1 = .ok (.istore_n 1, 1) := by decide +kernel
theorem dX5_whyNot_2 : decode cX5_whyNot 2 = .ok (.iload_n 1, 1) := by decide +kernel
theorem dX5_whyNot_3 : decode cX5_whyNot 3 = .ok (.iconst 2, 1) := by decide +kernel
theorem dX5_whyNot_4 : decode cX5_whyNot 4 = .ok (.if_icmp .ge 61, 3) := by decide +kernel
theorem dX5_whyNot_7 : decode cX5_whyNot 7 = .ok (.aload_n 0, 1) := by decide +kernel
theorem dX5_whyNot_8 : decode cX5_whyNot 8 = .ok (.iload_n 1, 1) := by decide +kernel
theorem dX5_whyNot_9 : decode cX5_whyNot 9 = .ok (.invokevirtual 109, 3) := by decide +kernel
theorem dX5_whyNot_12 : decode cX5_whyNot 12 = .ok (.istore_n 2, 1) := by decide +kernel
theorem dX5_whyNot_13 : decode cX5_whyNot 13 = .ok (.iconst 0, 1) := by decide +kernel
theorem dX5_whyNot_14 : decode cX5_whyNot 14 = .ok (.istore_n 3, 1) := by decide +kernel
theorem dX5_whyNot_15 : decode cX5_whyNot 15 = .ok (.iload_n 3, 1) := by decide +kernel
theorem dX5_whyNot_16 : decode cX5_whyNot 16 = .ok (.aload_n 0, 1) := by decide +kernel
theorem dX5_whyNot_17 : decode cX5_whyNot 17 = .ok (.getfield 7, 3) := by decide +kernel
theorem dX5_whyNot_20 : decode cX5_whyNot 20 = .ok (.iload_n 1, 1) := by decide +kernel
theorem dX5_whyNot_21 : decode cX5_whyNot 21 = .ok (.iaload, 1) := by decide +kernel
theorem dX5_whyNot_22 : decode cX5_whyNot 22 = .ok (.if_icmp .ge 37, 3) := by decide +kernel
theorem dX5_whyNot_25 : decode cX5_whyNot 25 = .ok (.aload_n 0, 1) := by decide +kernel
theorem dX5_whyNot_26 : decode cX5_whyNot 26 = .ok (.getfield 16, 3) := by decide +kernel
theorem dX5_whyNot_29 : decode cX5_whyNot 29 = .ok (.iconst 4, 1) := by decide +kernel
theorem dX5_whyNot_30 : decode cX5_whyNot 30 = .ok (.iload_n 1, 1) := by decide +kernel
theorem dX5_whyNot_31 : decode cX5_whyNot 31 = .ok (.imul, 1) := by decide +kernel
theorem dX5_whyNot_32 : decode cX5_whyNot 32 = .ok (.iload_n 3, 1) := by decide +kernel
theorem dX5_whyNot_33 : decode cX5_whyNot 33 = .ok (.iadd, 1) := by decide +kernel
theorem dX5_whyNot_34 : decode cX5_whyNot 34 = .ok (.iaload, 1) := by decide +kernel
theorem dX5_whyNot_35 : decode cX5_whyNot 35 = .ok (.ifCond .le 18, 3) := by decide +kernel
theorem dX5_whyNot_38 : decode cX5_whyNot 38 = .ok (.iload_n 2, 1) := by decide +kernel
theorem dX5_whyNot_39 : decode cX5_whyNot 39 = .ok (.iload_n 3, 1) := by decide +kernel
theorem dX5_whyNot_40 : decode cX5_whyNot 40 = .ok (.ishr, 1) := by decide +kernel
theorem dX5_whyNot_41 : decode cX5_whyNot 41 = .ok (.iconst 1, 1) := by decide +kernel
theorem dX5_whyNot_42 : decode cX5_whyNot 42 = .ok (.iand, 1) := by decide +kernel
theorem dX5_whyNot_43 : decode cX5_whyNot 43 = .ok (.ifCond .ne 10, 3) := by decide +kernel
theorem dX5_whyNot_46 : decode cX5_whyNot 46 = .ok (.bipush 10, 2) := by decide +kernel
theorem dX5_whyNot_48 : decode cX5_whyNot 48 = .ok (.iload_n 1, 1) := by decide +kernel
theorem dX5_whyNot_49 : decode cX5_whyNot 49 = .ok (.imul, 1) := by decide +kernel
theorem dX5_whyNot_50 : decode cX5_whyNot 50 = .ok (.iload_n 3, 1) := by decide +kernel
theorem dX5_whyNot_51 : decode cX5_whyNot 51 = .ok (.iadd, 1) := by decide +kernel
theorem dX5_whyNot_52 : decode cX5_whyNot 52 = .ok (.ireturn, 1) := by decide +kernel
theorem dX5_whyNot_53 : decode cX5_whyNot 53 = .ok (.iinc 3 1, 3) := by decide +kernel
theorem dX5_whyNot_56 : decode cX5_whyNot 56 = .ok (.goto (-41), 3) := by decide +kernel
theorem dX5_whyNot_59 : decode cX5_whyNot 59 = .ok (.iinc 1 1, 3) := by decide +kernel
theorem dX5_whyNot_62 : decode cX5_whyNot 62 = .ok (.goto (-60), 3) := by decide +kernel
theorem dX5_whyNot_65 : decode cX5_whyNot 65 = .ok (.bipush (-9), 2) := by decide +kernel
theorem dX5_whyNot_67 : decode cX5_whyNot 67 = .ok (.ireturn, 1) := by decide +kernel
theorem dX5_is_0 : decode cX5_is 0 = .ok (.aload_n 0, 1) := by decide +kernel
theorem dX5_is_1 : decode cX5_is 1 = .ok (.iconst 0, 1) := by decide +kernel
theorem dX5_is_2 : decode cX5_is 2 = .ok (.invokevirtual 87, 3) := by decide +kernel
theorem dX5_is_5 : decode cX5_is 5 = .ok (.ifCond .eq 11, 3) := by decide +kernel
theorem dX5_is_8 : decode cX5_is 8 = .ok (.aload_n 0, 1) := by decide +kernel
theorem dX5_is_9 : decode cX5_is 9 = .ok (.iconst 1, 1) := by decide +kernel
theorem dX5_is_10 : decode cX5_is 10 = .ok (.invokevirtual 87, 3) := by decide +kernel
theorem dX5_is_13 : decode cX5_is 13 = .ok (.ifCond .ne 10, 3) := by decide +kernel
theorem dX5_is_16 : decode cX5_is 16 = .ok (.aload_n 0, 1) := by decide +kernel
theorem dX5_is_17 : decode cX5_is 17 = .ok (.bipush (-5), 2) := by decide +kernel
theorem dX5_is_19 : decode cX5_is 19 = .ok (.invokevirtual 70, 3) := by decide +kernel
theorem dX5_is_22 : decode cX5_is 22 = .ok (.ireturn, 1) := by decide +kernel
theorem dX5_is_23 : decode cX5_is 23 = .ok (.aload_n 0, 1) := by decide +kernel
theorem dX5_is_24 : decode cX5_is 24 = .ok (.invokevirtual 112, 3) := by decide +kernel
theorem dX5_is_27 : decode cX5_is 27 = .ok (.bipush (-9), 2) := by decide +kernel
theorem dX5_is_29 : decode cX5_is 29 = .ok (.if_icmp .ne 7, 3) := by decide +kernel
theorem dX5_is_32 : decode cX5_is 32 = .ok (.iconst 1, 1) := by decide +kernel
theorem dX5_is_33 : decode cX5_is 33 = .ok (.goto 4, 3) := by decide +kernel
theorem dX5_is_36 : decode cX5_is 36 = .ok (.iconst 0, 1) := by decide +kernel
theorem dX5_is_37 : decode cX5_is 37 = .ok (.ireturn, 1) := by decide +kernel
theorem dX5_why_0 : decode cX5_why 0 = .ok (.aload_n 0, 1) := by decide +kernel
theorem dX5_why_1 : decode cX5_why 1 = .ok (.iconst 0, 1) := by decide +kernel
theorem dX5_why_2 : decode cX5_why 2 = .ok (.invokevirtual 87, 3) := by decide +kernel
theorem dX5_why_5 : decode cX5_why 5 = .ok (.ifCond .eq 11, 3) := by decide +kernel
theorem dX5_why_8 : decode cX5_why 8 = .ok (.aload_n 0, 1) := by decide +kernel
theorem dX5_why_9 : decode cX5_why 9 = .ok (.iconst 1, 1) := by decide +kernel
theorem dX5_why_10 : decode cX5_why 10 = .ok (.invokevirtual 87, 3) := by decide +kernel
theorem dX5_why_13 : decode cX5_why 13 = .ok (.ifCond .ne 8, 3) := by decide +kernel
theorem dX5_why_16 : decode cX5_why 16 = .ok (.bipush (-9), 2) := by decide +kernel
theorem dX5_why_18 : decode cX5_why 18 = .ok (.goto 7, 3) := by decide +kernel
theorem dX5_why_21 : decode cX5_why 21 = .ok (.aload_n 0, 1) := by decide +kernel
theorem dX5_why_22 : decode cX5_why 22 = .ok (.invokevirtual 112, 3) := by decide +kernel
theorem dX5_why_25 : decode cX5_why 25 = .ok (.ireturn, 1) := by decide +kernel
theorem dX5_worseBy_0 : decode cX5_worseBy 0 = .ok (.iconst 0, 1) := by decide +kernel
theorem dX5_worseBy_1 : decode cX5_worseBy 1 = .ok (.istore 5, 2) := by decide +kernel
theorem dX5_worseBy_3 : decode cX5_worseBy 3 = .ok (.iload 5, 2) := by decide +kernel
theorem dX5_worseBy_5 : decode cX5_worseBy 5 = .ok (.aload_n 0, 1) := by decide +kernel
theorem dX5_worseBy_6 : decode cX5_worseBy 6 = .ok (.getfield 7, 3) := by decide +kernel
theorem dX5_worseBy_9 : decode cX5_worseBy 9 = .ok (.iload_n 1, 1) := by decide +kernel
theorem dX5_worseBy_10 : decode cX5_worseBy 10 = .ok (.iaload, 1) := by decide +kernel
theorem dX5_worseBy_11 : decode cX5_worseBy 11 = .ok (.if_icmp .ge 98, 3) := by decide +kernel
theorem dX5_worseBy_14 : decode cX5_worseBy 14 = .ok (.iload_n 3, 1) := by decide +kernel
theorem dX5_worseBy_15 : decode cX5_worseBy 15 = .ok (.iload 5, 2) := by decide +kernel
theorem dX5_worseBy_17 : decode cX5_worseBy 17 = .ok (.ishr, 1) := by decide +kernel
theorem dX5_worseBy_18 : decode cX5_worseBy 18 = .ok (.iconst 1, 1) := by decide +kernel
theorem dX5_worseBy_19 : decode cX5_worseBy 19 = .ok (.iand, 1) := by decide +kernel
theorem dX5_worseBy_20 : decode cX5_worseBy 20 = .ok (.iconst 1, 1) := by decide +kernel
theorem dX5_worseBy_21 : decode cX5_worseBy 21 = .ok (.if_icmp .ne 7, 3) := by decide +kernel
theorem dX5_worseBy_24 : decode cX5_worseBy 24 = .ok (.iconst 1, 1) := by decide +kernel
theorem dX5_worseBy_25 : decode cX5_worseBy 25 = .ok (.goto 4, 3) := by decide +kernel
theorem dX5_worseBy_28 : decode cX5_worseBy 28 = .ok (.iconst 0, 1) := by decide +kernel
theorem dX5_worseBy_29 : decode cX5_worseBy 29 = .ok (.istore 6, 2) := by decide +kernel
theorem dX5_worseBy_31 : decode cX5_worseBy 31 = .ok (.iconst 0, 1) := by decide +kernel
theorem dX5_worseBy_32 : decode cX5_worseBy 32 = .ok (.istore 7, 2) := by decide +kernel
theorem dX5_worseBy_34 : decode cX5_worseBy 34 = .ok (.iload 7, 2) := by decide +kernel
theorem dX5_worseBy_36 : decode cX5_worseBy 36 = .ok (.aload_n 0, 1) := by decide +kernel
theorem dX5_worseBy_37 : decode cX5_worseBy 37 = .ok (.getfield 7, 3) := by decide +kernel
theorem dX5_worseBy_40 : decode cX5_worseBy 40 = .ok (.iconst 1, 1) := by decide +kernel
theorem dX5_worseBy_41 : decode cX5_worseBy 41 = .ok (.iload_n 1, 1) := by decide +kernel
theorem dX5_worseBy_42 : decode cX5_worseBy 42 = .ok (.isub, 1) := by decide +kernel
theorem dX5_worseBy_43 : decode cX5_worseBy 43 = .ok (.iaload, 1) := by decide +kernel
theorem dX5_worseBy_44 : decode cX5_worseBy 44 = .ok (.if_icmp .ge 51, 3) := by decide +kernel
theorem dX5_worseBy_47 : decode cX5_worseBy 47 = .ok (.iload 6, 2) := by decide +kernel
theorem dX5_worseBy_49 : decode cX5_worseBy 49 = .ok (.ifCond .eq 37, 3) := by decide +kernel
theorem dX5_worseBy_52 : decode cX5_worseBy 52 = .ok (.iload 4, 2) := by decide +kernel
theorem dX5_worseBy_54 : decode cX5_worseBy 54 = .ok (.iload 7, 2) := by decide +kernel
theorem dX5_worseBy_56 : decode cX5_worseBy 56 = .ok (.ishr, 1) := by decide +kernel
theorem dX5_worseBy_57 : decode cX5_worseBy 57 = .ok (.iconst 1, 1) := by decide +kernel
theorem dX5_worseBy_58 : decode cX5_worseBy 58 = .ok (.iand, 1) := by decide +kernel
theorem dX5_worseBy_59 : decode cX5_worseBy 59 = .ok (.ifCond .eq 23, 3) := by decide +kernel
theorem dX5_worseBy_62 : decode cX5_worseBy 62 = .ok (.aload_n 0, 1) := by decide +kernel
theorem dX5_worseBy_63 : decode cX5_worseBy 63 = .ok (.iload_n 1, 1) := by decide +kernel
theorem dX5_worseBy_64 : decode cX5_worseBy 64 = .ok (.iload 5, 2) := by decide +kernel
theorem dX5_worseBy_66 : decode cX5_worseBy 66 = .ok (.iload 7, 2) := by decide +kernel
theorem dX5_worseBy_68 : decode cX5_worseBy 68 = .ok (.invokevirtual 101, 3) := by decide +kernel
theorem dX5_worseBy_71 : decode cX5_worseBy 71 = .ok (.aload_n 0, 1) := by decide +kernel
theorem dX5_worseBy_72 : decode cX5_worseBy 72 = .ok (.iload_n 1, 1) := by decide +kernel
theorem dX5_worseBy_73 : decode cX5_worseBy 73 = .ok (.iload_n 2, 1) := by decide +kernel
theorem dX5_worseBy_74 : decode cX5_worseBy 74 = .ok (.iload 7, 2) := by decide +kernel
theorem dX5_worseBy_76 : decode cX5_worseBy 76 = .ok (.invokevirtual 101, 3) := by decide +kernel
theorem dX5_worseBy_79 : decode cX5_worseBy 79 = .ok (.if_icmp .le 7, 3) := by decide +kernel
theorem dX5_worseBy_82 : decode cX5_worseBy 82 = .ok (.iconst 1, 1) := by decide +kernel
theorem dX5_worseBy_83 : decode cX5_worseBy 83 = .ok (.goto 4, 3) := by decide +kernel
theorem dX5_worseBy_86 : decode cX5_worseBy 86 = .ok (.iconst 0, 1) := by decide +kernel
theorem dX5_worseBy_87 : decode cX5_worseBy 87 = .ok (.istore 6, 2) := by decide +kernel
theorem dX5_worseBy_89 : decode cX5_worseBy 89 = .ok (.iinc 7 1, 3) := by decide +kernel
theorem dX5_worseBy_92 : decode cX5_worseBy 92 = .ok (.goto (-58), 3) := by decide +kernel
theorem dX5_worseBy_95 : decode cX5_worseBy 95 = .ok (.iload 6, 2) := by decide +kernel
theorem dX5_worseBy_97 : decode cX5_worseBy 97 = .ok (.ifCond .eq 6, 3) := by decide +kernel
theorem dX5_worseBy_100 : decode cX5_worseBy 100 = .ok (.iload 5, 2) := by decide +kernel
theorem dX5_worseBy_102 : decode cX5_worseBy 102 = .ok (.ireturn, 1) := by decide +kernel
theorem dX5_worseBy_103 : decode cX5_worseBy 103 = .ok (.iinc 5 1, 3) := by decide +kernel
theorem dX5_worseBy_106 : decode cX5_worseBy 106 = .ok (.goto (-103), 3) := by decide +kernel
theorem dX5_worseBy_109 : decode cX5_worseBy 109 = .ok (.bipush (-9), 2) := by decide +kernel
theorem dX5_worseBy_111 : decode cX5_worseBy 111 = .ok (.ireturn, 1) := by decide +kernel
theorem dX5_worse_0 : decode cX5_worse 0 = .ok (.aload_n 0, 1) := by decide +kernel
theorem dX5_worse_1 : decode cX5_worse 1 = .ok (.iload_n 1, 1) := by decide +kernel
theorem dX5_worse_2 : decode cX5_worse 2 = .ok (.iload_n 2, 1) := by decide +kernel
theorem dX5_worse_3 : decode cX5_worse 3 = .ok (.invokevirtual 74, 3) := by decide +kernel
theorem dX5_worse_6 : decode cX5_worse 6 = .ok (.ifCond .eq 16, 3) := by decide +kernel
theorem dX5_worse_9 : decode cX5_worse 9 = .ok (.aload_n 0, 1) := by decide +kernel
theorem dX5_worse_10 : decode cX5_worse 10 = .ok (.iload_n 1, 1) := by decide +kernel
theorem dX5_worse_11 : decode cX5_worse 11 = .ok (.iload_n 2, 1) := by decide +kernel
theorem dX5_worse_12 : decode cX5_worse 12 = .ok (.bipush 15, 2) := by decide +kernel
theorem dX5_worse_14 : decode cX5_worse 14 = .ok (.bipush 15, 2) := by decide +kernel
theorem dX5_worse_16 : decode cX5_worse 16 = .ok (.invokevirtual 116, 3) := by decide +kernel
theorem dX5_worse_19 : decode cX5_worse 19 = .ok (.goto 8, 3) := by decide +kernel
theorem dX5_worse_22 : decode cX5_worse 22 = .ok (.aload_n 0, 1) := by decide +kernel
theorem dX5_worse_23 : decode cX5_worse 23 = .ok (.iconst (-1), 1) := by decide +kernel
theorem dX5_worse_24 : decode cX5_worse 24 = .ok (.invokevirtual 70, 3) := by decide +kernel
theorem dX5_worse_27 : decode cX5_worse 27 = .ok (.ireturn, 1) := by decide +kernel
theorem dX5_drop_0 : decode cX5_drop 0 = .ok (.aload_n 0, 1) := by decide +kernel
theorem dX5_drop_1 : decode cX5_drop 1 = .ok (.iconst 1, 1) := by decide +kernel
theorem dX5_drop_2 : decode cX5_drop 2 = .ok (.aload_n 0, 1) := by decide +kernel
theorem dX5_drop_3 : decode cX5_drop 3 = .ok (.getfield 7, 3) := by decide +kernel
theorem dX5_drop_6 : decode cX5_drop 6 = .ok (.iconst 0, 1) := by decide +kernel
theorem dX5_drop_7 : decode cX5_drop 7 = .ok (.iaload, 1) := by decide +kernel
theorem dX5_drop_8 : decode cX5_drop 8 = .ok (.ishl, 1) := by decide +kernel
theorem dX5_drop_9 : decode cX5_drop 9 = .ok (.iconst 1, 1) := by decide +kernel
theorem dX5_drop_10 : decode cX5_drop 10 = .ok (.isub, 1) := by decide +kernel
theorem dX5_drop_11 : decode cX5_drop 11 = .ok (.putfield 120, 3) := by decide +kernel
theorem dX5_drop_14 : decode cX5_drop 14 = .ok (.aload_n 0, 1) := by decide +kernel
theorem dX5_drop_15 : decode cX5_drop 15 = .ok (.iconst 1, 1) := by decide +kernel
theorem dX5_drop_16 : decode cX5_drop 16 = .ok (.aload_n 0, 1) := by decide +kernel
theorem dX5_drop_17 : decode cX5_drop 17 = .ok (.getfield 7, 3) := by decide +kernel
theorem dX5_drop_20 : decode cX5_drop 20 = .ok (.iconst 1, 1) := by decide +kernel
theorem dX5_drop_21 : decode cX5_drop 21 = .ok (.iaload, 1) := by decide +kernel
theorem dX5_drop_22 : decode cX5_drop 22 = .ok (.ishl, 1) := by decide +kernel
theorem dX5_drop_23 : decode cX5_drop 23 = .ok (.iconst 1, 1) := by decide +kernel
theorem dX5_drop_24 : decode cX5_drop 24 = .ok (.isub, 1) := by decide +kernel
theorem dX5_drop_25 : decode cX5_drop 25 = .ok (.putfield 124, 3) := by decide +kernel
theorem dX5_drop_28 : decode cX5_drop 28 = .ok (.aload_n 0, 1) := by decide +kernel
theorem dX5_drop_29 : decode cX5_drop 29 = .ok (.iconst 0, 1) := by decide +kernel
theorem dX5_drop_30 : decode cX5_drop 30 = .ok (.putfield 127, 3) := by decide +kernel
theorem dX5_drop_33 : decode cX5_drop 33 = .ok (.iconst 1, 1) := by decide +kernel
theorem dX5_drop_34 : decode cX5_drop 34 = .ok (.istore_n 1, 1) := by decide +kernel
theorem dX5_drop_35 : decode cX5_drop 35 = .ok (.iload_n 1, 1) := by decide +kernel
theorem dX5_drop_36 : decode cX5_drop 36 = .ok (.ifCond .eq 189, 3) := by decide +kernel
theorem dX5_drop_39 : decode cX5_drop 39 = .ok (.aload_n 0, 1) := by decide +kernel
theorem dX5_drop_40 : decode cX5_drop 40 = .ok (.getfield 120, 3) := by decide +kernel
theorem dX5_drop_43 : decode cX5_drop 43 = .ok (.istore_n 2, 1) := by decide +kernel
theorem dX5_drop_44 : decode cX5_drop 44 = .ok (.aload_n 0, 1) := by decide +kernel
theorem dX5_drop_45 : decode cX5_drop 45 = .ok (.getfield 124, 3) := by decide +kernel
theorem dX5_drop_48 : decode cX5_drop 48 = .ok (.istore_n 3, 1) := by decide +kernel
theorem dX5_drop_49 : decode cX5_drop 49 = .ok (.iconst 0, 1) := by decide +kernel
theorem dX5_drop_50 : decode cX5_drop 50 = .ok (.istore 4, 2) := by decide +kernel
theorem dX5_drop_52 : decode cX5_drop 52 = .ok (.iload 4, 2) := by decide +kernel
theorem dX5_drop_54 : decode cX5_drop 54 = .ok (.iconst 4, 1) := by decide +kernel
theorem dX5_drop_55 : decode cX5_drop 55 = .ok (.if_icmp .ge 117, 3) := by decide +kernel
theorem dX5_drop_58 : decode cX5_drop 58 = .ok (.aload_n 0, 1) := by decide +kernel
theorem dX5_drop_59 : decode cX5_drop 59 = .ok (.getfield 120, 3) := by decide +kernel
theorem dX5_drop_62 : decode cX5_drop 62 = .ok (.iload 4, 2) := by decide +kernel
theorem dX5_drop_64 : decode cX5_drop 64 = .ok (.ishr, 1) := by decide +kernel
theorem dX5_drop_65 : decode cX5_drop 65 = .ok (.iconst 1, 1) := by decide +kernel
theorem dX5_drop_66 : decode cX5_drop 66 = .ok (.iand, 1) := by decide +kernel
theorem dX5_drop_67 : decode cX5_drop 67 = .ok (.iconst 1, 1) := by decide +kernel
theorem dX5_drop_68 : decode cX5_drop 68 = .ok (.if_icmp .ne 25, 3) := by decide +kernel
theorem dX5_drop_71 : decode cX5_drop 71 = .ok (.aload_n 0, 1) := by decide +kernel
theorem dX5_drop_72 : decode cX5_drop 72 = .ok (.iconst 0, 1) := by decide +kernel
theorem dX5_drop_73 : decode cX5_drop 73 = .ok (.iload 4, 2) := by decide +kernel
theorem dX5_drop_75 : decode cX5_drop 75 = .ok (.aload_n 0, 1) := by decide +kernel
theorem dX5_drop_76 : decode cX5_drop 76 = .ok (.getfield 120, 3) := by decide +kernel
theorem dX5_drop_79 : decode cX5_drop 79 = .ok (.aload_n 0, 1) := by decide +kernel
theorem dX5_drop_80 : decode cX5_drop 80 = .ok (.getfield 124, 3) := by decide +kernel
theorem dX5_drop_83 : decode cX5_drop 83 = .ok (.invokevirtual 116, 3) := by decide +kernel
theorem dX5_drop_86 : decode cX5_drop 86 = .ok (.ifCond .lt 7, 3) := by decide +kernel
theorem dX5_drop_89 : decode cX5_drop 89 = .ok (.iconst 1, 1) := by decide +kernel
theorem dX5_drop_90 : decode cX5_drop 90 = .ok (.goto 4, 3) := by decide +kernel
theorem dX5_drop_93 : decode cX5_drop 93 = .ok (.iconst 0, 1) := by decide +kernel
theorem dX5_drop_94 : decode cX5_drop 94 = .ok (.istore 5, 2) := by decide +kernel
theorem dX5_drop_96 : decode cX5_drop 96 = .ok (.iload_n 2, 1) := by decide +kernel
theorem dX5_drop_97 : decode cX5_drop 97 = .ok (.iload 5, 2) := by decide +kernel
theorem dX5_drop_99 : decode cX5_drop 99 = .ok (.ifCond .eq 10, 3) := by decide +kernel
theorem dX5_drop_102 : decode cX5_drop 102 = .ok (.iconst 1, 1) := by decide +kernel
theorem dX5_drop_103 : decode cX5_drop 103 = .ok (.iload 4, 2) := by decide +kernel
theorem dX5_drop_105 : decode cX5_drop 105 = .ok (.ishl, 1) := by decide +kernel
theorem dX5_drop_106 : decode cX5_drop 106 = .ok (.goto 4, 3) := by decide +kernel
theorem dX5_drop_109 : decode cX5_drop 109 = .ok (.iconst 0, 1) := by decide +kernel
theorem dX5_drop_110 : decode cX5_drop 110 = .ok (.isub, 1) := by decide +kernel
theorem dX5_drop_111 : decode cX5_drop 111 = .ok (.istore_n 2, 1) := by decide +kernel
theorem dX5_drop_112 : decode cX5_drop 112 = .ok (.aload_n 0, 1) := by decide +kernel
theorem dX5_drop_113 : decode cX5_drop 113 = .ok (.getfield 124, 3) := by decide +kernel
theorem dX5_drop_116 : decode cX5_drop 116 = .ok (.iload 4, 2) := by decide +kernel
theorem dX5_drop_118 : decode cX5_drop 118 = .ok (.ishr, 1) := by decide +kernel
theorem dX5_drop_119 : decode cX5_drop 119 = .ok (.iconst 1, 1) := by decide +kernel
theorem dX5_drop_120 : decode cX5_drop 120 = .ok (.iand, 1) := by decide +kernel
theorem dX5_drop_121 : decode cX5_drop 121 = .ok (.iconst 1, 1) := by decide +kernel
theorem dX5_drop_122 : decode cX5_drop 122 = .ok (.if_icmp .ne 25, 3) := by decide +kernel
theorem dX5_drop_125 : decode cX5_drop 125 = .ok (.aload_n 0, 1) := by decide +kernel
theorem dX5_drop_126 : decode cX5_drop 126 = .ok (.iconst 1, 1) := by decide +kernel
theorem dX5_drop_127 : decode cX5_drop 127 = .ok (.iload 4, 2) := by decide +kernel
theorem dX5_drop_129 : decode cX5_drop 129 = .ok (.aload_n 0, 1) := by decide +kernel
theorem dX5_drop_130 : decode cX5_drop 130 = .ok (.getfield 124, 3) := by decide +kernel
theorem dX5_drop_133 : decode cX5_drop 133 = .ok (.aload_n 0, 1) := by decide +kernel
theorem dX5_drop_134 : decode cX5_drop 134 = .ok (.getfield 120, 3) := by decide +kernel
theorem dX5_drop_137 : decode cX5_drop 137 = .ok (.invokevirtual 116, 3) := by decide +kernel
theorem dX5_drop_140 : decode cX5_drop 140 = .ok (.ifCond .lt 7, 3) := by decide +kernel
theorem dX5_drop_143 : decode cX5_drop 143 = .ok (.iconst 1, 1) := by decide +kernel
theorem dX5_drop_144 : decode cX5_drop 144 = .ok (.goto 4, 3) := by decide +kernel
theorem dX5_drop_147 : decode cX5_drop 147 = .ok (.iconst 0, 1) := by decide +kernel
theorem dX5_drop_148 : decode cX5_drop 148 = .ok (.istore 5, 2) := by decide +kernel
theorem dX5_drop_150 : decode cX5_drop 150 = .ok (.iload_n 3, 1) := by decide +kernel
theorem dX5_drop_151 : decode cX5_drop 151 = .ok (.iload 5, 2) := by decide +kernel
theorem dX5_drop_153 : decode cX5_drop 153 = .ok (.ifCond .eq 10, 3) := by decide +kernel
theorem dX5_drop_156 : decode cX5_drop 156 = .ok (.iconst 1, 1) := by decide +kernel
theorem dX5_drop_157 : decode cX5_drop 157 = .ok (.iload 4, 2) := by decide +kernel
theorem dX5_drop_159 : decode cX5_drop 159 = .ok (.ishl, 1) := by decide +kernel
theorem dX5_drop_160 : decode cX5_drop 160 = .ok (.goto 4, 3) := by decide +kernel
theorem dX5_drop_163 : decode cX5_drop 163 = .ok (.iconst 0, 1) := by decide +kernel
theorem dX5_drop_164 : decode cX5_drop 164 = .ok (.isub, 1) := by decide +kernel
theorem dX5_drop_165 : decode cX5_drop 165 = .ok (.istore_n 3, 1) := by decide +kernel
theorem dX5_drop_166 : decode cX5_drop 166 = .ok (.iinc 4 1, 3) := by decide +kernel
theorem dX5_drop_169 : decode cX5_drop 169 = .ok (.goto (-117), 3) := by decide +kernel
theorem dX5_drop_172 : decode cX5_drop 172 = .ok (.iload_n 2, 1) := by decide +kernel
theorem dX5_drop_173 : decode cX5_drop 173 = .ok (.aload_n 0, 1) := by decide +kernel
theorem dX5_drop_174 : decode cX5_drop 174 = .ok (.getfield 120, 3) := by decide +kernel
theorem dX5_drop_177 : decode cX5_drop 177 = .ok (.if_icmp .ne 11, 3) := by decide +kernel
theorem dX5_drop_180 : decode cX5_drop 180 = .ok (.iload_n 3, 1) := by decide +kernel
theorem dX5_drop_181 : decode cX5_drop 181 = .ok (.aload_n 0, 1) := by decide +kernel
theorem dX5_drop_182 : decode cX5_drop 182 = .ok (.getfield 124, 3) := by decide +kernel
theorem dX5_drop_185 : decode cX5_drop 185 = .ok (.if_icmp .eq 7, 3) := by decide +kernel
theorem dX5_drop_188 : decode cX5_drop 188 = .ok (.iconst 1, 1) := by decide +kernel
theorem dX5_drop_189 : decode cX5_drop 189 = .ok (.goto 4, 3) := by decide +kernel
theorem dX5_drop_192 : decode cX5_drop 192 = .ok (.iconst 0, 1) := by decide +kernel
theorem dX5_drop_193 : decode cX5_drop 193 = .ok (.istore_n 1, 1) := by decide +kernel
theorem dX5_drop_194 : decode cX5_drop 194 = .ok (.aload_n 0, 1) := by decide +kernel
theorem dX5_drop_195 : decode cX5_drop 195 = .ok (.dup, 1) := by decide +kernel
theorem dX5_drop_196 : decode cX5_drop 196 = .ok (.getfield 127, 3) := by decide +kernel
theorem dX5_drop_199 : decode cX5_drop 199 = .ok (.iload_n 1, 1) := by decide +kernel
theorem dX5_drop_200 : decode cX5_drop 200 = .ok (.ifCond .eq 7, 3) := by decide +kernel
theorem dX5_drop_203 : decode cX5_drop 203 = .ok (.iconst 1, 1) := by decide +kernel
theorem dX5_drop_204 : decode cX5_drop 204 = .ok (.goto 4, 3) := by decide +kernel
theorem dX5_drop_207 : decode cX5_drop 207 = .ok (.iconst 0, 1) := by decide +kernel
theorem dX5_drop_208 : decode cX5_drop 208 = .ok (.iadd, 1) := by decide +kernel
theorem dX5_drop_209 : decode cX5_drop 209 = .ok (.putfield 127, 3) := by decide +kernel
theorem dX5_drop_212 : decode cX5_drop 212 = .ok (.aload_n 0, 1) := by decide +kernel
theorem dX5_drop_213 : decode cX5_drop 213 = .ok (.iload_n 2, 1) := by decide +kernel
theorem dX5_drop_214 : decode cX5_drop 214 = .ok (.putfield 120, 3) := by decide +kernel
theorem dX5_drop_217 : decode cX5_drop 217 = .ok (.aload_n 0, 1) := by decide +kernel
theorem dX5_drop_218 : decode cX5_drop 218 = .ok (.iload_n 3, 1) := by decide +kernel
theorem dX5_drop_219 : decode cX5_drop 219 = .ok (.putfield 124, 3) := by decide +kernel
theorem dX5_drop_222 : decode cX5_drop 222 = .ok (.goto (-187), 3) := by decide +kernel
theorem dX5_drop_225 : decode cX5_drop 225 = .ok (.return_, 1) := by decide +kernel
theorem dX5_left_0 : decode cX5_left 0 = .ok (.iload_n 1, 1) := by decide +kernel
theorem dX5_left_1 : decode cX5_left 1 = .ok (.invokestatic 62, 3) := by decide +kernel
theorem dX5_left_4 : decode cX5_left 4 = .ok (.ifCond .ne 9, 3) := by decide +kernel
theorem dX5_left_7 : decode cX5_left 7 = .ok (.aload_n 0, 1) := by decide +kernel
theorem dX5_left_8 : decode cX5_left 8 = .ok (.iconst (-1), 1) := by decide +kernel
theorem dX5_left_9 : decode cX5_left 9 = .ok (.invokevirtual 70, 3) := by decide +kernel
theorem dX5_left_12 : decode cX5_left 12 = .ok (.ireturn, 1) := by decide +kernel
theorem dX5_left_13 : decode cX5_left 13 = .ok (.aload_n 0, 1) := by decide +kernel
theorem dX5_left_14 : decode cX5_left 14 = .ok (.invokevirtual 130, 3) := by decide +kernel
theorem dX5_left_17 : decode cX5_left 17 = .ok (.iload_n 1, 1) := by decide +kernel
theorem dX5_left_18 : decode cX5_left 18 = .ok (.ifCond .ne 10, 3) := by decide +kernel
theorem dX5_left_21 : decode cX5_left 21 = .ok (.aload_n 0, 1) := by decide +kernel
theorem dX5_left_22 : decode cX5_left 22 = .ok (.getfield 120, 3) := by decide +kernel
theorem dX5_left_25 : decode cX5_left 25 = .ok (.goto 7, 3) := by decide +kernel
theorem dX5_left_28 : decode cX5_left 28 = .ok (.aload_n 0, 1) := by decide +kernel
theorem dX5_left_29 : decode cX5_left 29 = .ok (.getfield 124, 3) := by decide +kernel
theorem dX5_left_32 : decode cX5_left 32 = .ok (.ireturn, 1) := by decide +kernel
theorem dX5_times_0 : decode cX5_times 0 = .ok (.aload_n 0, 1) := by decide +kernel
theorem dX5_times_1 : decode cX5_times 1 = .ok (.invokevirtual 130, 3) := by decide +kernel
theorem dX5_times_4 : decode cX5_times 4 = .ok (.aload_n 0, 1) := by decide +kernel
theorem dX5_times_5 : decode cX5_times 5 = .ok (.getfield 127, 3) := by decide +kernel
theorem dX5_times_8 : decode cX5_times 8 = .ok (.ireturn, 1) := by decide +kernel
theorem dX5_sure_0 : decode cX5_sure 0 = .ok (.iload_n 1, 1) := by decide +kernel
theorem dX5_sure_1 : decode cX5_sure 1 = .ok (.invokestatic 62, 3) := by decide +kernel
theorem dX5_sure_4 : decode cX5_sure 4 = .ok (.ifCond .ne 9, 3) := by decide +kernel
theorem dX5_sure_7 : decode cX5_sure 7 = .ok (.aload_n 0, 1) := by decide +kernel
theorem dX5_sure_8 : decode cX5_sure 8 = .ok (.iconst (-1), 1) := by decide +kernel
theorem dX5_sure_9 : decode cX5_sure 9 = .ok (.invokevirtual 78, 3) := by decide +kernel
theorem dX5_sure_12 : decode cX5_sure 12 = .ok (.ireturn, 1) := by decide +kernel
theorem dX5_sure_13 : decode cX5_sure 13 = .ok (.bipush (-21), 2) := by decide +kernel
theorem dX5_sure_15 : decode cX5_sure 15 = .ok (.istore_n 2, 1) := by decide +kernel
theorem dX5_sure_16 : decode cX5_sure 16 = .ok (.iconst 0, 1) := by decide +kernel
theorem dX5_sure_17 : decode cX5_sure 17 = .ok (.istore_n 3, 1) := by decide +kernel
theorem dX5_sure_18 : decode cX5_sure 18 = .ok (.iload_n 3, 1) := by decide +kernel
theorem dX5_sure_19 : decode cX5_sure 19 = .ok (.aload_n 0, 1) := by decide +kernel
theorem dX5_sure_20 : decode cX5_sure 20 = .ok (.getfield 7, 3) := by decide +kernel
theorem dX5_sure_23 : decode cX5_sure 23 = .ok (.iload_n 1, 1) := by decide +kernel
theorem dX5_sure_24 : decode cX5_sure 24 = .ok (.iaload, 1) := by decide +kernel
theorem dX5_sure_25 : decode cX5_sure 25 = .ok (.if_icmp .ge 76, 3) := by decide +kernel
theorem dX5_sure_28 : decode cX5_sure 28 = .ok (.bipush 21, 2) := by decide +kernel
theorem dX5_sure_30 : decode cX5_sure 30 = .ok (.istore 4, 2) := by decide +kernel
theorem dX5_sure_32 : decode cX5_sure 32 = .ok (.iconst 0, 1) := by decide +kernel
theorem dX5_sure_33 : decode cX5_sure 33 = .ok (.istore 5, 2) := by decide +kernel
theorem dX5_sure_35 : decode cX5_sure 35 = .ok (.iload 5, 2) := by decide +kernel
theorem dX5_sure_37 : decode cX5_sure 37 = .ok (.aload_n 0, 1) := by decide +kernel
theorem dX5_sure_38 : decode cX5_sure 38 = .ok (.getfield 7, 3) := by decide +kernel
theorem dX5_sure_41 : decode cX5_sure 41 = .ok (.iconst 1, 1) := by decide +kernel
theorem dX5_sure_42 : decode cX5_sure 42 = .ok (.iload_n 1, 1) := by decide +kernel
theorem dX5_sure_43 : decode cX5_sure 43 = .ok (.isub, 1) := by decide +kernel
theorem dX5_sure_44 : decode cX5_sure 44 = .ok (.iaload, 1) := by decide +kernel
theorem dX5_sure_45 : decode cX5_sure 45 = .ok (.if_icmp .ge 37, 3) := by decide +kernel
theorem dX5_sure_48 : decode cX5_sure 48 = .ok (.aload_n 0, 1) := by decide +kernel
theorem dX5_sure_49 : decode cX5_sure 49 = .ok (.iload_n 1, 1) := by decide +kernel
theorem dX5_sure_50 : decode cX5_sure 50 = .ok (.iload_n 3, 1) := by decide +kernel
theorem dX5_sure_51 : decode cX5_sure 51 = .ok (.iload 5, 2) := by decide +kernel
theorem dX5_sure_53 : decode cX5_sure 53 = .ok (.invokevirtual 101, 3) := by decide +kernel
theorem dX5_sure_56 : decode cX5_sure 56 = .ok (.iload 4, 2) := by decide +kernel
theorem dX5_sure_58 : decode cX5_sure 58 = .ok (.if_icmp .ge 14, 3) := by decide +kernel
theorem dX5_sure_61 : decode cX5_sure 61 = .ok (.aload_n 0, 1) := by decide +kernel
theorem dX5_sure_62 : decode cX5_sure 62 = .ok (.iload_n 1, 1) := by decide +kernel
theorem dX5_sure_63 : decode cX5_sure 63 = .ok (.iload_n 3, 1) := by decide +kernel
theorem dX5_sure_64 : decode cX5_sure 64 = .ok (.iload 5, 2) := by decide +kernel
theorem dX5_sure_66 : decode cX5_sure 66 = .ok (.invokevirtual 101, 3) := by decide +kernel
theorem dX5_sure_69 : decode cX5_sure 69 = .ok (.goto 5, 3) := by decide +kernel
theorem dX5_sure_72 : decode cX5_sure 72 = .ok (.iload 4, 2) := by decide +kernel
theorem dX5_sure_74 : decode cX5_sure 74 = .ok (.istore 4, 2) := by decide +kernel
theorem dX5_sure_76 : decode cX5_sure 76 = .ok (.iinc 5 1, 3) := by decide +kernel
theorem dX5_sure_79 : decode cX5_sure 79 = .ok (.goto (-44), 3) := by decide +kernel
theorem dX5_sure_82 : decode cX5_sure 82 = .ok (.iload 4, 2) := by decide +kernel
theorem dX5_sure_84 : decode cX5_sure 84 = .ok (.iload_n 2, 1) := by decide +kernel
theorem dX5_sure_85 : decode cX5_sure 85 = .ok (.if_icmp .le 8, 3) := by decide +kernel
theorem dX5_sure_88 : decode cX5_sure 88 = .ok (.iload 4, 2) := by decide +kernel
theorem dX5_sure_90 : decode cX5_sure 90 = .ok (.goto 4, 3) := by decide +kernel
theorem dX5_sure_93 : decode cX5_sure 93 = .ok (.iload_n 2, 1) := by decide +kernel
theorem dX5_sure_94 : decode cX5_sure 94 = .ok (.istore_n 2, 1) := by decide +kernel
theorem dX5_sure_95 : decode cX5_sure 95 = .ok (.iinc 3 1, 3) := by decide +kernel
theorem dX5_sure_98 : decode cX5_sure 98 = .ok (.goto (-80), 3) := by decide +kernel
theorem dX5_sure_101 : decode cX5_sure 101 = .ok (.iload_n 2, 1) := by decide +kernel
theorem dX5_sure_102 : decode cX5_sure 102 = .ok (.ireturn, 1) := by decide +kernel
theorem dX5_hold_0 : decode cX5_hold 0 = .ok (.iload_n 1, 1) := by decide +kernel
theorem dX5_hold_1 : decode cX5_hold 1 = .ok (.invokestatic 62, 3) := by decide +kernel
theorem dX5_hold_4 : decode cX5_hold 4 = .ok (.ifCond .ne 9, 3) := by decide +kernel
theorem dX5_hold_7 : decode cX5_hold 7 = .ok (.aload_n 0, 1) := by decide +kernel
theorem dX5_hold_8 : decode cX5_hold 8 = .ok (.iconst (-1), 1) := by decide +kernel
theorem dX5_hold_9 : decode cX5_hold 9 = .ok (.invokevirtual 78, 3) := by decide +kernel
theorem dX5_hold_12 : decode cX5_hold 12 = .ok (.ireturn, 1) := by decide +kernel
theorem dX5_hold_13 : decode cX5_hold 13 = .ok (.bipush 21, 2) := by decide +kernel
theorem dX5_hold_15 : decode cX5_hold 15 = .ok (.istore_n 2, 1) := by decide +kernel
theorem dX5_hold_16 : decode cX5_hold 16 = .ok (.iconst 0, 1) := by decide +kernel
theorem dX5_hold_17 : decode cX5_hold 17 = .ok (.istore_n 3, 1) := by decide +kernel
theorem dX5_hold_18 : decode cX5_hold 18 = .ok (.iload_n 3, 1) := by decide +kernel
theorem dX5_hold_19 : decode cX5_hold 19 = .ok (.aload_n 0, 1) := by decide +kernel
theorem dX5_hold_20 : decode cX5_hold 20 = .ok (.getfield 7, 3) := by decide +kernel
theorem dX5_hold_23 : decode cX5_hold 23 = .ok (.iconst 1, 1) := by decide +kernel
theorem dX5_hold_24 : decode cX5_hold 24 = .ok (.iload_n 1, 1) := by decide +kernel
theorem dX5_hold_25 : decode cX5_hold 25 = .ok (.isub, 1) := by decide +kernel
theorem dX5_hold_26 : decode cX5_hold 26 = .ok (.iaload, 1) := by decide +kernel
theorem dX5_hold_27 : decode cX5_hold 27 = .ok (.if_icmp .ge 74, 3) := by decide +kernel
theorem dX5_hold_30 : decode cX5_hold 30 = .ok (.bipush (-21), 2) := by decide +kernel
theorem dX5_hold_32 : decode cX5_hold 32 = .ok (.istore 4, 2) := by decide +kernel
theorem dX5_hold_34 : decode cX5_hold 34 = .ok (.iconst 0, 1) := by decide +kernel
theorem dX5_hold_35 : decode cX5_hold 35 = .ok (.istore 5, 2) := by decide +kernel
theorem dX5_hold_37 : decode cX5_hold 37 = .ok (.iload 5, 2) := by decide +kernel
theorem dX5_hold_39 : decode cX5_hold 39 = .ok (.aload_n 0, 1) := by decide +kernel
theorem dX5_hold_40 : decode cX5_hold 40 = .ok (.getfield 7, 3) := by decide +kernel
theorem dX5_hold_43 : decode cX5_hold 43 = .ok (.iload_n 1, 1) := by decide +kernel
theorem dX5_hold_44 : decode cX5_hold 44 = .ok (.iaload, 1) := by decide +kernel
theorem dX5_hold_45 : decode cX5_hold 45 = .ok (.if_icmp .ge 37, 3) := by decide +kernel
theorem dX5_hold_48 : decode cX5_hold 48 = .ok (.aload_n 0, 1) := by decide +kernel
theorem dX5_hold_49 : decode cX5_hold 49 = .ok (.iload_n 1, 1) := by decide +kernel
theorem dX5_hold_50 : decode cX5_hold 50 = .ok (.iload 5, 2) := by decide +kernel
theorem dX5_hold_52 : decode cX5_hold 52 = .ok (.iload_n 3, 1) := by decide +kernel
theorem dX5_hold_53 : decode cX5_hold 53 = .ok (.invokevirtual 101, 3) := by decide +kernel
theorem dX5_hold_56 : decode cX5_hold 56 = .ok (.iload 4, 2) := by decide +kernel
theorem dX5_hold_58 : decode cX5_hold 58 = .ok (.if_icmp .le 14, 3) := by decide +kernel
theorem dX5_hold_61 : decode cX5_hold 61 = .ok (.aload_n 0, 1) := by decide +kernel
theorem dX5_hold_62 : decode cX5_hold 62 = .ok (.iload_n 1, 1) := by decide +kernel
theorem dX5_hold_63 : decode cX5_hold 63 = .ok (.iload 5, 2) := by decide +kernel
theorem dX5_hold_65 : decode cX5_hold 65 = .ok (.iload_n 3, 1) := by decide +kernel
theorem dX5_hold_66 : decode cX5_hold 66 = .ok (.invokevirtual 101, 3) := by decide +kernel
theorem dX5_hold_69 : decode cX5_hold 69 = .ok (.goto 5, 3) := by decide +kernel
theorem dX5_hold_72 : decode cX5_hold 72 = .ok (.iload 4, 2) := by decide +kernel
theorem dX5_hold_74 : decode cX5_hold 74 = .ok (.istore 4, 2) := by decide +kernel
theorem dX5_hold_76 : decode cX5_hold 76 = .ok (.iinc 5 1, 3) := by decide +kernel
theorem dX5_hold_79 : decode cX5_hold 79 = .ok (.goto (-42), 3) := by decide +kernel
theorem dX5_hold_82 : decode cX5_hold 82 = .ok (.iload 4, 2) := by decide +kernel
theorem dX5_hold_84 : decode cX5_hold 84 = .ok (.iload_n 2, 1) := by decide +kernel
theorem dX5_hold_85 : decode cX5_hold 85 = .ok (.if_icmp .ge 8, 3) := by decide +kernel
theorem dX5_hold_88 : decode cX5_hold 88 = .ok (.iload 4, 2) := by decide +kernel
theorem dX5_hold_90 : decode cX5_hold 90 = .ok (.goto 4, 3) := by decide +kernel
theorem dX5_hold_93 : decode cX5_hold 93 = .ok (.iload_n 2, 1) := by decide +kernel
theorem dX5_hold_94 : decode cX5_hold 94 = .ok (.istore_n 2, 1) := by decide +kernel
theorem dX5_hold_95 : decode cX5_hold 95 = .ok (.iinc 3 1, 3) := by decide +kernel
theorem dX5_hold_98 : decode cX5_hold 98 = .ok (.goto (-80), 3) := by decide +kernel
theorem dX5_hold_101 : decode cX5_hold 101 = .ok (.iload_n 2, 1) := by decide +kernel
theorem dX5_hold_102 : decode cX5_hold 102 = .ok (.ireturn, 1) := by decide +kernel
theorem dX5_manyIn_0 : decode cX5_manyIn 0 = .ok (.iload_n 0, 1) := by decide +kernel
theorem dX5_manyIn_1 : decode cX5_manyIn 1 = .ok (.iconst 1, 1) := by decide +kernel
theorem dX5_manyIn_2 : decode cX5_manyIn 2 = .ok (.iand, 1) := by decide +kernel
theorem dX5_manyIn_3 : decode cX5_manyIn 3 = .ok (.iload_n 0, 1) := by decide +kernel
theorem dX5_manyIn_4 : decode cX5_manyIn 4 = .ok (.iconst 1, 1) := by decide +kernel
theorem dX5_manyIn_5 : decode cX5_manyIn 5 = .ok (.ishr, 1) := by decide +kernel
theorem dX5_manyIn_6 : decode cX5_manyIn 6 = .ok (.iconst 1, 1) := by decide +kernel
theorem dX5_manyIn_7 : decode cX5_manyIn 7 = .ok (.iand, 1) := by decide +kernel
theorem dX5_manyIn_8 : decode cX5_manyIn 8 = .ok (.iadd, 1) := by decide +kernel
theorem dX5_manyIn_9 : decode cX5_manyIn 9 = .ok (.iload_n 0, 1) := by decide +kernel
theorem dX5_manyIn_10 : decode cX5_manyIn 10 = .ok (.iconst 2, 1) := by decide +kernel
theorem dX5_manyIn_11 : decode cX5_manyIn 11 = .ok (.ishr, 1) := by decide +kernel
theorem dX5_manyIn_12 : decode cX5_manyIn 12 = .ok (.iconst 1, 1) := by decide +kernel
theorem dX5_manyIn_13 : decode cX5_manyIn 13 = .ok (.iand, 1) := by decide +kernel
theorem dX5_manyIn_14 : decode cX5_manyIn 14 = .ok (.iadd, 1) := by decide +kernel
theorem dX5_manyIn_15 : decode cX5_manyIn 15 = .ok (.iload_n 0, 1) := by decide +kernel
theorem dX5_manyIn_16 : decode cX5_manyIn 16 = .ok (.iconst 3, 1) := by decide +kernel
theorem dX5_manyIn_17 : decode cX5_manyIn 17 = .ok (.ishr, 1) := by decide +kernel
theorem dX5_manyIn_18 : decode cX5_manyIn 18 = .ok (.iconst 1, 1) := by decide +kernel
theorem dX5_manyIn_19 : decode cX5_manyIn 19 = .ok (.iand, 1) := by decide +kernel
theorem dX5_manyIn_20 : decode cX5_manyIn 20 = .ok (.iadd, 1) := by decide +kernel
theorem dX5_manyIn_21 : decode cX5_manyIn 21 = .ok (.ireturn, 1) := by decide +kernel
theorem dX5_listed_0 : decode cX5_listed 0 = .ok (.iconst 0, 1) := by decide +kernel
theorem dX5_listed_1 : decode cX5_listed 1 = .ok (.istore_n 2, 1) := by decide +kernel
theorem dX5_listed_2 : decode cX5_listed 2 = .ok (.iconst 0, 1) := by decide +kernel
theorem dX5_listed_3 : decode cX5_listed 3 = .ok (.istore_n 3, 1) := by decide +kernel
theorem dX5_listed_4 : decode cX5_listed 4 = .ok (.iload_n 3, 1) := by decide +kernel
theorem dX5_listed_5 : decode cX5_listed 5 = .ok (.iconst 4, 1) := by decide +kernel
theorem dX5_listed_6 : decode cX5_listed 6 = .ok (.if_icmp .ge 25, 3) := by decide +kernel
theorem dX5_listed_9 : decode cX5_listed 9 = .ok (.iload_n 0, 1) := by decide +kernel
theorem dX5_listed_10 : decode cX5_listed 10 = .ok (.iload_n 3, 1) := by decide +kernel
theorem dX5_listed_11 : decode cX5_listed 11 = .ok (.ishr, 1) := by decide +kernel
theorem dX5_listed_12 : decode cX5_listed 12 = .ok (.iconst 1, 1) := by decide +kernel
theorem dX5_listed_13 : decode cX5_listed 13 = .ok (.iand, 1) := by decide +kernel
theorem dX5_listed_14 : decode cX5_listed 14 = .ok (.iconst 1, 1) := by decide +kernel
theorem dX5_listed_15 : decode cX5_listed 15 = .ok (.if_icmp .ne 10, 3) := by decide +kernel
theorem dX5_listed_18 : decode cX5_listed 18 = .ok (.aload_n 1, 1) := by decide +kernel
theorem dX5_listed_19 : decode cX5_listed 19 = .ok (.iload_n 2, 1) := by decide +kernel
theorem dX5_listed_20 : decode cX5_listed 20 = .ok (.iload_n 3, 1) := by decide +kernel
theorem dX5_listed_21 : decode cX5_listed 21 = .ok (.iastore, 1) := by decide +kernel
theorem dX5_listed_22 : decode cX5_listed 22 = .ok (.iinc 2 1, 3) := by decide +kernel
theorem dX5_listed_25 : decode cX5_listed 25 = .ok (.iinc 3 1, 3) := by decide +kernel
theorem dX5_listed_28 : decode cX5_listed 28 = .ok (.goto (-24), 3) := by decide +kernel
theorem dX5_listed_31 : decode cX5_listed 31 = .ok (.iload_n 2, 1) := by decide +kernel
theorem dX5_listed_32 : decode cX5_listed 32 = .ok (.ireturn, 1) := by decide +kernel
theorem dX5_without_0 : decode cX5_without 0 = .ok (.iconst 0, 1) := by decide +kernel
theorem dX5_without_1 : decode cX5_without 1 = .ok (.istore 4, 2) := by decide +kernel
theorem dX5_without_3 : decode cX5_without 3 = .ok (.iload 4, 2) := by decide +kernel
theorem dX5_without_5 : decode cX5_without 5 = .ok (.iload_n 3, 1) := by decide +kernel
theorem dX5_without_6 : decode cX5_without 6 = .ok (.iconst 1, 1) := by decide +kernel
theorem dX5_without_7 : decode cX5_without 7 = .ok (.isub, 1) := by decide +kernel
theorem dX5_without_8 : decode cX5_without 8 = .ok (.if_icmp .ge 93, 3) := by decide +kernel
theorem dX5_without_11 : decode cX5_without 11 = .ok (.iconst 0, 1) := by decide +kernel
theorem dX5_without_12 : decode cX5_without 12 = .ok (.istore 5, 2) := by decide +kernel
theorem dX5_without_14 : decode cX5_without 14 = .ok (.iconst 0, 1) := by decide +kernel
theorem dX5_without_15 : decode cX5_without 15 = .ok (.istore 6, 2) := by decide +kernel
theorem dX5_without_17 : decode cX5_without 17 = .ok (.iload 6, 2) := by decide +kernel
theorem dX5_without_19 : decode cX5_without 19 = .ok (.iload_n 3, 1) := by decide +kernel
theorem dX5_without_20 : decode cX5_without 20 = .ok (.if_icmp .ge 75, 3) := by decide +kernel
theorem dX5_without_23 : decode cX5_without 23 = .ok (.iload 6, 2) := by decide +kernel
theorem dX5_without_25 : decode cX5_without 25 = .ok (.iload_n 2, 1) := by decide +kernel
theorem dX5_without_26 : decode cX5_without 26 = .ok (.if_icmp .eq 63, 3) := by decide +kernel
theorem dX5_without_29 : decode cX5_without 29 = .ok (.aload_n 0, 1) := by decide +kernel
theorem dX5_without_30 : decode cX5_without 30 = .ok (.getfield 44, 3) := by decide +kernel
theorem dX5_without_33 : decode cX5_without 33 = .ok (.iconst 3, 1) := by decide +kernel
theorem dX5_without_34 : decode cX5_without 34 = .ok (.iload 4, 2) := by decide +kernel
theorem dX5_without_36 : decode cX5_without 36 = .ok (.imul, 1) := by decide +kernel
theorem dX5_without_37 : decode cX5_without 37 = .ok (.iload 5, 2) := by decide +kernel
theorem dX5_without_39 : decode cX5_without 39 = .ok (.iadd, 1) := by decide +kernel
theorem dX5_without_40 : decode cX5_without 40 = .ok (.aload_n 0, 1) := by decide +kernel
theorem dX5_without_41 : decode cX5_without 41 = .ok (.iconst 1, 1) := by decide +kernel
theorem dX5_without_42 : decode cX5_without 42 = .ok (.iload_n 1, 1) := by decide +kernel
theorem dX5_without_43 : decode cX5_without 43 = .ok (.isub, 1) := by decide +kernel
theorem dX5_without_44 : decode cX5_without 44 = .ok (.aload_n 0, 1) := by decide +kernel
theorem dX5_without_45 : decode cX5_without 45 = .ok (.getfield 50, 3) := by decide +kernel
theorem dX5_without_48 : decode cX5_without 48 = .ok (.iload 4, 2) := by decide +kernel
theorem dX5_without_50 : decode cX5_without 50 = .ok (.iconst 1, 1) := by decide +kernel
theorem dX5_without_51 : decode cX5_without 51 = .ok (.iadd, 1) := by decide +kernel
theorem dX5_without_52 : decode cX5_without 52 = .ok (.iaload, 1) := by decide +kernel
theorem dX5_without_53 : decode cX5_without 53 = .ok (.aload_n 0, 1) := by decide +kernel
theorem dX5_without_54 : decode cX5_without 54 = .ok (.getfield 47, 3) := by decide +kernel
theorem dX5_without_57 : decode cX5_without 57 = .ok (.iload 6, 2) := by decide +kernel
theorem dX5_without_59 : decode cX5_without 59 = .ok (.iaload, 1) := by decide +kernel
theorem dX5_without_60 : decode cX5_without 60 = .ok (.invokevirtual 101, 3) := by decide +kernel
theorem dX5_without_63 : decode cX5_without 63 = .ok (.aload_n 0, 1) := by decide +kernel
theorem dX5_without_64 : decode cX5_without 64 = .ok (.iconst 1, 1) := by decide +kernel
theorem dX5_without_65 : decode cX5_without 65 = .ok (.iload_n 1, 1) := by decide +kernel
theorem dX5_without_66 : decode cX5_without 66 = .ok (.isub, 1) := by decide +kernel
theorem dX5_without_67 : decode cX5_without 67 = .ok (.aload_n 0, 1) := by decide +kernel
theorem dX5_without_68 : decode cX5_without 68 = .ok (.getfield 50, 3) := by decide +kernel
theorem dX5_without_71 : decode cX5_without 71 = .ok (.iconst 0, 1) := by decide +kernel
theorem dX5_without_72 : decode cX5_without 72 = .ok (.iaload, 1) := by decide +kernel
theorem dX5_without_73 : decode cX5_without 73 = .ok (.aload_n 0, 1) := by decide +kernel
theorem dX5_without_74 : decode cX5_without 74 = .ok (.getfield 47, 3) := by decide +kernel
theorem dX5_without_77 : decode cX5_without 77 = .ok (.iload 6, 2) := by decide +kernel
theorem dX5_without_79 : decode cX5_without 79 = .ok (.iaload, 1) := by decide +kernel
theorem dX5_without_80 : decode cX5_without 80 = .ok (.invokevirtual 101, 3) := by decide +kernel
theorem dX5_without_83 : decode cX5_without 83 = .ok (.isub, 1) := by decide +kernel
theorem dX5_without_84 : decode cX5_without 84 = .ok (.i2l, 1) := by decide +kernel
theorem dX5_without_85 : decode cX5_without 85 = .ok (.lastore, 1) := by decide +kernel
theorem dX5_without_86 : decode cX5_without 86 = .ok (.iinc 5 1, 3) := by decide +kernel
theorem dX5_without_89 : decode cX5_without 89 = .ok (.iinc 6 1, 3) := by decide +kernel
theorem dX5_without_92 : decode cX5_without 92 = .ok (.goto (-75), 3) := by decide +kernel
theorem dX5_without_95 : decode cX5_without 95 = .ok (.iinc 4 1, 3) := by decide +kernel
theorem dX5_without_98 : decode cX5_without 98 = .ok (.goto (-95), 3) := by decide +kernel
theorem dX5_without_101 : decode cX5_without 101 = .ok (.iload_n 3, 1) := by decide +kernel
theorem dX5_without_102 : decode cX5_without 102 = .ok (.iconst 1, 1) := by decide +kernel
theorem dX5_without_103 : decode cX5_without 103 = .ok (.if_icmp .ne 5, 3) := by decide +kernel
theorem dX5_without_106 : decode cX5_without 106 = .ok (.lconst 1, 1) := by decide +kernel
theorem dX5_without_107 : decode cX5_without 107 = .ok (.lreturn, 1) := by decide +kernel
theorem dX5_without_108 : decode cX5_without 108 = .ok (.iload_n 3, 1) := by decide +kernel
theorem dX5_without_109 : decode cX5_without 109 = .ok (.iconst 2, 1) := by decide +kernel
theorem dX5_without_110 : decode cX5_without 110 = .ok (.if_icmp .ne 10, 3) := by decide +kernel
theorem dX5_without_113 : decode cX5_without 113 = .ok (.aload_n 0, 1) := by decide +kernel
theorem dX5_without_114 : decode cX5_without 114 = .ok (.getfield 44, 3) := by decide +kernel
theorem dX5_without_117 : decode cX5_without 117 = .ok (.iconst 0, 1) := by decide +kernel
theorem dX5_without_118 : decode cX5_without 118 = .ok (.laload, 1) := by decide +kernel
theorem dX5_without_119 : decode cX5_without 119 = .ok (.lreturn, 1) := by decide +kernel
theorem dX5_without_120 : decode cX5_without 120 = .ok (.iload_n 3, 1) := by decide +kernel
theorem dX5_without_121 : decode cX5_without 121 = .ok (.iconst 3, 1) := by decide +kernel
theorem dX5_without_122 : decode cX5_without 122 = .ok (.if_icmp .ne 31, 3) := by decide +kernel
theorem dX5_without_125 : decode cX5_without 125 = .ok (.aload_n 0, 1) := by decide +kernel
theorem dX5_without_126 : decode cX5_without 126 = .ok (.getfield 44, 3) := by decide +kernel
theorem dX5_without_129 : decode cX5_without 129 = .ok (.iconst 0, 1) := by decide +kernel
theorem dX5_without_130 : decode cX5_without 130 = .ok (.laload, 1) := by decide +kernel
theorem dX5_without_131 : decode cX5_without 131 = .ok (.aload_n 0, 1) := by decide +kernel
theorem dX5_without_132 : decode cX5_without 132 = .ok (.getfield 44, 3) := by decide +kernel
theorem dX5_without_135 : decode cX5_without 135 = .ok (.iconst 4, 1) := by decide +kernel
theorem dX5_without_136 : decode cX5_without 136 = .ok (.laload, 1) := by decide +kernel
theorem dX5_without_137 : decode cX5_without 137 = .ok (.lmul, 1) := by decide +kernel
theorem dX5_without_138 : decode cX5_without 138 = .ok (.aload_n 0, 1) := by decide +kernel
theorem dX5_without_139 : decode cX5_without 139 = .ok (.getfield 44, 3) := by decide +kernel
theorem dX5_without_142 : decode cX5_without 142 = .ok (.iconst 1, 1) := by decide +kernel
theorem dX5_without_143 : decode cX5_without 143 = .ok (.laload, 1) := by decide +kernel
theorem dX5_without_144 : decode cX5_without 144 = .ok (.aload_n 0, 1) := by decide +kernel
theorem dX5_without_145 : decode cX5_without 145 = .ok (.getfield 44, 3) := by decide +kernel
theorem dX5_without_148 : decode cX5_without 148 = .ok (.iconst 3, 1) := by decide +kernel
theorem dX5_without_149 : decode cX5_without 149 = .ok (.laload, 1) := by decide +kernel
theorem dX5_without_150 : decode cX5_without 150 = .ok (.lmul, 1) := by decide +kernel
theorem dX5_without_151 : decode cX5_without 151 = .ok (.lsub, 1) := by decide +kernel
theorem dX5_without_152 : decode cX5_without 152 = .ok (.lreturn, 1) := by decide +kernel
theorem dX5_without_153 : decode cX5_without 153 = .ok (.aload_n 0, 1) := by decide +kernel
theorem dX5_without_154 : decode cX5_without 154 = .ok (.getfield 44, 3) := by decide +kernel
theorem dX5_without_157 : decode cX5_without 157 = .ok (.iconst 0, 1) := by decide +kernel
theorem dX5_without_158 : decode cX5_without 158 = .ok (.laload, 1) := by decide +kernel
theorem dX5_without_159 : decode cX5_without 159 = .ok (.aload_n 0, 1) := by decide +kernel
theorem dX5_without_160 : decode cX5_without 160 = .ok (.getfield 44, 3) := by decide +kernel
theorem dX5_without_163 : decode cX5_without 163 = .ok (.iconst 4, 1) := by decide +kernel
theorem dX5_without_164 : decode cX5_without 164 = .ok (.laload, 1) := by decide +kernel
theorem dX5_without_165 : decode cX5_without 165 = .ok (.aload_n 0, 1) := by decide +kernel
theorem dX5_without_166 : decode cX5_without 166 = .ok (.getfield 44, 3) := by decide +kernel
theorem dX5_without_169 : decode cX5_without 169 = .ok (.bipush 8, 2) := by decide +kernel
theorem dX5_without_171 : decode cX5_without 171 = .ok (.laload, 1) := by decide +kernel
theorem dX5_without_172 : decode cX5_without 172 = .ok (.lmul, 1) := by decide +kernel
theorem dX5_without_173 : decode cX5_without 173 = .ok (.aload_n 0, 1) := by decide +kernel
theorem dX5_without_174 : decode cX5_without 174 = .ok (.getfield 44, 3) := by decide +kernel
theorem dX5_without_177 : decode cX5_without 177 = .ok (.iconst 5, 1) := by decide +kernel
theorem dX5_without_178 : decode cX5_without 178 = .ok (.laload, 1) := by decide +kernel
theorem dX5_without_179 : decode cX5_without 179 = .ok (.aload_n 0, 1) := by decide +kernel
theorem dX5_without_180 : decode cX5_without 180 = .ok (.getfield 44, 3) := by decide +kernel
theorem dX5_without_183 : decode cX5_without 183 = .ok (.bipush 7, 2) := by decide +kernel
theorem dX5_without_185 : decode cX5_without 185 = .ok (.laload, 1) := by decide +kernel
theorem dX5_without_186 : decode cX5_without 186 = .ok (.lmul, 1) := by decide +kernel
theorem dX5_without_187 : decode cX5_without 187 = .ok (.lsub, 1) := by decide +kernel
theorem dX5_without_188 : decode cX5_without 188 = .ok (.lmul, 1) := by decide +kernel
theorem dX5_without_189 : decode cX5_without 189 = .ok (.aload_n 0, 1) := by decide +kernel
theorem dX5_without_190 : decode cX5_without 190 = .ok (.getfield 44, 3) := by decide +kernel
theorem dX5_without_193 : decode cX5_without 193 = .ok (.iconst 1, 1) := by decide +kernel
theorem dX5_without_194 : decode cX5_without 194 = .ok (.laload, 1) := by decide +kernel
theorem dX5_without_195 : decode cX5_without 195 = .ok (.aload_n 0, 1) := by decide +kernel
theorem dX5_without_196 : decode cX5_without 196 = .ok (.getfield 44, 3) := by decide +kernel
theorem dX5_without_199 : decode cX5_without 199 = .ok (.iconst 3, 1) := by decide +kernel
theorem dX5_without_200 : decode cX5_without 200 = .ok (.laload, 1) := by decide +kernel
theorem dX5_without_201 : decode cX5_without 201 = .ok (.aload_n 0, 1) := by decide +kernel
theorem dX5_without_202 : decode cX5_without 202 = .ok (.getfield 44, 3) := by decide +kernel
theorem dX5_without_205 : decode cX5_without 205 = .ok (.bipush 8, 2) := by decide +kernel
theorem dX5_without_207 : decode cX5_without 207 = .ok (.laload, 1) := by decide +kernel
theorem dX5_without_208 : decode cX5_without 208 = .ok (.lmul, 1) := by decide +kernel
theorem dX5_without_209 : decode cX5_without 209 = .ok (.aload_n 0, 1) := by decide +kernel
theorem dX5_without_210 : decode cX5_without 210 = .ok (.getfield 44, 3) := by decide +kernel
theorem dX5_without_213 : decode cX5_without 213 = .ok (.iconst 5, 1) := by decide +kernel
theorem dX5_without_214 : decode cX5_without 214 = .ok (.laload, 1) := by decide +kernel
theorem dX5_without_215 : decode cX5_without 215 = .ok (.aload_n 0, 1) := by decide +kernel
theorem dX5_without_216 : decode cX5_without 216 = .ok (.getfield 44, 3) := by decide +kernel
theorem dX5_without_219 : decode cX5_without 219 = .ok (.bipush 6, 2) := by decide +kernel
theorem dX5_without_221 : decode cX5_without 221 = .ok (.laload, 1) := by decide +kernel
theorem dX5_without_222 : decode cX5_without 222 = .ok (.lmul, 1) := by decide +kernel
theorem dX5_without_223 : decode cX5_without 223 = .ok (.lsub, 1) := by decide +kernel
theorem dX5_without_224 : decode cX5_without 224 = .ok (.lmul, 1) := by decide +kernel
theorem dX5_without_225 : decode cX5_without 225 = .ok (.lsub, 1) := by decide +kernel
theorem dX5_without_226 : decode cX5_without 226 = .ok (.aload_n 0, 1) := by decide +kernel
theorem dX5_without_227 : decode cX5_without 227 = .ok (.getfield 44, 3) := by decide +kernel
theorem dX5_without_230 : decode cX5_without 230 = .ok (.iconst 2, 1) := by decide +kernel
theorem dX5_without_231 : decode cX5_without 231 = .ok (.laload, 1) := by decide +kernel
theorem dX5_without_232 : decode cX5_without 232 = .ok (.aload_n 0, 1) := by decide +kernel
theorem dX5_without_233 : decode cX5_without 233 = .ok (.getfield 44, 3) := by decide +kernel
theorem dX5_without_236 : decode cX5_without 236 = .ok (.iconst 3, 1) := by decide +kernel
theorem dX5_without_237 : decode cX5_without 237 = .ok (.laload, 1) := by decide +kernel
theorem dX5_without_238 : decode cX5_without 238 = .ok (.aload_n 0, 1) := by decide +kernel
theorem dX5_without_239 : decode cX5_without 239 = .ok (.getfield 44, 3) := by decide +kernel
theorem dX5_without_242 : decode cX5_without 242 = .ok (.bipush 7, 2) := by decide +kernel
theorem dX5_without_244 : decode cX5_without 244 = .ok (.laload, 1) := by decide +kernel
theorem dX5_without_245 : decode cX5_without 245 = .ok (.lmul, 1) := by decide +kernel
theorem dX5_without_246 : decode cX5_without 246 = .ok (.aload_n 0, 1) := by decide +kernel
theorem dX5_without_247 : decode cX5_without 247 = .ok (.getfield 44, 3) := by decide +kernel
theorem dX5_without_250 : decode cX5_without 250 = .ok (.iconst 4, 1) := by decide +kernel
theorem dX5_without_251 : decode cX5_without 251 = .ok (.laload, 1) := by decide +kernel
theorem dX5_without_252 : decode cX5_without 252 = .ok (.aload_n 0, 1) := by decide +kernel
theorem dX5_without_253 : decode cX5_without 253 = .ok (.getfield 44, 3) := by decide +kernel
theorem dX5_without_256 : decode cX5_without 256 = .ok (.bipush 6, 2) := by decide +kernel
theorem dX5_without_258 : decode cX5_without 258 = .ok (.laload, 1) := by decide +kernel
theorem dX5_without_259 : decode cX5_without 259 = .ok (.lmul, 1) := by decide +kernel
theorem dX5_without_260 : decode cX5_without 260 = .ok (.lsub, 1) := by decide +kernel
theorem dX5_without_261 : decode cX5_without 261 = .ok (.lmul, 1) := by decide +kernel
theorem dX5_without_262 : decode cX5_without 262 = .ok (.ladd, 1) := by decide +kernel
theorem dX5_without_263 : decode cX5_without 263 = .ok (.lreturn, 1) := by decide +kernel
theorem dX5_solve_0 : decode cX5_solve 0 = .ok (.lconst 0, 1) := by decide +kernel
theorem dX5_solve_1 : decode cX5_solve 1 = .ok (.lstore_n 3, 1) := by decide +kernel
theorem dX5_solve_2 : decode cX5_solve 2 = .ok (.iconst 0, 1) := by decide +kernel
theorem dX5_solve_3 : decode cX5_solve 3 = .ok (.istore 5, 2) := by decide +kernel
theorem dX5_solve_5 : decode cX5_solve 5 = .ok (.iload 5, 2) := by decide +kernel
theorem dX5_solve_7 : decode cX5_solve 7 = .ok (.iconst 4, 1) := by decide +kernel
theorem dX5_solve_8 : decode cX5_solve 8 = .ok (.if_icmp .ge 17, 3) := by decide +kernel
theorem dX5_solve_11 : decode cX5_solve 11 = .ok (.aload_n 0, 1) := by decide +kernel
theorem dX5_solve_12 : decode cX5_solve 12 = .ok (.getfield 53, 3) := by decide +kernel
theorem dX5_solve_15 : decode cX5_solve 15 = .ok (.iload 5, 2) := by decide +kernel
theorem dX5_solve_17 : decode cX5_solve 17 = .ok (.lconst 0, 1) := by decide +kernel
theorem dX5_solve_18 : decode cX5_solve 18 = .ok (.lastore, 1) := by decide +kernel
theorem dX5_solve_19 : decode cX5_solve 19 = .ok (.iinc 5 1, 3) := by decide +kernel
theorem dX5_solve_22 : decode cX5_solve 22 = .ok (.goto (-17), 3) := by decide +kernel
theorem dX5_solve_25 : decode cX5_solve 25 = .ok (.iconst 0, 1) := by decide +kernel
theorem dX5_solve_26 : decode cX5_solve 26 = .ok (.istore 5, 2) := by decide +kernel
theorem dX5_solve_28 : decode cX5_solve 28 = .ok (.iload 5, 2) := by decide +kernel
theorem dX5_solve_30 : decode cX5_solve 30 = .ok (.iload_n 2, 1) := by decide +kernel
theorem dX5_solve_31 : decode cX5_solve 31 = .ok (.if_icmp .ge 61, 3) := by decide +kernel
theorem dX5_solve_34 : decode cX5_solve 34 = .ok (.aload_n 0, 1) := by decide +kernel
theorem dX5_solve_35 : decode cX5_solve 35 = .ok (.iload_n 1, 1) := by decide +kernel
theorem dX5_solve_36 : decode cX5_solve 36 = .ok (.iload 5, 2) := by decide +kernel
theorem dX5_solve_38 : decode cX5_solve 38 = .ok (.iload_n 2, 1) := by decide +kernel
theorem dX5_solve_39 : decode cX5_solve 39 = .ok (.invokevirtual 133, 3) := by decide +kernel
theorem dX5_solve_42 : decode cX5_solve 42 = .ok (.lstore 6, 2) := by decide +kernel
theorem dX5_solve_44 : decode cX5_solve 44 = .ok (.aload_n 0, 1) := by decide +kernel
theorem dX5_solve_45 : decode cX5_solve 45 = .ok (.getfield 53, 3) := by decide +kernel
theorem dX5_solve_48 : decode cX5_solve 48 = .ok (.aload_n 0, 1) := by decide +kernel
theorem dX5_solve_49 : decode cX5_solve 49 = .ok (.getfield 47, 3) := by decide +kernel
theorem dX5_solve_52 : decode cX5_solve 52 = .ok (.iload 5, 2) := by decide +kernel
theorem dX5_solve_54 : decode cX5_solve 54 = .ok (.iaload, 1) := by decide +kernel
theorem dX5_solve_55 : decode cX5_solve 55 = .ok (.iload 5, 2) := by decide +kernel
theorem dX5_solve_57 : decode cX5_solve 57 = .ok (.iconst 2, 1) := by decide +kernel
theorem dX5_solve_58 : decode cX5_solve 58 = .ok (.irem, 1) := by decide +kernel
theorem dX5_solve_59 : decode cX5_solve 59 = .ok (.ifCond .ne 8, 3) := by decide +kernel
theorem dX5_solve_62 : decode cX5_solve 62 = .ok (.lload 6, 2) := by decide +kernel
theorem dX5_solve_64 : decode cX5_solve 64 = .ok (.goto 6, 3) := by decide +kernel
theorem dX5_solve_67 : decode cX5_solve 67 = .ok (.lload 6, 2) := by decide +kernel
theorem dX5_solve_69 : decode cX5_solve 69 = .ok (.lneg, 1) := by decide +kernel
theorem dX5_solve_70 : decode cX5_solve 70 = .ok (.lastore, 1) := by decide +kernel
theorem dX5_solve_71 : decode cX5_solve 71 = .ok (.lload_n 3, 1) := by decide +kernel
theorem dX5_solve_72 : decode cX5_solve 72 = .ok (.aload_n 0, 1) := by decide +kernel
theorem dX5_solve_73 : decode cX5_solve 73 = .ok (.getfield 53, 3) := by decide +kernel
theorem dX5_solve_76 : decode cX5_solve 76 = .ok (.aload_n 0, 1) := by decide +kernel
theorem dX5_solve_77 : decode cX5_solve 77 = .ok (.getfield 47, 3) := by decide +kernel
theorem dX5_solve_80 : decode cX5_solve 80 = .ok (.iload 5, 2) := by decide +kernel
theorem dX5_solve_82 : decode cX5_solve 82 = .ok (.iaload, 1) := by decide +kernel
theorem dX5_solve_83 : decode cX5_solve 83 = .ok (.laload, 1) := by decide +kernel
theorem dX5_solve_84 : decode cX5_solve 84 = .ok (.ladd, 1) := by decide +kernel
theorem dX5_solve_85 : decode cX5_solve 85 = .ok (.lstore_n 3, 1) := by decide +kernel
theorem dX5_solve_86 : decode cX5_solve 86 = .ok (.iinc 5 1, 3) := by decide +kernel
theorem dX5_solve_89 : decode cX5_solve 89 = .ok (.goto (-61), 3) := by decide +kernel
theorem dX5_solve_92 : decode cX5_solve 92 = .ok (.lload_n 3, 1) := by decide +kernel
theorem dX5_solve_93 : decode cX5_solve 93 = .ok (.lconst 0, 1) := by decide +kernel
theorem dX5_solve_94 : decode cX5_solve 94 = .ok (.lcmp, 1) := by decide +kernel
theorem dX5_solve_95 : decode cX5_solve 95 = .ok (.ifCond .eq 7, 3) := by decide +kernel
theorem dX5_solve_98 : decode cX5_solve 98 = .ok (.iconst 1, 1) := by decide +kernel
theorem dX5_solve_99 : decode cX5_solve 99 = .ok (.goto 4, 3) := by decide +kernel
theorem dX5_solve_102 : decode cX5_solve 102 = .ok (.iconst 0, 1) := by decide +kernel
theorem dX5_solve_103 : decode cX5_solve 103 = .ok (.istore 5, 2) := by decide +kernel
theorem dX5_solve_105 : decode cX5_solve 105 = .ok (.iconst 0, 1) := by decide +kernel
theorem dX5_solve_106 : decode cX5_solve 106 = .ok (.istore 6, 2) := by decide +kernel
theorem dX5_solve_108 : decode cX5_solve 108 = .ok (.iload 6, 2) := by decide +kernel
theorem dX5_solve_110 : decode cX5_solve 110 = .ok (.iload_n 2, 1) := by decide +kernel
theorem dX5_solve_111 : decode cX5_solve 111 = .ok (.if_icmp .ge 68, 3) := by decide +kernel
theorem dX5_solve_114 : decode cX5_solve 114 = .ok (.aload_n 0, 1) := by decide +kernel
theorem dX5_solve_115 : decode cX5_solve 115 = .ok (.getfield 53, 3) := by decide +kernel
theorem dX5_solve_118 : decode cX5_solve 118 = .ok (.aload_n 0, 1) := by decide +kernel
theorem dX5_solve_119 : decode cX5_solve 119 = .ok (.getfield 47, 3) := by decide +kernel
theorem dX5_solve_122 : decode cX5_solve 122 = .ok (.iload 6, 2) := by decide +kernel
theorem dX5_solve_124 : decode cX5_solve 124 = .ok (.iaload, 1) := by decide +kernel
theorem dX5_solve_125 : decode cX5_solve 125 = .ok (.laload, 1) := by decide +kernel
theorem dX5_solve_126 : decode cX5_solve 126 = .ok (.lstore 7, 2) := by decide +kernel
theorem dX5_solve_128 : decode cX5_solve 128 = .ok (.iload 5, 2) := by decide +kernel
theorem dX5_solve_130 : decode cX5_solve 130 = .ok (.ifCond .eq 40, 3) := by decide +kernel
theorem dX5_solve_133 : decode cX5_solve 133 = .ok (.lload 7, 2) := by decide +kernel
theorem dX5_solve_135 : decode cX5_solve 135 = .ok (.lconst 0, 1) := by decide +kernel
theorem dX5_solve_136 : decode cX5_solve 136 = .ok (.lcmp, 1) := by decide +kernel
theorem dX5_solve_137 : decode cX5_solve 137 = .ok (.ifCond .eq 33, 3) := by decide +kernel
theorem dX5_solve_140 : decode cX5_solve 140 = .ok (.lload 7, 2) := by decide +kernel
theorem dX5_solve_142 : decode cX5_solve 142 = .ok (.lconst 0, 1) := by decide +kernel
theorem dX5_solve_143 : decode cX5_solve 143 = .ok (.lcmp, 1) := by decide +kernel
theorem dX5_solve_144 : decode cX5_solve 144 = .ok (.ifCond .le 7, 3) := by decide +kernel
theorem dX5_solve_147 : decode cX5_solve 147 = .ok (.iconst 1, 1) := by decide +kernel
theorem dX5_solve_148 : decode cX5_solve 148 = .ok (.goto 4, 3) := by decide +kernel
theorem dX5_solve_151 : decode cX5_solve 151 = .ok (.iconst 0, 1) := by decide +kernel
theorem dX5_solve_152 : decode cX5_solve 152 = .ok (.lload_n 3, 1) := by decide +kernel
theorem dX5_solve_153 : decode cX5_solve 153 = .ok (.lconst 0, 1) := by decide +kernel
theorem dX5_solve_154 : decode cX5_solve 154 = .ok (.lcmp, 1) := by decide +kernel
theorem dX5_solve_155 : decode cX5_solve 155 = .ok (.ifCond .le 7, 3) := by decide +kernel
theorem dX5_solve_158 : decode cX5_solve 158 = .ok (.iconst 1, 1) := by decide +kernel
theorem dX5_solve_159 : decode cX5_solve 159 = .ok (.goto 4, 3) := by decide +kernel
theorem dX5_solve_162 : decode cX5_solve 162 = .ok (.iconst 0, 1) := by decide +kernel
theorem dX5_solve_163 : decode cX5_solve 163 = .ok (.if_icmp .ne 7, 3) := by decide +kernel
theorem dX5_solve_166 : decode cX5_solve 166 = .ok (.iconst 1, 1) := by decide +kernel
theorem dX5_solve_167 : decode cX5_solve 167 = .ok (.goto 4, 3) := by decide +kernel
theorem dX5_solve_170 : decode cX5_solve 170 = .ok (.iconst 0, 1) := by decide +kernel
theorem dX5_solve_171 : decode cX5_solve 171 = .ok (.istore 5, 2) := by decide +kernel
theorem dX5_solve_173 : decode cX5_solve 173 = .ok (.iinc 6 1, 3) := by decide +kernel
theorem dX5_solve_176 : decode cX5_solve 176 = .ok (.goto (-68), 3) := by decide +kernel
theorem dX5_solve_179 : decode cX5_solve 179 = .ok (.iload 5, 2) := by decide +kernel
theorem dX5_solve_181 : decode cX5_solve 181 = .ok (.ifCond .ne 5, 3) := by decide +kernel
theorem dX5_solve_184 : decode cX5_solve 184 = .ok (.iconst 0, 1) := by decide +kernel
theorem dX5_solve_185 : decode cX5_solve 185 = .ok (.ireturn, 1) := by decide +kernel
theorem dX5_solve_186 : decode cX5_solve 186 = .ok (.lconst 0, 1) := by decide +kernel
theorem dX5_solve_187 : decode cX5_solve 187 = .ok (.lstore 6, 2) := by decide +kernel
theorem dX5_solve_189 : decode cX5_solve 189 = .ok (.iconst 0, 1) := by decide +kernel
theorem dX5_solve_190 : decode cX5_solve 190 = .ok (.istore 8, 2) := by decide +kernel
theorem dX5_solve_192 : decode cX5_solve 192 = .ok (.iload 8, 2) := by decide +kernel
theorem dX5_solve_194 : decode cX5_solve 194 = .ok (.iconst 4, 1) := by decide +kernel
theorem dX5_solve_195 : decode cX5_solve 195 = .ok (.if_icmp .ge 54, 3) := by decide +kernel
theorem dX5_solve_198 : decode cX5_solve 198 = .ok (.aload_n 0, 1) := by decide +kernel
theorem dX5_solve_199 : decode cX5_solve 199 = .ok (.getfield 53, 3) := by decide +kernel
theorem dX5_solve_202 : decode cX5_solve 202 = .ok (.iload 8, 2) := by decide +kernel
theorem dX5_solve_204 : decode cX5_solve 204 = .ok (.lload_n 3, 1) := by decide +kernel
theorem dX5_solve_205 : decode cX5_solve 205 = .ok (.lconst 0, 1) := by decide +kernel
theorem dX5_solve_206 : decode cX5_solve 206 = .ok (.lcmp, 1) := by decide +kernel
theorem dX5_solve_207 : decode cX5_solve 207 = .ok (.ifCond .ge 14, 3) := by decide +kernel
theorem dX5_solve_210 : decode cX5_solve 210 = .ok (.aload_n 0, 1) := by decide +kernel
theorem dX5_solve_211 : decode cX5_solve 211 = .ok (.getfield 53, 3) := by decide +kernel
theorem dX5_solve_214 : decode cX5_solve 214 = .ok (.iload 8, 2) := by decide +kernel
theorem dX5_solve_216 : decode cX5_solve 216 = .ok (.laload, 1) := by decide +kernel
theorem dX5_solve_217 : decode cX5_solve 217 = .ok (.lneg, 1) := by decide +kernel
theorem dX5_solve_218 : decode cX5_solve 218 = .ok (.goto 10, 3) := by decide +kernel
theorem dX5_solve_221 : decode cX5_solve 221 = .ok (.aload_n 0, 1) := by decide +kernel
theorem dX5_solve_222 : decode cX5_solve 222 = .ok (.getfield 53, 3) := by decide +kernel
theorem dX5_solve_225 : decode cX5_solve 225 = .ok (.iload 8, 2) := by decide +kernel
theorem dX5_solve_227 : decode cX5_solve 227 = .ok (.laload, 1) := by decide +kernel
theorem dX5_solve_228 : decode cX5_solve 228 = .ok (.lastore, 1) := by decide +kernel
theorem dX5_solve_229 : decode cX5_solve 229 = .ok (.lload 6, 2) := by decide +kernel
theorem dX5_solve_231 : decode cX5_solve 231 = .ok (.aload_n 0, 1) := by decide +kernel
theorem dX5_solve_232 : decode cX5_solve 232 = .ok (.getfield 53, 3) := by decide +kernel
theorem dX5_solve_235 : decode cX5_solve 235 = .ok (.iload 8, 2) := by decide +kernel
theorem dX5_solve_237 : decode cX5_solve 237 = .ok (.laload, 1) := by decide +kernel
theorem dX5_solve_238 : decode cX5_solve 238 = .ok (.invokestatic 97, 3) := by decide +kernel
theorem dX5_solve_241 : decode cX5_solve 241 = .ok (.lstore 6, 2) := by decide +kernel
theorem dX5_solve_243 : decode cX5_solve 243 = .ok (.iinc 8 1, 3) := by decide +kernel
theorem dX5_solve_246 : decode cX5_solve 246 = .ok (.goto (-54), 3) := by decide +kernel
theorem dX5_solve_249 : decode cX5_solve 249 = .ok (.iconst 0, 1) := by decide +kernel
theorem dX5_solve_250 : decode cX5_solve 250 = .ok (.istore 8, 2) := by decide +kernel
theorem dX5_solve_252 : decode cX5_solve 252 = .ok (.iload 8, 2) := by decide +kernel
theorem dX5_solve_254 : decode cX5_solve 254 = .ok (.iconst 4, 1) := by decide +kernel
theorem dX5_solve_255 : decode cX5_solve 255 = .ok (.if_icmp .ge 21, 3) := by decide +kernel
theorem dX5_solve_258 : decode cX5_solve 258 = .ok (.aload_n 0, 1) := by decide +kernel
theorem dX5_solve_259 : decode cX5_solve 259 = .ok (.getfield 53, 3) := by decide +kernel
theorem dX5_solve_262 : decode cX5_solve 262 = .ok (.iload 8, 2) := by decide +kernel
theorem dX5_solve_264 : decode cX5_solve 264 = .ok (.dup2, 1) := by decide +kernel
theorem dX5_solve_265 : decode cX5_solve 265 = .ok (.laload, 1) := by decide +kernel
theorem dX5_solve_266 : decode cX5_solve 266 = .ok (.lload 6, 2) := by decide +kernel
theorem dX5_solve_268 : decode cX5_solve 268 = .ok (.ldiv, 1) := by decide +kernel
theorem dX5_solve_269 : decode cX5_solve 269 = .ok (.lastore, 1) := by decide +kernel
theorem dX5_solve_270 : decode cX5_solve 270 = .ok (.iinc 8 1, 3) := by decide +kernel
theorem dX5_solve_273 : decode cX5_solve 273 = .ok (.goto (-21), 3) := by decide +kernel
theorem dX5_solve_276 : decode cX5_solve 276 = .ok (.iconst 1, 1) := by decide +kernel
theorem dX5_solve_277 : decode cX5_solve 277 = .ok (.ireturn, 1) := by decide +kernel
theorem dX5_ahead_0 : decode cX5_ahead 0 = .ok (.aload_n 0, 1) := by decide +kernel
theorem dX5_ahead_1 : decode cX5_ahead 1 = .ok (.getfield 53, 3) := by decide +kernel
theorem dX5_ahead_4 : decode cX5_ahead 4 = .ok (.iconst 0, 1) := by decide +kernel
theorem dX5_ahead_5 : decode cX5_ahead 5 = .ok (.laload, 1) := by decide +kernel
theorem dX5_ahead_6 : decode cX5_ahead 6 = .ok (.aload_n 0, 1) := by decide +kernel
theorem dX5_ahead_7 : decode cX5_ahead 7 = .ok (.getfield 53, 3) := by decide +kernel
theorem dX5_ahead_10 : decode cX5_ahead 10 = .ok (.iconst 1, 1) := by decide +kernel
theorem dX5_ahead_11 : decode cX5_ahead 11 = .ok (.laload, 1) := by decide +kernel
theorem dX5_ahead_12 : decode cX5_ahead 12 = .ok (.ladd, 1) := by decide +kernel
theorem dX5_ahead_13 : decode cX5_ahead 13 = .ok (.aload_n 0, 1) := by decide +kernel
theorem dX5_ahead_14 : decode cX5_ahead 14 = .ok (.getfield 53, 3) := by decide +kernel
theorem dX5_ahead_17 : decode cX5_ahead 17 = .ok (.iconst 2, 1) := by decide +kernel
theorem dX5_ahead_18 : decode cX5_ahead 18 = .ok (.laload, 1) := by decide +kernel
theorem dX5_ahead_19 : decode cX5_ahead 19 = .ok (.ladd, 1) := by decide +kernel
theorem dX5_ahead_20 : decode cX5_ahead 20 = .ok (.aload_n 0, 1) := by decide +kernel
theorem dX5_ahead_21 : decode cX5_ahead 21 = .ok (.getfield 53, 3) := by decide +kernel
theorem dX5_ahead_24 : decode cX5_ahead 24 = .ok (.iconst 3, 1) := by decide +kernel
theorem dX5_ahead_25 : decode cX5_ahead 25 = .ok (.laload, 1) := by decide +kernel
theorem dX5_ahead_26 : decode cX5_ahead 26 = .ok (.ladd, 1) := by decide +kernel
theorem dX5_ahead_27 : decode cX5_ahead 27 = .ok (.lstore_n 2, 1) := by decide +kernel
theorem dX5_ahead_28 : decode cX5_ahead 28 = .ok (.iconst 0, 1) := by decide +kernel
theorem dX5_ahead_29 : decode cX5_ahead 29 = .ok (.istore 4, 2) := by decide +kernel
theorem dX5_ahead_31 : decode cX5_ahead 31 = .ok (.iload 4, 2) := by decide +kernel
theorem dX5_ahead_33 : decode cX5_ahead 33 = .ok (.iconst 4, 1) := by decide +kernel
theorem dX5_ahead_34 : decode cX5_ahead 34 = .ok (.if_icmp .ge 62, 3) := by decide +kernel
theorem dX5_ahead_37 : decode cX5_ahead 37 = .ok (.aload_n 0, 1) := by decide +kernel
theorem dX5_ahead_38 : decode cX5_ahead 38 = .ok (.getfield 53, 3) := by decide +kernel
theorem dX5_ahead_41 : decode cX5_ahead 41 = .ok (.iload 4, 2) := by decide +kernel
theorem dX5_ahead_43 : decode cX5_ahead 43 = .ok (.laload, 1) := by decide +kernel
theorem dX5_ahead_44 : decode cX5_ahead 44 = .ok (.aload_n 0, 1) := by decide +kernel
theorem dX5_ahead_45 : decode cX5_ahead 45 = .ok (.getfield 35, 3) := by decide +kernel
theorem dX5_ahead_48 : decode cX5_ahead 48 = .ok (.iload_n 1, 1) := by decide +kernel
theorem dX5_ahead_49 : decode cX5_ahead 49 = .ok (.laload, 1) := by decide +kernel
theorem dX5_ahead_50 : decode cX5_ahead 50 = .ok (.lmul, 1) := by decide +kernel
theorem dX5_ahead_51 : decode cX5_ahead 51 = .ok (.lstore 5, 2) := by decide +kernel
theorem dX5_ahead_53 : decode cX5_ahead 53 = .ok (.aload_n 0, 1) := by decide +kernel
theorem dX5_ahead_54 : decode cX5_ahead 54 = .ok (.getfield 32, 3) := by decide +kernel
theorem dX5_ahead_57 : decode cX5_ahead 57 = .ok (.iconst 4, 1) := by decide +kernel
theorem dX5_ahead_58 : decode cX5_ahead 58 = .ok (.iload_n 1, 1) := by decide +kernel
theorem dX5_ahead_59 : decode cX5_ahead 59 = .ok (.imul, 1) := by decide +kernel
theorem dX5_ahead_60 : decode cX5_ahead 60 = .ok (.iload 4, 2) := by decide +kernel
theorem dX5_ahead_62 : decode cX5_ahead 62 = .ok (.iadd, 1) := by decide +kernel
theorem dX5_ahead_63 : decode cX5_ahead 63 = .ok (.laload, 1) := by decide +kernel
theorem dX5_ahead_64 : decode cX5_ahead 64 = .ok (.lload_n 2, 1) := by decide +kernel
theorem dX5_ahead_65 : decode cX5_ahead 65 = .ok (.lmul, 1) := by decide +kernel
theorem dX5_ahead_66 : decode cX5_ahead 66 = .ok (.lstore 7, 2) := by decide +kernel
theorem dX5_ahead_68 : decode cX5_ahead 68 = .ok (.lload 5, 2) := by decide +kernel
theorem dX5_ahead_70 : decode cX5_ahead 70 = .ok (.lload 7, 2) := by decide +kernel
theorem dX5_ahead_72 : decode cX5_ahead 72 = .ok (.lcmp, 1) := by decide +kernel
theorem dX5_ahead_73 : decode cX5_ahead 73 = .ok (.ifCond .eq 17, 3) := by decide +kernel
theorem dX5_ahead_76 : decode cX5_ahead 76 = .ok (.lload 5, 2) := by decide +kernel
theorem dX5_ahead_78 : decode cX5_ahead 78 = .ok (.lload 7, 2) := by decide +kernel
theorem dX5_ahead_80 : decode cX5_ahead 80 = .ok (.lcmp, 1) := by decide +kernel
theorem dX5_ahead_81 : decode cX5_ahead 81 = .ok (.ifCond .le 7, 3) := by decide +kernel
theorem dX5_ahead_84 : decode cX5_ahead 84 = .ok (.iconst 1, 1) := by decide +kernel
theorem dX5_ahead_85 : decode cX5_ahead 85 = .ok (.goto 4, 3) := by decide +kernel
theorem dX5_ahead_88 : decode cX5_ahead 88 = .ok (.iconst (-1), 1) := by decide +kernel
theorem dX5_ahead_89 : decode cX5_ahead 89 = .ok (.ireturn, 1) := by decide +kernel
theorem dX5_ahead_90 : decode cX5_ahead 90 = .ok (.iinc 4 1, 3) := by decide +kernel
theorem dX5_ahead_93 : decode cX5_ahead 93 = .ok (.goto (-62), 3) := by decide +kernel
theorem dX5_ahead_96 : decode cX5_ahead 96 = .ok (.iconst 0, 1) := by decide +kernel
theorem dX5_ahead_97 : decode cX5_ahead 97 = .ok (.ireturn, 1) := by decide +kernel
theorem dX5_put_0 : decode cX5_put 0 = .ok (.bipush 80, 2) := by decide +kernel
theorem dX5_put_2 : decode cX5_put 2 = .ok (.iload_n 1, 1) := by decide +kernel
theorem dX5_put_3 : decode cX5_put 3 = .ok (.imul, 1) := by decide +kernel
theorem dX5_put_4 : decode cX5_put 4 = .ok (.istore 4, 2) := by decide +kernel
theorem dX5_put_6 : decode cX5_put 6 = .ok (.iload 4, 2) := by decide +kernel
theorem dX5_put_8 : decode cX5_put 8 = .ok (.bipush 80, 2) := by decide +kernel
theorem dX5_put_10 : decode cX5_put 10 = .ok (.iload_n 1, 1) := by decide +kernel
theorem dX5_put_11 : decode cX5_put 11 = .ok (.imul, 1) := by decide +kernel
theorem dX5_put_12 : decode cX5_put 12 = .ok (.aload_n 0, 1) := by decide +kernel
theorem dX5_put_13 : decode cX5_put 13 = .ok (.getfield 29, 3) := by decide +kernel
theorem dX5_put_16 : decode cX5_put 16 = .ok (.iload_n 1, 1) := by decide +kernel
theorem dX5_put_17 : decode cX5_put 17 = .ok (.iaload, 1) := by decide +kernel
theorem dX5_put_18 : decode cX5_put 18 = .ok (.iadd, 1) := by decide +kernel
theorem dX5_put_19 : decode cX5_put 19 = .ok (.if_icmp .ge 18, 3) := by decide +kernel
theorem dX5_put_22 : decode cX5_put 22 = .ok (.aload_n 0, 1) := by decide +kernel
theorem dX5_put_23 : decode cX5_put 23 = .ok (.iload 4, 2) := by decide +kernel
theorem dX5_put_25 : decode cX5_put 25 = .ok (.invokevirtual 137, 3) := by decide +kernel
theorem dX5_put_28 : decode cX5_put 28 = .ok (.ifCond .ge 9, 3) := by decide +kernel
theorem dX5_put_31 : decode cX5_put 31 = .ok (.iinc 4 1, 3) := by decide +kernel
theorem dX5_put_34 : decode cX5_put 34 = .ok (.goto (-28), 3) := by decide +kernel
theorem dX5_put_37 : decode cX5_put 37 = .ok (.iload 4, 2) := by decide +kernel
theorem dX5_put_39 : decode cX5_put 39 = .ok (.bipush 80, 2) := by decide +kernel
theorem dX5_put_41 : decode cX5_put 41 = .ok (.iload_n 1, 1) := by decide +kernel
theorem dX5_put_42 : decode cX5_put 42 = .ok (.imul, 1) := by decide +kernel
theorem dX5_put_43 : decode cX5_put 43 = .ok (.aload_n 0, 1) := by decide +kernel
theorem dX5_put_44 : decode cX5_put 44 = .ok (.getfield 29, 3) := by decide +kernel
theorem dX5_put_47 : decode cX5_put 47 = .ok (.iload_n 1, 1) := by decide +kernel
theorem dX5_put_48 : decode cX5_put 48 = .ok (.iaload, 1) := by decide +kernel
theorem dX5_put_49 : decode cX5_put 49 = .ok (.iadd, 1) := by decide +kernel
theorem dX5_put_50 : decode cX5_put 50 = .ok (.if_icmp .ge 13, 3) := by decide +kernel
theorem dX5_put_53 : decode cX5_put 53 = .ok (.aload_n 0, 1) := by decide +kernel
theorem dX5_put_54 : decode cX5_put 54 = .ok (.iload 4, 2) := by decide +kernel
theorem dX5_put_56 : decode cX5_put 56 = .ok (.invokevirtual 137, 3) := by decide +kernel
theorem dX5_put_59 : decode cX5_put 59 = .ok (.ifCond .ne 4, 3) := by decide +kernel
theorem dX5_put_62 : decode cX5_put 62 = .ok (.return_, 1) := by decide +kernel
theorem dX5_put_63 : decode cX5_put 63 = .ok (.bipush 80, 2) := by decide +kernel
theorem dX5_put_65 : decode cX5_put 65 = .ok (.iload_n 1, 1) := by decide +kernel
theorem dX5_put_66 : decode cX5_put 66 = .ok (.imul, 1) := by decide +kernel
theorem dX5_put_67 : decode cX5_put 67 = .ok (.aload_n 0, 1) := by decide +kernel
theorem dX5_put_68 : decode cX5_put 68 = .ok (.getfield 29, 3) := by decide +kernel
theorem dX5_put_71 : decode cX5_put 71 = .ok (.iload_n 1, 1) := by decide +kernel
theorem dX5_put_72 : decode cX5_put 72 = .ok (.iaload, 1) := by decide +kernel
theorem dX5_put_73 : decode cX5_put 73 = .ok (.iadd, 1) := by decide +kernel
theorem dX5_put_74 : decode cX5_put 74 = .ok (.istore 5, 2) := by decide +kernel
theorem dX5_put_76 : decode cX5_put 76 = .ok (.iload 5, 2) := by decide +kernel
theorem dX5_put_78 : decode cX5_put 78 = .ok (.iload 4, 2) := by decide +kernel
theorem dX5_put_80 : decode cX5_put 80 = .ok (.if_icmp .le 98, 3) := by decide +kernel
theorem dX5_put_83 : decode cX5_put 83 = .ok (.aload_n 0, 1) := by decide +kernel
theorem dX5_put_84 : decode cX5_put 84 = .ok (.getfield 35, 3) := by decide +kernel
theorem dX5_put_87 : decode cX5_put 87 = .ok (.iload 5, 2) := by decide +kernel
theorem dX5_put_89 : decode cX5_put 89 = .ok (.aload_n 0, 1) := by decide +kernel
theorem dX5_put_90 : decode cX5_put 90 = .ok (.getfield 35, 3) := by decide +kernel
theorem dX5_put_93 : decode cX5_put 93 = .ok (.iload 5, 2) := by decide +kernel
theorem dX5_put_95 : decode cX5_put 95 = .ok (.iconst 1, 1) := by decide +kernel
theorem dX5_put_96 : decode cX5_put 96 = .ok (.isub, 1) := by decide +kernel
theorem dX5_put_97 : decode cX5_put 97 = .ok (.laload, 1) := by decide +kernel
theorem dX5_put_98 : decode cX5_put 98 = .ok (.lastore, 1) := by decide +kernel
theorem dX5_put_99 : decode cX5_put 99 = .ok (.aload_n 0, 1) := by decide +kernel
theorem dX5_put_100 : decode cX5_put 100 = .ok (.getfield 38, 3) := by decide +kernel
theorem dX5_put_103 : decode cX5_put 103 = .ok (.iload 5, 2) := by decide +kernel
theorem dX5_put_105 : decode cX5_put 105 = .ok (.aload_n 0, 1) := by decide +kernel
theorem dX5_put_106 : decode cX5_put 106 = .ok (.getfield 38, 3) := by decide +kernel
theorem dX5_put_109 : decode cX5_put 109 = .ok (.iload 5, 2) := by decide +kernel
theorem dX5_put_111 : decode cX5_put 111 = .ok (.iconst 1, 1) := by decide +kernel
theorem dX5_put_112 : decode cX5_put 112 = .ok (.isub, 1) := by decide +kernel
theorem dX5_put_113 : decode cX5_put 113 = .ok (.iaload, 1) := by decide +kernel
theorem dX5_put_114 : decode cX5_put 114 = .ok (.iastore, 1) := by decide +kernel
theorem dX5_put_115 : decode cX5_put 115 = .ok (.aload_n 0, 1) := by decide +kernel
theorem dX5_put_116 : decode cX5_put 116 = .ok (.getfield 41, 3) := by decide +kernel
theorem dX5_put_119 : decode cX5_put 119 = .ok (.iload 5, 2) := by decide +kernel
theorem dX5_put_121 : decode cX5_put 121 = .ok (.aload_n 0, 1) := by decide +kernel
theorem dX5_put_122 : decode cX5_put 122 = .ok (.getfield 41, 3) := by decide +kernel
theorem dX5_put_125 : decode cX5_put 125 = .ok (.iload 5, 2) := by decide +kernel
theorem dX5_put_127 : decode cX5_put 127 = .ok (.iconst 1, 1) := by decide +kernel
theorem dX5_put_128 : decode cX5_put 128 = .ok (.isub, 1) := by decide +kernel
theorem dX5_put_129 : decode cX5_put 129 = .ok (.iaload, 1) := by decide +kernel
theorem dX5_put_130 : decode cX5_put 130 = .ok (.iastore, 1) := by decide +kernel
theorem dX5_put_131 : decode cX5_put 131 = .ok (.iconst 0, 1) := by decide +kernel
theorem dX5_put_132 : decode cX5_put 132 = .ok (.istore 6, 2) := by decide +kernel
theorem dX5_put_134 : decode cX5_put 134 = .ok (.iload 6, 2) := by decide +kernel
theorem dX5_put_136 : decode cX5_put 136 = .ok (.iconst 4, 1) := by decide +kernel
theorem dX5_put_137 : decode cX5_put 137 = .ok (.if_icmp .ge 35, 3) := by decide +kernel
theorem dX5_put_140 : decode cX5_put 140 = .ok (.aload_n 0, 1) := by decide +kernel
theorem dX5_put_141 : decode cX5_put 141 = .ok (.getfield 32, 3) := by decide +kernel
theorem dX5_put_144 : decode cX5_put 144 = .ok (.iconst 4, 1) := by decide +kernel
theorem dX5_put_145 : decode cX5_put 145 = .ok (.iload 5, 2) := by decide +kernel
theorem dX5_put_147 : decode cX5_put 147 = .ok (.imul, 1) := by decide +kernel
theorem dX5_put_148 : decode cX5_put 148 = .ok (.iload 6, 2) := by decide +kernel
theorem dX5_put_150 : decode cX5_put 150 = .ok (.iadd, 1) := by decide +kernel
theorem dX5_put_151 : decode cX5_put 151 = .ok (.aload_n 0, 1) := by decide +kernel
theorem dX5_put_152 : decode cX5_put 152 = .ok (.getfield 32, 3) := by decide +kernel
theorem dX5_put_155 : decode cX5_put 155 = .ok (.iconst 4, 1) := by decide +kernel
theorem dX5_put_156 : decode cX5_put 156 = .ok (.iload 5, 2) := by decide +kernel
theorem dX5_put_158 : decode cX5_put 158 = .ok (.imul, 1) := by decide +kernel
theorem dX5_put_159 : decode cX5_put 159 = .ok (.iconst 4, 1) := by decide +kernel
theorem dX5_put_160 : decode cX5_put 160 = .ok (.isub, 1) := by decide +kernel
theorem dX5_put_161 : decode cX5_put 161 = .ok (.iload 6, 2) := by decide +kernel
theorem dX5_put_163 : decode cX5_put 163 = .ok (.iadd, 1) := by decide +kernel
theorem dX5_put_164 : decode cX5_put 164 = .ok (.laload, 1) := by decide +kernel
theorem dX5_put_165 : decode cX5_put 165 = .ok (.lastore, 1) := by decide +kernel
theorem dX5_put_166 : decode cX5_put 166 = .ok (.iinc 6 1, 3) := by decide +kernel
theorem dX5_put_169 : decode cX5_put 169 = .ok (.goto (-35), 3) := by decide +kernel
theorem dX5_put_172 : decode cX5_put 172 = .ok (.iinc 5 (-1), 3) := by decide +kernel
theorem dX5_put_175 : decode cX5_put 175 = .ok (.goto (-99), 3) := by decide +kernel
theorem dX5_put_178 : decode cX5_put 178 = .ok (.aload_n 0, 1) := by decide +kernel
theorem dX5_put_179 : decode cX5_put 179 = .ok (.getfield 29, 3) := by decide +kernel
theorem dX5_put_182 : decode cX5_put 182 = .ok (.iload_n 1, 1) := by decide +kernel
theorem dX5_put_183 : decode cX5_put 183 = .ok (.dup2, 1) := by decide +kernel
theorem dX5_put_184 : decode cX5_put 184 = .ok (.iaload, 1) := by decide +kernel
theorem dX5_put_185 : decode cX5_put 185 = .ok (.iconst 1, 1) := by decide +kernel
theorem dX5_put_186 : decode cX5_put 186 = .ok (.iadd, 1) := by decide +kernel
theorem dX5_put_187 : decode cX5_put 187 = .ok (.iastore, 1) := by decide +kernel
theorem dX5_put_188 : decode cX5_put 188 = .ok (.aload_n 0, 1) := by decide +kernel
theorem dX5_put_189 : decode cX5_put 189 = .ok (.getfield 35, 3) := by decide +kernel
theorem dX5_put_192 : decode cX5_put 192 = .ok (.iload 4, 2) := by decide +kernel
theorem dX5_put_194 : decode cX5_put 194 = .ok (.aload_n 0, 1) := by decide +kernel
theorem dX5_put_195 : decode cX5_put 195 = .ok (.getfield 53, 3) := by decide +kernel
theorem dX5_put_198 : decode cX5_put 198 = .ok (.iconst 0, 1) := by decide +kernel
theorem dX5_put_199 : decode cX5_put 199 = .ok (.laload, 1) := by decide +kernel
theorem dX5_put_200 : decode cX5_put 200 = .ok (.aload_n 0, 1) := by decide +kernel
theorem dX5_put_201 : decode cX5_put 201 = .ok (.getfield 53, 3) := by decide +kernel
theorem dX5_put_204 : decode cX5_put 204 = .ok (.iconst 1, 1) := by decide +kernel
theorem dX5_put_205 : decode cX5_put 205 = .ok (.laload, 1) := by decide +kernel
theorem dX5_put_206 : decode cX5_put 206 = .ok (.ladd, 1) := by decide +kernel
theorem dX5_put_207 : decode cX5_put 207 = .ok (.aload_n 0, 1) := by decide +kernel
theorem dX5_put_208 : decode cX5_put 208 = .ok (.getfield 53, 3) := by decide +kernel
theorem dX5_put_211 : decode cX5_put 211 = .ok (.iconst 2, 1) := by decide +kernel
theorem dX5_put_212 : decode cX5_put 212 = .ok (.laload, 1) := by decide +kernel
theorem dX5_put_213 : decode cX5_put 213 = .ok (.ladd, 1) := by decide +kernel
theorem dX5_put_214 : decode cX5_put 214 = .ok (.aload_n 0, 1) := by decide +kernel
theorem dX5_put_215 : decode cX5_put 215 = .ok (.getfield 53, 3) := by decide +kernel
theorem dX5_put_218 : decode cX5_put 218 = .ok (.iconst 3, 1) := by decide +kernel
theorem dX5_put_219 : decode cX5_put 219 = .ok (.laload, 1) := by decide +kernel
theorem dX5_put_220 : decode cX5_put 220 = .ok (.ladd, 1) := by decide +kernel
theorem dX5_put_221 : decode cX5_put 221 = .ok (.lastore, 1) := by decide +kernel
theorem dX5_put_222 : decode cX5_put 222 = .ok (.aload_n 0, 1) := by decide +kernel
theorem dX5_put_223 : decode cX5_put 223 = .ok (.getfield 38, 3) := by decide +kernel
theorem dX5_put_226 : decode cX5_put 226 = .ok (.iload 4, 2) := by decide +kernel
theorem dX5_put_228 : decode cX5_put 228 = .ok (.iload_n 2, 1) := by decide +kernel
theorem dX5_put_229 : decode cX5_put 229 = .ok (.iastore, 1) := by decide +kernel
theorem dX5_put_230 : decode cX5_put 230 = .ok (.aload_n 0, 1) := by decide +kernel
theorem dX5_put_231 : decode cX5_put 231 = .ok (.getfield 41, 3) := by decide +kernel
theorem dX5_put_234 : decode cX5_put 234 = .ok (.iload 4, 2) := by decide +kernel
theorem dX5_put_236 : decode cX5_put 236 = .ok (.iload_n 3, 1) := by decide +kernel
theorem dX5_put_237 : decode cX5_put 237 = .ok (.iastore, 1) := by decide +kernel
theorem dX5_put_238 : decode cX5_put 238 = .ok (.iconst 0, 1) := by decide +kernel
theorem dX5_put_239 : decode cX5_put 239 = .ok (.istore 5, 2) := by decide +kernel
theorem dX5_put_241 : decode cX5_put 241 = .ok (.iload 5, 2) := by decide +kernel
theorem dX5_put_243 : decode cX5_put 243 = .ok (.iconst 4, 1) := by decide +kernel
theorem dX5_put_244 : decode cX5_put 244 = .ok (.if_icmp .ge 28, 3) := by decide +kernel
theorem dX5_put_247 : decode cX5_put 247 = .ok (.aload_n 0, 1) := by decide +kernel
theorem dX5_put_248 : decode cX5_put 248 = .ok (.getfield 32, 3) := by decide +kernel
theorem dX5_put_251 : decode cX5_put 251 = .ok (.iconst 4, 1) := by decide +kernel
theorem dX5_put_252 : decode cX5_put 252 = .ok (.iload 4, 2) := by decide +kernel
theorem dX5_put_254 : decode cX5_put 254 = .ok (.imul, 1) := by decide +kernel
theorem dX5_put_255 : decode cX5_put 255 = .ok (.iload 5, 2) := by decide +kernel
theorem dX5_put_257 : decode cX5_put 257 = .ok (.iadd, 1) := by decide +kernel
theorem dX5_put_258 : decode cX5_put 258 = .ok (.aload_n 0, 1) := by decide +kernel
theorem dX5_put_259 : decode cX5_put 259 = .ok (.getfield 53, 3) := by decide +kernel
theorem dX5_put_262 : decode cX5_put 262 = .ok (.iload 5, 2) := by decide +kernel
theorem dX5_put_264 : decode cX5_put 264 = .ok (.laload, 1) := by decide +kernel
theorem dX5_put_265 : decode cX5_put 265 = .ok (.lastore, 1) := by decide +kernel
theorem dX5_put_266 : decode cX5_put 266 = .ok (.iinc 5 1, 3) := by decide +kernel
theorem dX5_put_269 : decode cX5_put 269 = .ok (.goto (-28), 3) := by decide +kernel
theorem dX5_put_272 : decode cX5_put 272 = .ok (.return_, 1) := by decide +kernel
theorem dX5_findCorners_0 : decode cX5_findCorners 0 = .ok (.aload_n 0, 1) := by decide +kernel
theorem dX5_findCorners_1 : decode cX5_findCorners 1 = .ok (.getfield 29, 3) := by decide +kernel
theorem dX5_findCorners_4 : decode cX5_findCorners 4 = .ok (.iload_n 1, 1) := by decide +kernel
theorem dX5_findCorners_5 : decode cX5_findCorners 5 = .ok (.iconst 0, 1) := by decide +kernel
theorem dX5_findCorners_6 : decode cX5_findCorners 6 = .ok (.iastore, 1) := by decide +kernel
theorem dX5_findCorners_7 : decode cX5_findCorners 7 = .ok (.iconst 1, 1) := by decide +kernel
theorem dX5_findCorners_8 : decode cX5_findCorners 8 = .ok (.istore_n 2, 1) := by decide +kernel
theorem dX5_findCorners_9 : decode cX5_findCorners 9 = .ok (.iload_n 2, 1) := by decide +kernel
theorem dX5_findCorners_10 : decode cX5_findCorners 10 = .ok (.iconst 1, 1) := by decide +kernel
theorem dX5_findCorners_11 : decode cX5_findCorners 11 = .ok (.aload_n 0, 1) := by decide +kernel
theorem dX5_findCorners_12 : decode cX5_findCorners 12 = .ok (.getfield 7, 3) := by decide +kernel
theorem dX5_findCorners_15 : decode cX5_findCorners 15 = .ok (.iload_n 1, 1) := by decide +kernel
theorem dX5_findCorners_16 : decode cX5_findCorners 16 = .ok (.iaload, 1) := by decide +kernel
theorem dX5_findCorners_17 : decode cX5_findCorners 17 = .ok (.ishl, 1) := by decide +kernel
theorem dX5_findCorners_18 : decode cX5_findCorners 18 = .ok (.if_icmp .ge 105, 3) := by decide +kernel
theorem dX5_findCorners_21 : decode cX5_findCorners 21 = .ok (.iconst 1, 1) := by decide +kernel
theorem dX5_findCorners_22 : decode cX5_findCorners 22 = .ok (.istore_n 3, 1) := by decide +kernel
theorem dX5_findCorners_23 : decode cX5_findCorners 23 = .ok (.iload_n 3, 1) := by decide +kernel
theorem dX5_findCorners_24 : decode cX5_findCorners 24 = .ok (.iconst 1, 1) := by decide +kernel
theorem dX5_findCorners_25 : decode cX5_findCorners 25 = .ok (.aload_n 0, 1) := by decide +kernel
theorem dX5_findCorners_26 : decode cX5_findCorners 26 = .ok (.getfield 7, 3) := by decide +kernel
theorem dX5_findCorners_29 : decode cX5_findCorners 29 = .ok (.iconst 1, 1) := by decide +kernel
theorem dX5_findCorners_30 : decode cX5_findCorners 30 = .ok (.iload_n 1, 1) := by decide +kernel
theorem dX5_findCorners_31 : decode cX5_findCorners 31 = .ok (.isub, 1) := by decide +kernel
theorem dX5_findCorners_32 : decode cX5_findCorners 32 = .ok (.iaload, 1) := by decide +kernel
theorem dX5_findCorners_33 : decode cX5_findCorners 33 = .ok (.ishl, 1) := by decide +kernel
theorem dX5_findCorners_34 : decode cX5_findCorners 34 = .ok (.if_icmp .ge 83, 3) := by decide +kernel
theorem dX5_findCorners_37 : decode cX5_findCorners 37 = .ok (.iload_n 2, 1) := by decide +kernel
theorem dX5_findCorners_38 : decode cX5_findCorners 38 = .ok (.invokestatic 140, 3) := by decide +kernel
theorem dX5_findCorners_41 : decode cX5_findCorners 41 = .ok (.iload_n 3, 1) := by decide +kernel
theorem dX5_findCorners_42 : decode cX5_findCorners 42 = .ok (.invokestatic 140, 3) := by decide +kernel
theorem dX5_findCorners_45 : decode cX5_findCorners 45 = .ok (.if_icmp .eq 6, 3) := by decide +kernel
theorem dX5_findCorners_48 : decode cX5_findCorners 48 = .ok (.goto 63, 3) := by decide +kernel
theorem dX5_findCorners_51 : decode cX5_findCorners 51 = .ok (.iload_n 2, 1) := by decide +kernel
theorem dX5_findCorners_52 : decode cX5_findCorners 52 = .ok (.aload_n 0, 1) := by decide +kernel
theorem dX5_findCorners_53 : decode cX5_findCorners 53 = .ok (.getfield 47, 3) := by decide +kernel
theorem dX5_findCorners_56 : decode cX5_findCorners 56 = .ok (.invokestatic 143, 3) := by decide +kernel
theorem dX5_findCorners_59 : decode cX5_findCorners 59 = .ok (.istore 4, 2) := by decide +kernel
theorem dX5_findCorners_61 : decode cX5_findCorners 61 = .ok (.iload_n 3, 1) := by decide +kernel
theorem dX5_findCorners_62 : decode cX5_findCorners 62 = .ok (.aload_n 0, 1) := by decide +kernel
theorem dX5_findCorners_63 : decode cX5_findCorners 63 = .ok (.getfield 50, 3) := by decide +kernel
theorem dX5_findCorners_66 : decode cX5_findCorners 66 = .ok (.invokestatic 143, 3) := by decide +kernel
theorem dX5_findCorners_69 : decode cX5_findCorners 69 = .ok (.istore 5, 2) := by decide +kernel
theorem dX5_findCorners_71 : decode cX5_findCorners 71 = .ok (.aload_n 0, 1) := by decide +kernel
theorem dX5_findCorners_72 : decode cX5_findCorners 72 = .ok (.iload_n 1, 1) := by decide +kernel
theorem dX5_findCorners_73 : decode cX5_findCorners 73 = .ok (.iload 4, 2) := by decide +kernel
theorem dX5_findCorners_75 : decode cX5_findCorners 75 = .ok (.invokevirtual 147, 3) := by decide +kernel
theorem dX5_findCorners_78 : decode cX5_findCorners 78 = .ok (.ifCond .eq 33, 3) := by decide +kernel
theorem dX5_findCorners_81 : decode cX5_findCorners 81 = .ok (.aload_n 0, 1) := by decide +kernel
theorem dX5_findCorners_82 : decode cX5_findCorners 82 = .ok (.iconst 1, 1) := by decide +kernel
theorem dX5_findCorners_83 : decode cX5_findCorners 83 = .ok (.iload_n 1, 1) := by decide +kernel
theorem dX5_findCorners_84 : decode cX5_findCorners 84 = .ok (.isub, 1) := by decide +kernel
theorem dX5_findCorners_85 : decode cX5_findCorners 85 = .ok (.aload_n 0, 1) := by decide +kernel
theorem dX5_findCorners_86 : decode cX5_findCorners 86 = .ok (.getfield 53, 3) := by decide +kernel
theorem dX5_findCorners_89 : decode cX5_findCorners 89 = .ok (.iconst 0, 1) := by decide +kernel
theorem dX5_findCorners_90 : decode cX5_findCorners 90 = .ok (.invokevirtual 105, 3) := by decide +kernel
theorem dX5_findCorners_93 : decode cX5_findCorners 93 = .ok (.istore 6, 2) := by decide +kernel
theorem dX5_findCorners_95 : decode cX5_findCorners 95 = .ok (.iload 6, 2) := by decide +kernel
theorem dX5_findCorners_97 : decode cX5_findCorners 97 = .ok (.iload_n 3, 1) := by decide +kernel
theorem dX5_findCorners_98 : decode cX5_findCorners 98 = .ok (.iand, 1) := by decide +kernel
theorem dX5_findCorners_99 : decode cX5_findCorners 99 = .ok (.iload_n 3, 1) := by decide +kernel
theorem dX5_findCorners_100 : decode cX5_findCorners 100 = .ok (.if_icmp .ne 11, 3) := by decide +kernel
theorem dX5_findCorners_103 : decode cX5_findCorners 103 = .ok (.aload_n 0, 1) := by decide +kernel
theorem dX5_findCorners_104 : decode cX5_findCorners 104 = .ok (.iload_n 1, 1) := by decide +kernel
theorem dX5_findCorners_105 : decode cX5_findCorners 105 = .ok (.iload_n 2, 1) := by decide +kernel
theorem dX5_findCorners_106 : decode cX5_findCorners 106 = .ok (.iload 6, 2) := by decide +kernel
theorem dX5_findCorners_108 : decode cX5_findCorners 108 = .ok (.invokevirtual 150, 3) := by decide +kernel
theorem dX5_findCorners_111 : decode cX5_findCorners 111 = .ok (.iinc 3 1, 3) := by decide +kernel
theorem dX5_findCorners_114 : decode cX5_findCorners 114 = .ok (.goto (-91), 3) := by decide +kernel
theorem dX5_findCorners_117 : decode cX5_findCorners 117 = .ok (.iinc 2 1, 3) := by decide +kernel
theorem dX5_findCorners_120 : decode cX5_findCorners 120 = .ok (.goto (-111), 3) := by decide +kernel
theorem dX5_findCorners_123 : decode cX5_findCorners 123 = .ok (.return_, 1) := by decide +kernel
theorem dX5_corners_0 : decode cX5_corners 0 = .ok (.iload_n 1, 1) := by decide +kernel
theorem dX5_corners_1 : decode cX5_corners 1 = .ok (.invokestatic 62, 3) := by decide +kernel
theorem dX5_corners_4 : decode cX5_corners 4 = .ok (.ifCond .ne 9, 3) := by decide +kernel
theorem dX5_corners_7 : decode cX5_corners 7 = .ok (.aload_n 0, 1) := by decide +kernel
theorem dX5_corners_8 : decode cX5_corners 8 = .ok (.iconst (-1), 1) := by decide +kernel
theorem dX5_corners_9 : decode cX5_corners 9 = .ok (.invokevirtual 70, 3) := by decide +kernel
theorem dX5_corners_12 : decode cX5_corners 12 = .ok (.ireturn, 1) := by decide +kernel
theorem dX5_corners_13 : decode cX5_corners 13 = .ok (.aload_n 0, 1) := by decide +kernel
theorem dX5_corners_14 : decode cX5_corners 14 = .ok (.iload_n 1, 1) := by decide +kernel
theorem dX5_corners_15 : decode cX5_corners 15 = .ok (.invokevirtual 154, 3) := by decide +kernel
theorem dX5_corners_18 : decode cX5_corners 18 = .ok (.aload_n 0, 1) := by decide +kernel
theorem dX5_corners_19 : decode cX5_corners 19 = .ok (.getfield 29, 3) := by decide +kernel
theorem dX5_corners_22 : decode cX5_corners 22 = .ok (.iload_n 1, 1) := by decide +kernel
theorem dX5_corners_23 : decode cX5_corners 23 = .ok (.iaload, 1) := by decide +kernel
theorem dX5_corners_24 : decode cX5_corners 24 = .ok (.ireturn, 1) := by decide +kernel
theorem dX5_corner_0 : decode cX5_corner 0 = .ok (.aload_n 0, 1) := by decide +kernel
theorem dX5_corner_1 : decode cX5_corner 1 = .ok (.iload_n 1, 1) := by decide +kernel
theorem dX5_corner_2 : decode cX5_corner 2 = .ok (.iload_n 3, 1) := by decide +kernel
theorem dX5_corner_3 : decode cX5_corner 3 = .ok (.invokevirtual 74, 3) := by decide +kernel
theorem dX5_corner_6 : decode cX5_corner 6 = .ok (.ifCond .ne 9, 3) := by decide +kernel
theorem dX5_corner_9 : decode cX5_corner 9 = .ok (.aload_n 0, 1) := by decide +kernel
theorem dX5_corner_10 : decode cX5_corner 10 = .ok (.iconst (-1), 1) := by decide +kernel
theorem dX5_corner_11 : decode cX5_corner 11 = .ok (.invokevirtual 70, 3) := by decide +kernel
theorem dX5_corner_14 : decode cX5_corner 14 = .ok (.ireturn, 1) := by decide +kernel
theorem dX5_corner_15 : decode cX5_corner 15 = .ok (.aload_n 0, 1) := by decide +kernel
theorem dX5_corner_16 : decode cX5_corner 16 = .ok (.iload_n 1, 1) := by decide +kernel
theorem dX5_corner_17 : decode cX5_corner 17 = .ok (.invokevirtual 154, 3) := by decide +kernel
theorem dX5_corner_20 : decode cX5_corner 20 = .ok (.iload_n 2, 1) := by decide +kernel
theorem dX5_corner_21 : decode cX5_corner 21 = .ok (.i2l, 1) := by decide +kernel
theorem dX5_corner_22 : decode cX5_corner 22 = .ok (.lconst 0, 1) := by decide +kernel
theorem dX5_corner_23 : decode cX5_corner 23 = .ok (.aload_n 0, 1) := by decide +kernel
theorem dX5_corner_24 : decode cX5_corner 24 = .ok (.getfield 29, 3) := by decide +kernel
theorem dX5_corner_27 : decode cX5_corner 27 = .ok (.iload_n 1, 1) := by decide +kernel
theorem dX5_corner_28 : decode cX5_corner 28 = .ok (.iaload, 1) := by decide +kernel
theorem dX5_corner_29 : decode cX5_corner 29 = .ok (.iconst 1, 1) := by decide +kernel
theorem dX5_corner_30 : decode cX5_corner 30 = .ok (.isub, 1) := by decide +kernel
theorem dX5_corner_31 : decode cX5_corner 31 = .ok (.i2l, 1) := by decide +kernel
theorem dX5_corner_32 : decode cX5_corner 32 = .ok (.invokestatic 66, 3) := by decide +kernel
theorem dX5_corner_35 : decode cX5_corner 35 = .ok (.ifCond .ne 9, 3) := by decide +kernel
theorem dX5_corner_38 : decode cX5_corner 38 = .ok (.aload_n 0, 1) := by decide +kernel
theorem dX5_corner_39 : decode cX5_corner 39 = .ok (.iconst (-1), 1) := by decide +kernel
theorem dX5_corner_40 : decode cX5_corner 40 = .ok (.invokevirtual 70, 3) := by decide +kernel
theorem dX5_corner_43 : decode cX5_corner 43 = .ok (.ireturn, 1) := by decide +kernel
theorem dX5_corner_44 : decode cX5_corner 44 = .ok (.bipush 80, 2) := by decide +kernel
theorem dX5_corner_46 : decode cX5_corner 46 = .ok (.iload_n 1, 1) := by decide +kernel
theorem dX5_corner_47 : decode cX5_corner 47 = .ok (.imul, 1) := by decide +kernel
theorem dX5_corner_48 : decode cX5_corner 48 = .ok (.iload_n 2, 1) := by decide +kernel
theorem dX5_corner_49 : decode cX5_corner 49 = .ok (.iadd, 1) := by decide +kernel
theorem dX5_corner_50 : decode cX5_corner 50 = .ok (.istore 5, 2) := by decide +kernel
theorem dX5_corner_52 : decode cX5_corner 52 = .ok (.aload_n 0, 1) := by decide +kernel
theorem dX5_corner_53 : decode cX5_corner 53 = .ok (.getfield 32, 3) := by decide +kernel
theorem dX5_corner_56 : decode cX5_corner 56 = .ok (.iconst 4, 1) := by decide +kernel
theorem dX5_corner_57 : decode cX5_corner 57 = .ok (.iload 5, 2) := by decide +kernel
theorem dX5_corner_59 : decode cX5_corner 59 = .ok (.imul, 1) := by decide +kernel
theorem dX5_corner_60 : decode cX5_corner 60 = .ok (.iload_n 3, 1) := by decide +kernel
theorem dX5_corner_61 : decode cX5_corner 61 = .ok (.iadd, 1) := by decide +kernel
theorem dX5_corner_62 : decode cX5_corner 62 = .ok (.laload, 1) := by decide +kernel
theorem dX5_corner_63 : decode cX5_corner 63 = .ok (.aload_n 0, 1) := by decide +kernel
theorem dX5_corner_64 : decode cX5_corner 64 = .ok (.getfield 35, 3) := by decide +kernel
theorem dX5_corner_67 : decode cX5_corner 67 = .ok (.iload 5, 2) := by decide +kernel
theorem dX5_corner_69 : decode cX5_corner 69 = .ok (.laload, 1) := by decide +kernel
theorem dX5_corner_70 : decode cX5_corner 70 = .ok (.invokestatic 97, 3) := by decide +kernel
theorem dX5_corner_73 : decode cX5_corner 73 = .ok (.lstore 6, 2) := by decide +kernel
theorem dX5_corner_75 : decode cX5_corner 75 = .ok (.iload 4, 2) := by decide +kernel
theorem dX5_corner_77 : decode cX5_corner 77 = .ok (.ifCond .ne 21, 3) := by decide +kernel
theorem dX5_corner_80 : decode cX5_corner 80 = .ok (.aload_n 0, 1) := by decide +kernel
theorem dX5_corner_81 : decode cX5_corner 81 = .ok (.getfield 32, 3) := by decide +kernel
theorem dX5_corner_84 : decode cX5_corner 84 = .ok (.iconst 4, 1) := by decide +kernel
theorem dX5_corner_85 : decode cX5_corner 85 = .ok (.iload 5, 2) := by decide +kernel
theorem dX5_corner_87 : decode cX5_corner 87 = .ok (.imul, 1) := by decide +kernel
theorem dX5_corner_88 : decode cX5_corner 88 = .ok (.iload_n 3, 1) := by decide +kernel
theorem dX5_corner_89 : decode cX5_corner 89 = .ok (.iadd, 1) := by decide +kernel
theorem dX5_corner_90 : decode cX5_corner 90 = .ok (.laload, 1) := by decide +kernel
theorem dX5_corner_91 : decode cX5_corner 91 = .ok (.lload 6, 2) := by decide +kernel
theorem dX5_corner_93 : decode cX5_corner 93 = .ok (.ldiv, 1) := by decide +kernel
theorem dX5_corner_94 : decode cX5_corner 94 = .ok (.l2i, 1) := by decide +kernel
theorem dX5_corner_95 : decode cX5_corner 95 = .ok (.goto 45, 3) := by decide +kernel
theorem dX5_corner_98 : decode cX5_corner 98 = .ok (.iload 4, 2) := by decide +kernel
theorem dX5_corner_100 : decode cX5_corner 100 = .ok (.iconst 1, 1) := by decide +kernel
theorem dX5_corner_101 : decode cX5_corner 101 = .ok (.if_icmp .ne 17, 3) := by decide +kernel
theorem dX5_corner_104 : decode cX5_corner 104 = .ok (.aload_n 0, 1) := by decide +kernel
theorem dX5_corner_105 : decode cX5_corner 105 = .ok (.getfield 35, 3) := by decide +kernel
theorem dX5_corner_108 : decode cX5_corner 108 = .ok (.iload 5, 2) := by decide +kernel
theorem dX5_corner_110 : decode cX5_corner 110 = .ok (.laload, 1) := by decide +kernel
theorem dX5_corner_111 : decode cX5_corner 111 = .ok (.lload 6, 2) := by decide +kernel
theorem dX5_corner_113 : decode cX5_corner 113 = .ok (.ldiv, 1) := by decide +kernel
theorem dX5_corner_114 : decode cX5_corner 114 = .ok (.l2i, 1) := by decide +kernel
theorem dX5_corner_115 : decode cX5_corner 115 = .ok (.goto 25, 3) := by decide +kernel
theorem dX5_corner_118 : decode cX5_corner 118 = .ok (.iload 4, 2) := by decide +kernel
theorem dX5_corner_120 : decode cX5_corner 120 = .ok (.iconst 2, 1) := by decide +kernel
theorem dX5_corner_121 : decode cX5_corner 121 = .ok (.if_icmp .ne 13, 3) := by decide +kernel
theorem dX5_corner_124 : decode cX5_corner 124 = .ok (.aload_n 0, 1) := by decide +kernel
theorem dX5_corner_125 : decode cX5_corner 125 = .ok (.getfield 41, 3) := by decide +kernel
theorem dX5_corner_128 : decode cX5_corner 128 = .ok (.iload 5, 2) := by decide +kernel
theorem dX5_corner_130 : decode cX5_corner 130 = .ok (.iaload, 1) := by decide +kernel
theorem dX5_corner_131 : decode cX5_corner 131 = .ok (.goto 9, 3) := by decide +kernel
theorem dX5_corner_134 : decode cX5_corner 134 = .ok (.aload_n 0, 1) := by decide +kernel
theorem dX5_corner_135 : decode cX5_corner 135 = .ok (.bipush (-2), 2) := by decide +kernel
theorem dX5_corner_137 : decode cX5_corner 137 = .ok (.invokevirtual 70, 3) := by decide +kernel
theorem dX5_corner_140 : decode cX5_corner 140 = .ok (.ireturn, 1) := by decide +kernel
theorem dX5_isBalance_0 : decode cX5_isBalance 0 = .ok (.aload_n 0, 1) := by decide +kernel
theorem dX5_isBalance_1 : decode cX5_isBalance 1 = .ok (.getfield 38, 3) := by decide +kernel
theorem dX5_isBalance_4 : decode cX5_isBalance 4 = .ok (.iload_n 1, 1) := by decide +kernel
theorem dX5_isBalance_5 : decode cX5_isBalance 5 = .ok (.iaload, 1) := by decide +kernel
theorem dX5_isBalance_6 : decode cX5_isBalance 6 = .ok (.aload_n 0, 1) := by decide +kernel
theorem dX5_isBalance_7 : decode cX5_isBalance 7 = .ok (.getfield 41, 3) := by decide +kernel
theorem dX5_isBalance_10 : decode cX5_isBalance 10 = .ok (.bipush 80, 2) := by decide +kernel
theorem dX5_isBalance_12 : decode cX5_isBalance 12 = .ok (.iload_n 2, 1) := by decide +kernel
theorem dX5_isBalance_13 : decode cX5_isBalance 13 = .ok (.iadd, 1) := by decide +kernel
theorem dX5_isBalance_14 : decode cX5_isBalance 14 = .ok (.iaload, 1) := by decide +kernel
theorem dX5_isBalance_15 : decode cX5_isBalance 15 = .ok (.iand, 1) := by decide +kernel
theorem dX5_isBalance_16 : decode cX5_isBalance 16 = .ok (.aload_n 0, 1) := by decide +kernel
theorem dX5_isBalance_17 : decode cX5_isBalance 17 = .ok (.getfield 38, 3) := by decide +kernel
theorem dX5_isBalance_20 : decode cX5_isBalance 20 = .ok (.iload_n 1, 1) := by decide +kernel
theorem dX5_isBalance_21 : decode cX5_isBalance 21 = .ok (.iaload, 1) := by decide +kernel
theorem dX5_isBalance_22 : decode cX5_isBalance 22 = .ok (.if_icmp .ne 35, 3) := by decide +kernel
theorem dX5_isBalance_25 : decode cX5_isBalance 25 = .ok (.aload_n 0, 1) := by decide +kernel
theorem dX5_isBalance_26 : decode cX5_isBalance 26 = .ok (.getfield 38, 3) := by decide +kernel
theorem dX5_isBalance_29 : decode cX5_isBalance 29 = .ok (.bipush 80, 2) := by decide +kernel
theorem dX5_isBalance_31 : decode cX5_isBalance 31 = .ok (.iload_n 2, 1) := by decide +kernel
theorem dX5_isBalance_32 : decode cX5_isBalance 32 = .ok (.iadd, 1) := by decide +kernel
theorem dX5_isBalance_33 : decode cX5_isBalance 33 = .ok (.iaload, 1) := by decide +kernel
theorem dX5_isBalance_34 : decode cX5_isBalance 34 = .ok (.aload_n 0, 1) := by decide +kernel
theorem dX5_isBalance_35 : decode cX5_isBalance 35 = .ok (.getfield 41, 3) := by decide +kernel
theorem dX5_isBalance_38 : decode cX5_isBalance 38 = .ok (.iload_n 1, 1) := by decide +kernel
theorem dX5_isBalance_39 : decode cX5_isBalance 39 = .ok (.iaload, 1) := by decide +kernel
theorem dX5_isBalance_40 : decode cX5_isBalance 40 = .ok (.iand, 1) := by decide +kernel
theorem dX5_isBalance_41 : decode cX5_isBalance 41 = .ok (.aload_n 0, 1) := by decide +kernel
theorem dX5_isBalance_42 : decode cX5_isBalance 42 = .ok (.getfield 38, 3) := by decide +kernel
theorem dX5_isBalance_45 : decode cX5_isBalance 45 = .ok (.bipush 80, 2) := by decide +kernel
theorem dX5_isBalance_47 : decode cX5_isBalance 47 = .ok (.iload_n 2, 1) := by decide +kernel
theorem dX5_isBalance_48 : decode cX5_isBalance 48 = .ok (.iadd, 1) := by decide +kernel
theorem dX5_isBalance_49 : decode cX5_isBalance 49 = .ok (.iaload, 1) := by decide +kernel
theorem dX5_isBalance_50 : decode cX5_isBalance 50 = .ok (.if_icmp .ne 7, 3) := by decide +kernel
theorem dX5_isBalance_53 : decode cX5_isBalance 53 = .ok (.iconst 1, 1) := by decide +kernel
theorem dX5_isBalance_54 : decode cX5_isBalance 54 = .ok (.goto 4, 3) := by decide +kernel
theorem dX5_isBalance_57 : decode cX5_isBalance 57 = .ok (.iconst 0, 1) := by decide +kernel
theorem dX5_isBalance_58 : decode cX5_isBalance 58 = .ok (.ireturn, 1) := by decide +kernel
theorem dX5_balances_0 : decode cX5_balances 0 = .ok (.aload_n 0, 1) := by decide +kernel
theorem dX5_balances_1 : decode cX5_balances 1 = .ok (.iconst 0, 1) := by decide +kernel
theorem dX5_balances_2 : decode cX5_balances 2 = .ok (.invokevirtual 154, 3) := by decide +kernel
theorem dX5_balances_5 : decode cX5_balances 5 = .ok (.aload_n 0, 1) := by decide +kernel
theorem dX5_balances_6 : decode cX5_balances 6 = .ok (.iconst 1, 1) := by decide +kernel
theorem dX5_balances_7 : decode cX5_balances 7 = .ok (.invokevirtual 154, 3) := by decide +kernel
theorem dX5_balances_10 : decode cX5_balances 10 = .ok (.iconst 0, 1) := by decide +kernel
theorem dX5_balances_11 : decode cX5_balances 11 = .ok (.istore_n 1, 1) := by decide +kernel
theorem dX5_balances_12 : decode cX5_balances 12 = .ok (.iconst 0, 1) := by decide +kernel
theorem dX5_balances_13 : decode cX5_balances 13 = .ok (.istore_n 2, 1) := by decide +kernel
theorem dX5_balances_14 : decode cX5_balances 14 = .ok (.iload_n 2, 1) := by decide +kernel
theorem dX5_balances_15 : decode cX5_balances 15 = .ok (.aload_n 0, 1) := by decide +kernel
theorem dX5_balances_16 : decode cX5_balances 16 = .ok (.getfield 29, 3) := by decide +kernel
theorem dX5_balances_19 : decode cX5_balances 19 = .ok (.iconst 0, 1) := by decide +kernel
theorem dX5_balances_20 : decode cX5_balances 20 = .ok (.iaload, 1) := by decide +kernel
theorem dX5_balances_21 : decode cX5_balances 21 = .ok (.if_icmp .ge 44, 3) := by decide +kernel
theorem dX5_balances_24 : decode cX5_balances 24 = .ok (.iconst 0, 1) := by decide +kernel
theorem dX5_balances_25 : decode cX5_balances 25 = .ok (.istore_n 3, 1) := by decide +kernel
theorem dX5_balances_26 : decode cX5_balances 26 = .ok (.iload_n 3, 1) := by decide +kernel
theorem dX5_balances_27 : decode cX5_balances 27 = .ok (.aload_n 0, 1) := by decide +kernel
theorem dX5_balances_28 : decode cX5_balances 28 = .ok (.getfield 29, 3) := by decide +kernel
theorem dX5_balances_31 : decode cX5_balances 31 = .ok (.iconst 1, 1) := by decide +kernel
theorem dX5_balances_32 : decode cX5_balances 32 = .ok (.iaload, 1) := by decide +kernel
theorem dX5_balances_33 : decode cX5_balances 33 = .ok (.if_icmp .ge 26, 3) := by decide +kernel
theorem dX5_balances_36 : decode cX5_balances 36 = .ok (.iload_n 1, 1) := by decide +kernel
theorem dX5_balances_37 : decode cX5_balances 37 = .ok (.aload_n 0, 1) := by decide +kernel
theorem dX5_balances_38 : decode cX5_balances 38 = .ok (.iload_n 2, 1) := by decide +kernel
theorem dX5_balances_39 : decode cX5_balances 39 = .ok (.iload_n 3, 1) := by decide +kernel
theorem dX5_balances_40 : decode cX5_balances 40 = .ok (.invokevirtual 158, 3) := by decide +kernel
theorem dX5_balances_43 : decode cX5_balances 43 = .ok (.ifCond .eq 7, 3) := by decide +kernel
theorem dX5_balances_46 : decode cX5_balances 46 = .ok (.iconst 1, 1) := by decide +kernel
theorem dX5_balances_47 : decode cX5_balances 47 = .ok (.goto 4, 3) := by decide +kernel
theorem dX5_balances_50 : decode cX5_balances 50 = .ok (.iconst 0, 1) := by decide +kernel
theorem dX5_balances_51 : decode cX5_balances 51 = .ok (.iadd, 1) := by decide +kernel
theorem dX5_balances_52 : decode cX5_balances 52 = .ok (.istore_n 1, 1) := by decide +kernel
theorem dX5_balances_53 : decode cX5_balances 53 = .ok (.iinc 3 1, 3) := by decide +kernel
theorem dX5_balances_56 : decode cX5_balances 56 = .ok (.goto (-30), 3) := by decide +kernel
theorem dX5_balances_59 : decode cX5_balances 59 = .ok (.iinc 2 1, 3) := by decide +kernel
theorem dX5_balances_62 : decode cX5_balances 62 = .ok (.goto (-48), 3) := by decide +kernel
theorem dX5_balances_65 : decode cX5_balances 65 = .ok (.iload_n 1, 1) := by decide +kernel
theorem dX5_balances_66 : decode cX5_balances 66 = .ok (.ireturn, 1) := by decide +kernel
theorem dX5_kindOf_0 : decode cX5_kindOf 0 = .ok (.aload_n 0, 1) := by decide +kernel
theorem dX5_kindOf_1 : decode cX5_kindOf 1 = .ok (.getfield 38, 3) := by decide +kernel
theorem dX5_kindOf_4 : decode cX5_kindOf 4 = .ok (.iload_n 1, 1) := by decide +kernel
theorem dX5_kindOf_5 : decode cX5_kindOf 5 = .ok (.iaload, 1) := by decide +kernel
theorem dX5_kindOf_6 : decode cX5_kindOf 6 = .ok (.istore_n 3, 1) := by decide +kernel
theorem dX5_kindOf_7 : decode cX5_kindOf 7 = .ok (.aload_n 0, 1) := by decide +kernel
theorem dX5_kindOf_8 : decode cX5_kindOf 8 = .ok (.getfield 38, 3) := by decide +kernel
theorem dX5_kindOf_11 : decode cX5_kindOf 11 = .ok (.bipush 80, 2) := by decide +kernel
theorem dX5_kindOf_13 : decode cX5_kindOf 13 = .ok (.iload_n 2, 1) := by decide +kernel
theorem dX5_kindOf_14 : decode cX5_kindOf 14 = .ok (.iadd, 1) := by decide +kernel
theorem dX5_kindOf_15 : decode cX5_kindOf 15 = .ok (.iaload, 1) := by decide +kernel
theorem dX5_kindOf_16 : decode cX5_kindOf 16 = .ok (.istore 4, 2) := by decide +kernel
theorem dX5_kindOf_18 : decode cX5_kindOf 18 = .ok (.iload_n 3, 1) := by decide +kernel
theorem dX5_kindOf_19 : decode cX5_kindOf 19 = .ok (.invokestatic 140, 3) := by decide +kernel
theorem dX5_kindOf_22 : decode cX5_kindOf 22 = .ok (.iconst 1, 1) := by decide +kernel
theorem dX5_kindOf_23 : decode cX5_kindOf 23 = .ok (.if_icmp .ne 42, 3) := by decide +kernel
theorem dX5_kindOf_26 : decode cX5_kindOf 26 = .ok (.iload 4, 2) := by decide +kernel
theorem dX5_kindOf_28 : decode cX5_kindOf 28 = .ok (.invokestatic 140, 3) := by decide +kernel
theorem dX5_kindOf_31 : decode cX5_kindOf 31 = .ok (.iconst 1, 1) := by decide +kernel
theorem dX5_kindOf_32 : decode cX5_kindOf 32 = .ok (.if_icmp .ne 33, 3) := by decide +kernel
theorem dX5_kindOf_35 : decode cX5_kindOf 35 = .ok (.aload_n 0, 1) := by decide +kernel
theorem dX5_kindOf_36 : decode cX5_kindOf 36 = .ok (.getfield 41, 3) := by decide +kernel
theorem dX5_kindOf_39 : decode cX5_kindOf 39 = .ok (.bipush 80, 2) := by decide +kernel
theorem dX5_kindOf_41 : decode cX5_kindOf 41 = .ok (.iload_n 2, 1) := by decide +kernel
theorem dX5_kindOf_42 : decode cX5_kindOf 42 = .ok (.iadd, 1) := by decide +kernel
theorem dX5_kindOf_43 : decode cX5_kindOf 43 = .ok (.iaload, 1) := by decide +kernel
theorem dX5_kindOf_44 : decode cX5_kindOf 44 = .ok (.iload_n 3, 1) := by decide +kernel
theorem dX5_kindOf_45 : decode cX5_kindOf 45 = .ok (.if_icmp .ne 18, 3) := by decide +kernel
theorem dX5_kindOf_48 : decode cX5_kindOf 48 = .ok (.aload_n 0, 1) := by decide +kernel
theorem dX5_kindOf_49 : decode cX5_kindOf 49 = .ok (.getfield 41, 3) := by decide +kernel
theorem dX5_kindOf_52 : decode cX5_kindOf 52 = .ok (.iload_n 1, 1) := by decide +kernel
theorem dX5_kindOf_53 : decode cX5_kindOf 53 = .ok (.iaload, 1) := by decide +kernel
theorem dX5_kindOf_54 : decode cX5_kindOf 54 = .ok (.iload 4, 2) := by decide +kernel
theorem dX5_kindOf_56 : decode cX5_kindOf 56 = .ok (.if_icmp .ne 7, 3) := by decide +kernel
theorem dX5_kindOf_59 : decode cX5_kindOf 59 = .ok (.iconst 4, 1) := by decide +kernel
theorem dX5_kindOf_60 : decode cX5_kindOf 60 = .ok (.goto 4, 3) := by decide +kernel
theorem dX5_kindOf_63 : decode cX5_kindOf 63 = .ok (.iconst 3, 1) := by decide +kernel
theorem dX5_kindOf_64 : decode cX5_kindOf 64 = .ok (.ireturn, 1) := by decide +kernel
theorem dX5_kindOf_65 : decode cX5_kindOf 65 = .ok (.iload_n 3, 1) := by decide +kernel
theorem dX5_kindOf_66 : decode cX5_kindOf 66 = .ok (.invokestatic 140, 3) := by decide +kernel
theorem dX5_kindOf_69 : decode cX5_kindOf 69 = .ok (.aload_n 0, 1) := by decide +kernel
theorem dX5_kindOf_70 : decode cX5_kindOf 70 = .ok (.getfield 7, 3) := by decide +kernel
theorem dX5_kindOf_73 : decode cX5_kindOf 73 = .ok (.iconst 0, 1) := by decide +kernel
theorem dX5_kindOf_74 : decode cX5_kindOf 74 = .ok (.iaload, 1) := by decide +kernel
theorem dX5_kindOf_75 : decode cX5_kindOf 75 = .ok (.if_icmp .ne 19, 3) := by decide +kernel
theorem dX5_kindOf_78 : decode cX5_kindOf 78 = .ok (.iload 4, 2) := by decide +kernel
theorem dX5_kindOf_80 : decode cX5_kindOf 80 = .ok (.invokestatic 140, 3) := by decide +kernel
theorem dX5_kindOf_83 : decode cX5_kindOf 83 = .ok (.aload_n 0, 1) := by decide +kernel
theorem dX5_kindOf_84 : decode cX5_kindOf 84 = .ok (.getfield 7, 3) := by decide +kernel
theorem dX5_kindOf_87 : decode cX5_kindOf 87 = .ok (.iconst 1, 1) := by decide +kernel
theorem dX5_kindOf_88 : decode cX5_kindOf 88 = .ok (.iaload, 1) := by decide +kernel
theorem dX5_kindOf_89 : decode cX5_kindOf 89 = .ok (.if_icmp .ne 5, 3) := by decide +kernel
theorem dX5_kindOf_92 : decode cX5_kindOf 92 = .ok (.iconst 2, 1) := by decide +kernel
theorem dX5_kindOf_93 : decode cX5_kindOf 93 = .ok (.ireturn, 1) := by decide +kernel
theorem dX5_kindOf_94 : decode cX5_kindOf 94 = .ok (.iload_n 3, 1) := by decide +kernel
theorem dX5_kindOf_95 : decode cX5_kindOf 95 = .ok (.invokestatic 140, 3) := by decide +kernel
theorem dX5_kindOf_98 : decode cX5_kindOf 98 = .ok (.iload 4, 2) := by decide +kernel
theorem dX5_kindOf_100 : decode cX5_kindOf 100 = .ok (.invokestatic 140, 3) := by decide +kernel
theorem dX5_kindOf_103 : decode cX5_kindOf 103 = .ok (.if_icmp .ne 7, 3) := by decide +kernel
theorem dX5_kindOf_106 : decode cX5_kindOf 106 = .ok (.iconst 1, 1) := by decide +kernel
theorem dX5_kindOf_107 : decode cX5_kindOf 107 = .ok (.goto 4, 3) := by decide +kernel
theorem dX5_kindOf_110 : decode cX5_kindOf 110 = .ok (.iconst 0, 1) := by decide +kernel
theorem dX5_kindOf_111 : decode cX5_kindOf 111 = .ok (.ireturn, 1) := by decide +kernel
theorem dX5_told_0 : decode cX5_told 0 = .ok (.iload_n 3, 1) := by decide +kernel
theorem dX5_told_1 : decode cX5_told 1 = .ok (.iconst 3, 1) := by decide +kernel
theorem dX5_told_2 : decode cX5_told 2 = .ok (.if_icmp .ge 30, 3) := by decide +kernel
theorem dX5_told_5 : decode cX5_told 5 = .ok (.iload_n 3, 1) := by decide +kernel
theorem dX5_told_6 : decode cX5_told 6 = .ok (.ifCond .ne 8, 3) := by decide +kernel
theorem dX5_told_9 : decode cX5_told 9 = .ok (.iload_n 1, 1) := by decide +kernel
theorem dX5_told_10 : decode cX5_told 10 = .ok (.i2l, 1) := by decide +kernel
theorem dX5_told_11 : decode cX5_told 11 = .ok (.goto 20, 3) := by decide +kernel
theorem dX5_told_14 : decode cX5_told 14 = .ok (.iload_n 3, 1) := by decide +kernel
theorem dX5_told_15 : decode cX5_told 15 = .ok (.iconst 1, 1) := by decide +kernel
theorem dX5_told_16 : decode cX5_told 16 = .ok (.if_icmp .ne 8, 3) := by decide +kernel
theorem dX5_told_19 : decode cX5_told 19 = .ok (.iload_n 2, 1) := by decide +kernel
theorem dX5_told_20 : decode cX5_told 20 = .ok (.i2l, 1) := by decide +kernel
theorem dX5_told_21 : decode cX5_told 21 = .ok (.goto 10, 3) := by decide +kernel
theorem dX5_told_24 : decode cX5_told 24 = .ok (.aload_n 0, 1) := by decide +kernel
theorem dX5_told_25 : decode cX5_told 25 = .ok (.iload_n 1, 1) := by decide +kernel
theorem dX5_told_26 : decode cX5_told 26 = .ok (.iload_n 2, 1) := by decide +kernel
theorem dX5_told_27 : decode cX5_told 27 = .ok (.invokevirtual 161, 3) := by decide +kernel
theorem dX5_told_30 : decode cX5_told 30 = .ok (.i2l, 1) := by decide +kernel
theorem dX5_told_31 : decode cX5_told 31 = .ok (.lreturn, 1) := by decide +kernel
theorem dX5_told_32 : decode cX5_told 32 = .ok (.aload_n 0, 1) := by decide +kernel
theorem dX5_told_33 : decode cX5_told 33 = .ok (.iload_n 3, 1) := by decide +kernel
theorem dX5_told_34 : decode cX5_told 34 = .ok (.iconst 5, 1) := by decide +kernel
theorem dX5_told_35 : decode cX5_told 35 = .ok (.if_icmp .ge 7, 3) := by decide +kernel
theorem dX5_told_38 : decode cX5_told 38 = .ok (.iconst 0, 1) := by decide +kernel
theorem dX5_told_39 : decode cX5_told 39 = .ok (.goto 4, 3) := by decide +kernel
theorem dX5_told_42 : decode cX5_told 42 = .ok (.iconst 1, 1) := by decide +kernel
theorem dX5_told_43 : decode cX5_told 43 = .ok (.aload_n 0, 1) := by decide +kernel
theorem dX5_told_44 : decode cX5_told 44 = .ok (.getfield 32, 3) := by decide +kernel
theorem dX5_told_47 : decode cX5_told 47 = .ok (.iconst 4, 1) := by decide +kernel
theorem dX5_told_48 : decode cX5_told 48 = .ok (.iload_n 1, 1) := by decide +kernel
theorem dX5_told_49 : decode cX5_told 49 = .ok (.imul, 1) := by decide +kernel
theorem dX5_told_50 : decode cX5_told 50 = .ok (.aload_n 0, 1) := by decide +kernel
theorem dX5_told_51 : decode cX5_told 51 = .ok (.getfield 32, 3) := by decide +kernel
theorem dX5_told_54 : decode cX5_told 54 = .ok (.iconst 4, 1) := by decide +kernel
theorem dX5_told_55 : decode cX5_told 55 = .ok (.bipush 80, 2) := by decide +kernel
theorem dX5_told_57 : decode cX5_told 57 = .ok (.iload_n 2, 1) := by decide +kernel
theorem dX5_told_58 : decode cX5_told 58 = .ok (.iadd, 1) := by decide +kernel
theorem dX5_told_59 : decode cX5_told 59 = .ok (.imul, 1) := by decide +kernel
theorem dX5_told_60 : decode cX5_told 60 = .ok (.invokevirtual 93, 3) := by decide +kernel
theorem dX5_told_63 : decode cX5_told 63 = .ok (.lstore 4, 2) := by decide +kernel
theorem dX5_told_65 : decode cX5_told 65 = .ok (.aload_n 0, 1) := by decide +kernel
theorem dX5_told_66 : decode cX5_told 66 = .ok (.getfield 35, 3) := by decide +kernel
theorem dX5_told_69 : decode cX5_told 69 = .ok (.iload_n 1, 1) := by decide +kernel
theorem dX5_told_70 : decode cX5_told 70 = .ok (.laload, 1) := by decide +kernel
theorem dX5_told_71 : decode cX5_told 71 = .ok (.aload_n 0, 1) := by decide +kernel
theorem dX5_told_72 : decode cX5_told 72 = .ok (.getfield 35, 3) := by decide +kernel
theorem dX5_told_75 : decode cX5_told 75 = .ok (.bipush 80, 2) := by decide +kernel
theorem dX5_told_77 : decode cX5_told 77 = .ok (.iload_n 2, 1) := by decide +kernel
theorem dX5_told_78 : decode cX5_told 78 = .ok (.iadd, 1) := by decide +kernel
theorem dX5_told_79 : decode cX5_told 79 = .ok (.laload, 1) := by decide +kernel
theorem dX5_told_80 : decode cX5_told 80 = .ok (.lmul, 1) := by decide +kernel
theorem dX5_told_81 : decode cX5_told 81 = .ok (.lstore 6, 2) := by decide +kernel
theorem dX5_told_83 : decode cX5_told 83 = .ok (.lload 4, 2) := by decide +kernel
theorem dX5_told_85 : decode cX5_told 85 = .ok (.lload 6, 2) := by decide +kernel
theorem dX5_told_87 : decode cX5_told 87 = .ok (.invokestatic 97, 3) := by decide +kernel
theorem dX5_told_90 : decode cX5_told 90 = .ok (.lstore 8, 2) := by decide +kernel
theorem dX5_told_92 : decode cX5_told 92 = .ok (.iload_n 3, 1) := by decide +kernel
theorem dX5_told_93 : decode cX5_told 93 = .ok (.iconst 2, 1) := by decide +kernel
theorem dX5_told_94 : decode cX5_told 94 = .ok (.irem, 1) := by decide +kernel
theorem dX5_told_95 : decode cX5_told 95 = .ok (.iconst 1, 1) := by decide +kernel
theorem dX5_told_96 : decode cX5_told 96 = .ok (.if_icmp .ne 11, 3) := by decide +kernel
theorem dX5_told_99 : decode cX5_told 99 = .ok (.lload 4, 2) := by decide +kernel
theorem dX5_told_101 : decode cX5_told 101 = .ok (.lload 8, 2) := by decide +kernel
theorem dX5_told_103 : decode cX5_told 103 = .ok (.ldiv, 1) := by decide +kernel
theorem dX5_told_104 : decode cX5_told 104 = .ok (.goto 8, 3) := by decide +kernel
theorem dX5_told_107 : decode cX5_told 107 = .ok (.lload 6, 2) := by decide +kernel
theorem dX5_told_109 : decode cX5_told 109 = .ok (.lload 8, 2) := by decide +kernel
theorem dX5_told_111 : decode cX5_told 111 = .ok (.ldiv, 1) := by decide +kernel
theorem dX5_told_112 : decode cX5_told 112 = .ok (.lreturn, 1) := by decide +kernel
theorem dX5_balance_0 : decode cX5_balance 0 = .ok (.iload_n 1, 1) := by decide +kernel
theorem dX5_balance_1 : decode cX5_balance 1 = .ok (.istore_n 3, 1) := by decide +kernel
theorem dX5_balance_2 : decode cX5_balance 2 = .ok (.aload_n 0, 1) := by decide +kernel
theorem dX5_balance_3 : decode cX5_balance 3 = .ok (.iconst 0, 1) := by decide +kernel
theorem dX5_balance_4 : decode cX5_balance 4 = .ok (.invokevirtual 154, 3) := by decide +kernel
theorem dX5_balance_7 : decode cX5_balance 7 = .ok (.aload_n 0, 1) := by decide +kernel
theorem dX5_balance_8 : decode cX5_balance 8 = .ok (.iconst 1, 1) := by decide +kernel
theorem dX5_balance_9 : decode cX5_balance 9 = .ok (.invokevirtual 154, 3) := by decide +kernel
theorem dX5_balance_12 : decode cX5_balance 12 = .ok (.iconst 0, 1) := by decide +kernel
theorem dX5_balance_13 : decode cX5_balance 13 = .ok (.istore 4, 2) := by decide +kernel
theorem dX5_balance_15 : decode cX5_balance 15 = .ok (.iload 4, 2) := by decide +kernel
theorem dX5_balance_17 : decode cX5_balance 17 = .ok (.aload_n 0, 1) := by decide +kernel
theorem dX5_balance_18 : decode cX5_balance 18 = .ok (.getfield 29, 3) := by decide +kernel
theorem dX5_balance_21 : decode cX5_balance 21 = .ok (.iconst 0, 1) := by decide +kernel
theorem dX5_balance_22 : decode cX5_balance 22 = .ok (.iaload, 1) := by decide +kernel
theorem dX5_balance_23 : decode cX5_balance 23 = .ok (.if_icmp .ge 82, 3) := by decide +kernel
theorem dX5_balance_26 : decode cX5_balance 26 = .ok (.iload_n 1, 1) := by decide +kernel
theorem dX5_balance_27 : decode cX5_balance 27 = .ok (.ifCond .lt 78, 3) := by decide +kernel
theorem dX5_balance_30 : decode cX5_balance 30 = .ok (.iconst 0, 1) := by decide +kernel
theorem dX5_balance_31 : decode cX5_balance 31 = .ok (.istore 5, 2) := by decide +kernel
theorem dX5_balance_33 : decode cX5_balance 33 = .ok (.iload 5, 2) := by decide +kernel
theorem dX5_balance_35 : decode cX5_balance 35 = .ok (.aload_n 0, 1) := by decide +kernel
theorem dX5_balance_36 : decode cX5_balance 36 = .ok (.getfield 29, 3) := by decide +kernel
theorem dX5_balance_39 : decode cX5_balance 39 = .ok (.iconst 1, 1) := by decide +kernel
theorem dX5_balance_40 : decode cX5_balance 40 = .ok (.iaload, 1) := by decide +kernel
theorem dX5_balance_41 : decode cX5_balance 41 = .ok (.if_icmp .ge 58, 3) := by decide +kernel
theorem dX5_balance_44 : decode cX5_balance 44 = .ok (.aload_n 0, 1) := by decide +kernel
theorem dX5_balance_45 : decode cX5_balance 45 = .ok (.iload 4, 2) := by decide +kernel
theorem dX5_balance_47 : decode cX5_balance 47 = .ok (.iload 5, 2) := by decide +kernel
theorem dX5_balance_49 : decode cX5_balance 49 = .ok (.invokevirtual 158, 3) := by decide +kernel
theorem dX5_balance_52 : decode cX5_balance 52 = .ok (.ifCond .eq 41, 3) := by decide +kernel
theorem dX5_balance_55 : decode cX5_balance 55 = .ok (.iload_n 3, 1) := by decide +kernel
theorem dX5_balance_56 : decode cX5_balance 56 = .ok (.ifCond .ne 34, 3) := by decide +kernel
theorem dX5_balance_59 : decode cX5_balance 59 = .ok (.iload_n 2, 1) := by decide +kernel
theorem dX5_balance_60 : decode cX5_balance 60 = .ok (.i2l, 1) := by decide +kernel
theorem dX5_balance_61 : decode cX5_balance 61 = .ok (.lconst 0, 1) := by decide +kernel
theorem dX5_balance_62 : decode cX5_balance 62 = .ok (.ldc2_w 165, 3) := by decide +kernel
theorem dX5_balance_65 : decode cX5_balance 65 = .ok (.invokestatic 66, 3) := by decide +kernel
theorem dX5_balance_68 : decode cX5_balance 68 = .ok (.ifCond .eq 15, 3) := by decide +kernel
theorem dX5_balance_71 : decode cX5_balance 71 = .ok (.aload_n 0, 1) := by decide +kernel
theorem dX5_balance_72 : decode cX5_balance 72 = .ok (.iload 4, 2) := by decide +kernel
theorem dX5_balance_74 : decode cX5_balance 74 = .ok (.iload 5, 2) := by decide +kernel
theorem dX5_balance_76 : decode cX5_balance 76 = .ok (.iload_n 2, 1) := by decide +kernel
theorem dX5_balance_77 : decode cX5_balance 77 = .ok (.invokevirtual 167, 3) := by decide +kernel
theorem dX5_balance_80 : decode cX5_balance 80 = .ok (.goto 9, 3) := by decide +kernel
theorem dX5_balance_83 : decode cX5_balance 83 = .ok (.aload_n 0, 1) := by decide +kernel
theorem dX5_balance_84 : decode cX5_balance 84 = .ok (.bipush (-2), 2) := by decide +kernel
theorem dX5_balance_86 : decode cX5_balance 86 = .ok (.invokevirtual 83, 3) := by decide +kernel
theorem dX5_balance_89 : decode cX5_balance 89 = .ok (.lreturn, 1) := by decide +kernel
theorem dX5_balance_90 : decode cX5_balance 90 = .ok (.iinc 3 (-1), 3) := by decide +kernel
theorem dX5_balance_93 : decode cX5_balance 93 = .ok (.iinc 5 1, 3) := by decide +kernel
theorem dX5_balance_96 : decode cX5_balance 96 = .ok (.goto (-63), 3) := by decide +kernel
theorem dX5_balance_99 : decode cX5_balance 99 = .ok (.iinc 4 1, 3) := by decide +kernel
theorem dX5_balance_102 : decode cX5_balance 102 = .ok (.goto (-87), 3) := by decide +kernel
theorem dX5_balance_105 : decode cX5_balance 105 = .ok (.aload_n 0, 1) := by decide +kernel
theorem dX5_balance_106 : decode cX5_balance 106 = .ok (.iconst (-1), 1) := by decide +kernel
theorem dX5_balance_107 : decode cX5_balance 107 = .ok (.invokevirtual 83, 3) := by decide +kernel
theorem dX5_balance_110 : decode cX5_balance 110 = .ok (.lreturn, 1) := by decide +kernel
theorem dX5_cornerOfTray_0 : decode cX5_cornerOfTray 0 = .ok (.aload_n 0, 1) := by decide +kernel
theorem dX5_cornerOfTray_1 : decode cX5_cornerOfTray 1 = .ok (.invokevirtual 90, 3) := by decide +kernel
theorem dX5_cornerOfTray_4 : decode cX5_cornerOfTray 4 = .ok (.iconst 0, 1) := by decide +kernel
theorem dX5_cornerOfTray_5 : decode cX5_cornerOfTray 5 = .ok (.istore_n 2, 1) := by decide +kernel
theorem dX5_cornerOfTray_6 : decode cX5_cornerOfTray 6 = .ok (.iload_n 2, 1) := by decide +kernel
theorem dX5_cornerOfTray_7 : decode cX5_cornerOfTray 7 = .ok (.iconst 4, 1) := by decide +kernel
theorem dX5_cornerOfTray_8 : decode cX5_cornerOfTray 8 = .ok (.if_icmp .ge 34, 3) := by decide +kernel
theorem dX5_cornerOfTray_11 : decode cX5_cornerOfTray 11 = .ok (.aload_n 0, 1) := by decide +kernel
theorem dX5_cornerOfTray_12 : decode cX5_cornerOfTray 12 = .ok (.getfield 53, 3) := by decide +kernel
theorem dX5_cornerOfTray_15 : decode cX5_cornerOfTray 15 = .ok (.iload_n 2, 1) := by decide +kernel
theorem dX5_cornerOfTray_16 : decode cX5_cornerOfTray 16 = .ok (.iload_n 1, 1) := by decide +kernel
theorem dX5_cornerOfTray_17 : decode cX5_cornerOfTray 17 = .ok (.ifCond .ne 12, 3) := by decide +kernel
theorem dX5_cornerOfTray_20 : decode cX5_cornerOfTray 20 = .ok (.aload_n 0, 1) := by decide +kernel
theorem dX5_cornerOfTray_21 : decode cX5_cornerOfTray 21 = .ok (.getfield 22, 3) := by decide +kernel
theorem dX5_cornerOfTray_24 : decode cX5_cornerOfTray 24 = .ok (.iload_n 2, 1) := by decide +kernel
theorem dX5_cornerOfTray_25 : decode cX5_cornerOfTray 25 = .ok (.laload, 1) := by decide +kernel
theorem dX5_cornerOfTray_26 : decode cX5_cornerOfTray 26 = .ok (.goto 9, 3) := by decide +kernel
theorem dX5_cornerOfTray_29 : decode cX5_cornerOfTray 29 = .ok (.aload_n 0, 1) := by decide +kernel
theorem dX5_cornerOfTray_30 : decode cX5_cornerOfTray 30 = .ok (.getfield 26, 3) := by decide +kernel
theorem dX5_cornerOfTray_33 : decode cX5_cornerOfTray 33 = .ok (.iload_n 2, 1) := by decide +kernel
theorem dX5_cornerOfTray_34 : decode cX5_cornerOfTray 34 = .ok (.laload, 1) := by decide +kernel
theorem dX5_cornerOfTray_35 : decode cX5_cornerOfTray 35 = .ok (.lastore, 1) := by decide +kernel
theorem dX5_cornerOfTray_36 : decode cX5_cornerOfTray 36 = .ok (.iinc 2 1, 3) := by decide +kernel
theorem dX5_cornerOfTray_39 : decode cX5_cornerOfTray 39 = .ok (.goto (-33), 3) := by decide +kernel
theorem dX5_cornerOfTray_42 : decode cX5_cornerOfTray 42 = .ok (.iconst 0, 1) := by decide +kernel
theorem dX5_cornerOfTray_43 : decode cX5_cornerOfTray 43 = .ok (.istore_n 2, 1) := by decide +kernel
theorem dX5_cornerOfTray_44 : decode cX5_cornerOfTray 44 = .ok (.iload_n 2, 1) := by decide +kernel
theorem dX5_cornerOfTray_45 : decode cX5_cornerOfTray 45 = .ok (.aload_n 0, 1) := by decide +kernel
theorem dX5_cornerOfTray_46 : decode cX5_cornerOfTray 46 = .ok (.getfield 29, 3) := by decide +kernel
theorem dX5_cornerOfTray_49 : decode cX5_cornerOfTray 49 = .ok (.iload_n 1, 1) := by decide +kernel
theorem dX5_cornerOfTray_50 : decode cX5_cornerOfTray 50 = .ok (.iaload, 1) := by decide +kernel
theorem dX5_cornerOfTray_51 : decode cX5_cornerOfTray 51 = .ok (.if_icmp .ge 24, 3) := by decide +kernel
theorem dX5_cornerOfTray_54 : decode cX5_cornerOfTray 54 = .ok (.aload_n 0, 1) := by decide +kernel
theorem dX5_cornerOfTray_55 : decode cX5_cornerOfTray 55 = .ok (.bipush 80, 2) := by decide +kernel
theorem dX5_cornerOfTray_57 : decode cX5_cornerOfTray 57 = .ok (.iload_n 1, 1) := by decide +kernel
theorem dX5_cornerOfTray_58 : decode cX5_cornerOfTray 58 = .ok (.imul, 1) := by decide +kernel
theorem dX5_cornerOfTray_59 : decode cX5_cornerOfTray 59 = .ok (.iload_n 2, 1) := by decide +kernel
theorem dX5_cornerOfTray_60 : decode cX5_cornerOfTray 60 = .ok (.iadd, 1) := by decide +kernel
theorem dX5_cornerOfTray_61 : decode cX5_cornerOfTray 61 = .ok (.invokevirtual 137, 3) := by decide +kernel
theorem dX5_cornerOfTray_64 : decode cX5_cornerOfTray 64 = .ok (.ifCond .ne 5, 3) := by decide +kernel
theorem dX5_cornerOfTray_67 : decode cX5_cornerOfTray 67 = .ok (.iload_n 2, 1) := by decide +kernel
theorem dX5_cornerOfTray_68 : decode cX5_cornerOfTray 68 = .ok (.ireturn, 1) := by decide +kernel
theorem dX5_cornerOfTray_69 : decode cX5_cornerOfTray 69 = .ok (.iinc 2 1, 3) := by decide +kernel
theorem dX5_cornerOfTray_72 : decode cX5_cornerOfTray 72 = .ok (.goto (-28), 3) := by decide +kernel
theorem dX5_cornerOfTray_75 : decode cX5_cornerOfTray 75 = .ok (.bipush (-9), 2) := by decide +kernel
theorem dX5_cornerOfTray_77 : decode cX5_cornerOfTray 77 = .ok (.ireturn, 1) := by decide +kernel
theorem dX5_find_0 : decode cX5_find 0 = .ok (.aload_n 0, 1) := by decide +kernel
theorem dX5_find_1 : decode cX5_find 1 = .ok (.iconst 0, 1) := by decide +kernel
theorem dX5_find_2 : decode cX5_find 2 = .ok (.invokevirtual 87, 3) := by decide +kernel
theorem dX5_find_5 : decode cX5_find 5 = .ok (.ifCond .eq 11, 3) := by decide +kernel
theorem dX5_find_8 : decode cX5_find 8 = .ok (.aload_n 0, 1) := by decide +kernel
theorem dX5_find_9 : decode cX5_find 9 = .ok (.iconst 1, 1) := by decide +kernel
theorem dX5_find_10 : decode cX5_find 10 = .ok (.invokevirtual 87, 3) := by decide +kernel
theorem dX5_find_13 : decode cX5_find 13 = .ok (.ifCond .ne 10, 3) := by decide +kernel
theorem dX5_find_16 : decode cX5_find 16 = .ok (.aload_n 0, 1) := by decide +kernel
theorem dX5_find_17 : decode cX5_find 17 = .ok (.bipush (-5), 2) := by decide +kernel
theorem dX5_find_19 : decode cX5_find 19 = .ok (.invokevirtual 70, 3) := by decide +kernel
theorem dX5_find_22 : decode cX5_find 22 = .ok (.ireturn, 1) := by decide +kernel
theorem dX5_find_23 : decode cX5_find 23 = .ok (.aload_n 0, 1) := by decide +kernel
theorem dX5_find_24 : decode cX5_find 24 = .ok (.iconst 0, 1) := by decide +kernel
theorem dX5_find_25 : decode cX5_find 25 = .ok (.invokevirtual 154, 3) := by decide +kernel
theorem dX5_find_28 : decode cX5_find 28 = .ok (.aload_n 0, 1) := by decide +kernel
theorem dX5_find_29 : decode cX5_find 29 = .ok (.iconst 1, 1) := by decide +kernel
theorem dX5_find_30 : decode cX5_find 30 = .ok (.invokevirtual 154, 3) := by decide +kernel
theorem dX5_find_33 : decode cX5_find 33 = .ok (.aload_n 0, 1) := by decide +kernel
theorem dX5_find_34 : decode cX5_find 34 = .ok (.iconst 0, 1) := by decide +kernel
theorem dX5_find_35 : decode cX5_find 35 = .ok (.invokevirtual 170, 3) := by decide +kernel
theorem dX5_find_38 : decode cX5_find 38 = .ok (.istore_n 1, 1) := by decide +kernel
theorem dX5_find_39 : decode cX5_find 39 = .ok (.aload_n 0, 1) := by decide +kernel
theorem dX5_find_40 : decode cX5_find 40 = .ok (.iconst 1, 1) := by decide +kernel
theorem dX5_find_41 : decode cX5_find 41 = .ok (.invokevirtual 170, 3) := by decide +kernel
theorem dX5_find_44 : decode cX5_find 44 = .ok (.istore_n 2, 1) := by decide +kernel
theorem dX5_find_45 : decode cX5_find 45 = .ok (.iconst 0, 1) := by decide +kernel
theorem dX5_find_46 : decode cX5_find 46 = .ok (.istore_n 3, 1) := by decide +kernel
theorem dX5_find_47 : decode cX5_find 47 = .ok (.iconst 0, 1) := by decide +kernel
theorem dX5_find_48 : decode cX5_find 48 = .ok (.istore 4, 2) := by decide +kernel
theorem dX5_find_50 : decode cX5_find 50 = .ok (.iload 4, 2) := by decide +kernel
theorem dX5_find_52 : decode cX5_find 52 = .ok (.aload_n 0, 1) := by decide +kernel
theorem dX5_find_53 : decode cX5_find 53 = .ok (.getfield 29, 3) := by decide +kernel
theorem dX5_find_56 : decode cX5_find 56 = .ok (.iconst 0, 1) := by decide +kernel
theorem dX5_find_57 : decode cX5_find 57 = .ok (.iaload, 1) := by decide +kernel
theorem dX5_find_58 : decode cX5_find 58 = .ok (.if_icmp .ge 57, 3) := by decide +kernel
theorem dX5_find_61 : decode cX5_find 61 = .ok (.iconst 0, 1) := by decide +kernel
theorem dX5_find_62 : decode cX5_find 62 = .ok (.istore 5, 2) := by decide +kernel
theorem dX5_find_64 : decode cX5_find 64 = .ok (.iload 5, 2) := by decide +kernel
theorem dX5_find_66 : decode cX5_find 66 = .ok (.aload_n 0, 1) := by decide +kernel
theorem dX5_find_67 : decode cX5_find 67 = .ok (.getfield 29, 3) := by decide +kernel
theorem dX5_find_70 : decode cX5_find 70 = .ok (.iconst 1, 1) := by decide +kernel
theorem dX5_find_71 : decode cX5_find 71 = .ok (.iaload, 1) := by decide +kernel
theorem dX5_find_72 : decode cX5_find 72 = .ok (.if_icmp .ge 37, 3) := by decide +kernel
theorem dX5_find_75 : decode cX5_find 75 = .ok (.aload_n 0, 1) := by decide +kernel
theorem dX5_find_76 : decode cX5_find 76 = .ok (.iload 4, 2) := by decide +kernel
theorem dX5_find_78 : decode cX5_find 78 = .ok (.iload 5, 2) := by decide +kernel
theorem dX5_find_80 : decode cX5_find 80 = .ok (.invokevirtual 158, 3) := by decide +kernel
theorem dX5_find_83 : decode cX5_find 83 = .ok (.ifCond .eq 20, 3) := by decide +kernel
theorem dX5_find_86 : decode cX5_find 86 = .ok (.iload 4, 2) := by decide +kernel
theorem dX5_find_88 : decode cX5_find 88 = .ok (.iload_n 1, 1) := by decide +kernel
theorem dX5_find_89 : decode cX5_find 89 = .ok (.if_icmp .ne 11, 3) := by decide +kernel
theorem dX5_find_92 : decode cX5_find 92 = .ok (.iload 5, 2) := by decide +kernel
theorem dX5_find_94 : decode cX5_find 94 = .ok (.iload_n 2, 1) := by decide +kernel
theorem dX5_find_95 : decode cX5_find 95 = .ok (.if_icmp .ne 5, 3) := by decide +kernel
theorem dX5_find_98 : decode cX5_find 98 = .ok (.iload_n 3, 1) := by decide +kernel
theorem dX5_find_99 : decode cX5_find 99 = .ok (.ireturn, 1) := by decide +kernel
theorem dX5_find_100 : decode cX5_find 100 = .ok (.iinc 3 1, 3) := by decide +kernel
theorem dX5_find_103 : decode cX5_find 103 = .ok (.iinc 5 1, 3) := by decide +kernel
theorem dX5_find_106 : decode cX5_find 106 = .ok (.goto (-42), 3) := by decide +kernel
theorem dX5_find_109 : decode cX5_find 109 = .ok (.iinc 4 1, 3) := by decide +kernel
theorem dX5_find_112 : decode cX5_find 112 = .ok (.goto (-62), 3) := by decide +kernel
theorem dX5_find_115 : decode cX5_find 115 = .ok (.bipush (-9), 2) := by decide +kernel
theorem dX5_find_117 : decode cX5_find 117 = .ok (.ireturn, 1) := by decide +kernel
theorem dX5_turn_0 : decode cX5_turn 0 = .ok (.iconst 0, 1) := by decide +kernel
theorem dX5_turn_1 : decode cX5_turn 1 = .ok (.istore_n 1, 1) := by decide +kernel
theorem dX5_turn_2 : decode cX5_turn 2 = .ok (.iload_n 1, 1) := by decide +kernel
theorem dX5_turn_3 : decode cX5_turn 3 = .ok (.bipush 32, 2) := by decide +kernel
theorem dX5_turn_5 : decode cX5_turn 5 = .ok (.if_icmp .ge 21, 3) := by decide +kernel
theorem dX5_turn_8 : decode cX5_turn 8 = .ok (.aload_n 0, 1) := by decide +kernel
theorem dX5_turn_9 : decode cX5_turn 9 = .ok (.getfield 56, 3) := by decide +kernel
theorem dX5_turn_12 : decode cX5_turn 12 = .ok (.iload_n 1, 1) := by decide +kernel
theorem dX5_turn_13 : decode cX5_turn 13 = .ok (.aload_n 0, 1) := by decide +kernel
theorem dX5_turn_14 : decode cX5_turn 14 = .ok (.getfield 13, 3) := by decide +kernel
theorem dX5_turn_17 : decode cX5_turn 17 = .ok (.iload_n 1, 1) := by decide +kernel
theorem dX5_turn_18 : decode cX5_turn 18 = .ok (.iaload, 1) := by decide +kernel
theorem dX5_turn_19 : decode cX5_turn 19 = .ok (.iastore, 1) := by decide +kernel
theorem dX5_turn_20 : decode cX5_turn 20 = .ok (.iinc 1 1, 3) := by decide +kernel
theorem dX5_turn_23 : decode cX5_turn 23 = .ok (.goto (-21), 3) := by decide +kernel
theorem dX5_turn_26 : decode cX5_turn 26 = .ok (.iconst 0, 1) := by decide +kernel
theorem dX5_turn_27 : decode cX5_turn 27 = .ok (.istore_n 1, 1) := by decide +kernel
theorem dX5_turn_28 : decode cX5_turn 28 = .ok (.iload_n 1, 1) := by decide +kernel
theorem dX5_turn_29 : decode cX5_turn 29 = .ok (.bipush 8, 2) := by decide +kernel
theorem dX5_turn_31 : decode cX5_turn 31 = .ok (.if_icmp .ge 24, 3) := by decide +kernel
theorem dX5_turn_34 : decode cX5_turn 34 = .ok (.aload_n 0, 1) := by decide +kernel
theorem dX5_turn_35 : decode cX5_turn 35 = .ok (.getfield 56, 3) := by decide +kernel
theorem dX5_turn_38 : decode cX5_turn 38 = .ok (.bipush 32, 2) := by decide +kernel
theorem dX5_turn_40 : decode cX5_turn 40 = .ok (.iload_n 1, 1) := by decide +kernel
theorem dX5_turn_41 : decode cX5_turn 41 = .ok (.iadd, 1) := by decide +kernel
theorem dX5_turn_42 : decode cX5_turn 42 = .ok (.aload_n 0, 1) := by decide +kernel
theorem dX5_turn_43 : decode cX5_turn 43 = .ok (.getfield 16, 3) := by decide +kernel
theorem dX5_turn_46 : decode cX5_turn 46 = .ok (.iload_n 1, 1) := by decide +kernel
theorem dX5_turn_47 : decode cX5_turn 47 = .ok (.iaload, 1) := by decide +kernel
theorem dX5_turn_48 : decode cX5_turn 48 = .ok (.iastore, 1) := by decide +kernel
theorem dX5_turn_49 : decode cX5_turn 49 = .ok (.iinc 1 1, 3) := by decide +kernel
theorem dX5_turn_52 : decode cX5_turn 52 = .ok (.goto (-24), 3) := by decide +kernel
theorem dX5_turn_55 : decode cX5_turn 55 = .ok (.iconst 0, 1) := by decide +kernel
theorem dX5_turn_56 : decode cX5_turn 56 = .ok (.istore_n 1, 1) := by decide +kernel
theorem dX5_turn_57 : decode cX5_turn 57 = .ok (.iload_n 1, 1) := by decide +kernel
theorem dX5_turn_58 : decode cX5_turn 58 = .ok (.iconst 4, 1) := by decide +kernel
theorem dX5_turn_59 : decode cX5_turn 59 = .ok (.if_icmp .ge 100, 3) := by decide +kernel
theorem dX5_turn_62 : decode cX5_turn 62 = .ok (.iconst 0, 1) := by decide +kernel
theorem dX5_turn_63 : decode cX5_turn 63 = .ok (.istore_n 2, 1) := by decide +kernel
theorem dX5_turn_64 : decode cX5_turn 64 = .ok (.iload_n 2, 1) := by decide +kernel
theorem dX5_turn_65 : decode cX5_turn 65 = .ok (.iconst 4, 1) := by decide +kernel
theorem dX5_turn_66 : decode cX5_turn 66 = .ok (.if_icmp .ge 55, 3) := by decide +kernel
theorem dX5_turn_69 : decode cX5_turn 69 = .ok (.aload_n 0, 1) := by decide +kernel
theorem dX5_turn_70 : decode cX5_turn 70 = .ok (.getfield 13, 3) := by decide +kernel
theorem dX5_turn_73 : decode cX5_turn 73 = .ok (.iconst 4, 1) := by decide +kernel
theorem dX5_turn_74 : decode cX5_turn 74 = .ok (.iload_n 1, 1) := by decide +kernel
theorem dX5_turn_75 : decode cX5_turn 75 = .ok (.imul, 1) := by decide +kernel
theorem dX5_turn_76 : decode cX5_turn 76 = .ok (.iload_n 2, 1) := by decide +kernel
theorem dX5_turn_77 : decode cX5_turn 77 = .ok (.iadd, 1) := by decide +kernel
theorem dX5_turn_78 : decode cX5_turn 78 = .ok (.aload_n 0, 1) := by decide +kernel
theorem dX5_turn_79 : decode cX5_turn 79 = .ok (.getfield 56, 3) := by decide +kernel
theorem dX5_turn_82 : decode cX5_turn 82 = .ok (.bipush 16, 2) := by decide +kernel
theorem dX5_turn_84 : decode cX5_turn 84 = .ok (.iconst 4, 1) := by decide +kernel
theorem dX5_turn_85 : decode cX5_turn 85 = .ok (.iload_n 2, 1) := by decide +kernel
theorem dX5_turn_86 : decode cX5_turn 86 = .ok (.imul, 1) := by decide +kernel
theorem dX5_turn_87 : decode cX5_turn 87 = .ok (.iadd, 1) := by decide +kernel
theorem dX5_turn_88 : decode cX5_turn 88 = .ok (.iload_n 1, 1) := by decide +kernel
theorem dX5_turn_89 : decode cX5_turn 89 = .ok (.iadd, 1) := by decide +kernel
theorem dX5_turn_90 : decode cX5_turn 90 = .ok (.iaload, 1) := by decide +kernel
theorem dX5_turn_91 : decode cX5_turn 91 = .ok (.iastore, 1) := by decide +kernel
theorem dX5_turn_92 : decode cX5_turn 92 = .ok (.aload_n 0, 1) := by decide +kernel
theorem dX5_turn_93 : decode cX5_turn 93 = .ok (.getfield 13, 3) := by decide +kernel
theorem dX5_turn_96 : decode cX5_turn 96 = .ok (.bipush 16, 2) := by decide +kernel
theorem dX5_turn_98 : decode cX5_turn 98 = .ok (.iconst 4, 1) := by decide +kernel
theorem dX5_turn_99 : decode cX5_turn 99 = .ok (.iload_n 1, 1) := by decide +kernel
theorem dX5_turn_100 : decode cX5_turn 100 = .ok (.imul, 1) := by decide +kernel
theorem dX5_turn_101 : decode cX5_turn 101 = .ok (.iadd, 1) := by decide +kernel
theorem dX5_turn_102 : decode cX5_turn 102 = .ok (.iload_n 2, 1) := by decide +kernel
theorem dX5_turn_103 : decode cX5_turn 103 = .ok (.iadd, 1) := by decide +kernel
theorem dX5_turn_104 : decode cX5_turn 104 = .ok (.aload_n 0, 1) := by decide +kernel
theorem dX5_turn_105 : decode cX5_turn 105 = .ok (.getfield 56, 3) := by decide +kernel
theorem dX5_turn_108 : decode cX5_turn 108 = .ok (.iconst 4, 1) := by decide +kernel
theorem dX5_turn_109 : decode cX5_turn 109 = .ok (.iload_n 2, 1) := by decide +kernel
theorem dX5_turn_110 : decode cX5_turn 110 = .ok (.imul, 1) := by decide +kernel
theorem dX5_turn_111 : decode cX5_turn 111 = .ok (.iload_n 1, 1) := by decide +kernel
theorem dX5_turn_112 : decode cX5_turn 112 = .ok (.iadd, 1) := by decide +kernel
theorem dX5_turn_113 : decode cX5_turn 113 = .ok (.iaload, 1) := by decide +kernel
theorem dX5_turn_114 : decode cX5_turn 114 = .ok (.iastore, 1) := by decide +kernel
theorem dX5_turn_115 : decode cX5_turn 115 = .ok (.iinc 2 1, 3) := by decide +kernel
theorem dX5_turn_118 : decode cX5_turn 118 = .ok (.goto (-54), 3) := by decide +kernel
theorem dX5_turn_121 : decode cX5_turn 121 = .ok (.aload_n 0, 1) := by decide +kernel
theorem dX5_turn_122 : decode cX5_turn 122 = .ok (.getfield 16, 3) := by decide +kernel
theorem dX5_turn_125 : decode cX5_turn 125 = .ok (.iload_n 1, 1) := by decide +kernel
theorem dX5_turn_126 : decode cX5_turn 126 = .ok (.aload_n 0, 1) := by decide +kernel
theorem dX5_turn_127 : decode cX5_turn 127 = .ok (.getfield 56, 3) := by decide +kernel
theorem dX5_turn_130 : decode cX5_turn 130 = .ok (.bipush 36, 2) := by decide +kernel
theorem dX5_turn_132 : decode cX5_turn 132 = .ok (.iload_n 1, 1) := by decide +kernel
theorem dX5_turn_133 : decode cX5_turn 133 = .ok (.iadd, 1) := by decide +kernel
theorem dX5_turn_134 : decode cX5_turn 134 = .ok (.iaload, 1) := by decide +kernel
theorem dX5_turn_135 : decode cX5_turn 135 = .ok (.iastore, 1) := by decide +kernel
theorem dX5_turn_136 : decode cX5_turn 136 = .ok (.aload_n 0, 1) := by decide +kernel
theorem dX5_turn_137 : decode cX5_turn 137 = .ok (.getfield 16, 3) := by decide +kernel
theorem dX5_turn_140 : decode cX5_turn 140 = .ok (.iconst 4, 1) := by decide +kernel
theorem dX5_turn_141 : decode cX5_turn 141 = .ok (.iload_n 1, 1) := by decide +kernel
theorem dX5_turn_142 : decode cX5_turn 142 = .ok (.iadd, 1) := by decide +kernel
theorem dX5_turn_143 : decode cX5_turn 143 = .ok (.aload_n 0, 1) := by decide +kernel
theorem dX5_turn_144 : decode cX5_turn 144 = .ok (.getfield 56, 3) := by decide +kernel
theorem dX5_turn_147 : decode cX5_turn 147 = .ok (.bipush 32, 2) := by decide +kernel
theorem dX5_turn_149 : decode cX5_turn 149 = .ok (.iload_n 1, 1) := by decide +kernel
theorem dX5_turn_150 : decode cX5_turn 150 = .ok (.iadd, 1) := by decide +kernel
theorem dX5_turn_151 : decode cX5_turn 151 = .ok (.iaload, 1) := by decide +kernel
theorem dX5_turn_152 : decode cX5_turn 152 = .ok (.iastore, 1) := by decide +kernel
theorem dX5_turn_153 : decode cX5_turn 153 = .ok (.iinc 1 1, 3) := by decide +kernel
theorem dX5_turn_156 : decode cX5_turn 156 = .ok (.goto (-99), 3) := by decide +kernel
theorem dX5_turn_159 : decode cX5_turn 159 = .ok (.aload_n 0, 1) := by decide +kernel
theorem dX5_turn_160 : decode cX5_turn 160 = .ok (.getfield 7, 3) := by decide +kernel
theorem dX5_turn_163 : decode cX5_turn 163 = .ok (.iconst 0, 1) := by decide +kernel
theorem dX5_turn_164 : decode cX5_turn 164 = .ok (.iaload, 1) := by decide +kernel
theorem dX5_turn_165 : decode cX5_turn 165 = .ok (.istore_n 1, 1) := by decide +kernel
theorem dX5_turn_166 : decode cX5_turn 166 = .ok (.aload_n 0, 1) := by decide +kernel
theorem dX5_turn_167 : decode cX5_turn 167 = .ok (.getfield 7, 3) := by decide +kernel
theorem dX5_turn_170 : decode cX5_turn 170 = .ok (.iconst 0, 1) := by decide +kernel
theorem dX5_turn_171 : decode cX5_turn 171 = .ok (.aload_n 0, 1) := by decide +kernel
theorem dX5_turn_172 : decode cX5_turn 172 = .ok (.getfield 7, 3) := by decide +kernel
theorem dX5_turn_175 : decode cX5_turn 175 = .ok (.iconst 1, 1) := by decide +kernel
theorem dX5_turn_176 : decode cX5_turn 176 = .ok (.iaload, 1) := by decide +kernel
theorem dX5_turn_177 : decode cX5_turn 177 = .ok (.iastore, 1) := by decide +kernel
theorem dX5_turn_178 : decode cX5_turn 178 = .ok (.aload_n 0, 1) := by decide +kernel
theorem dX5_turn_179 : decode cX5_turn 179 = .ok (.getfield 7, 3) := by decide +kernel
theorem dX5_turn_182 : decode cX5_turn 182 = .ok (.iconst 1, 1) := by decide +kernel
theorem dX5_turn_183 : decode cX5_turn 183 = .ok (.iload_n 1, 1) := by decide +kernel
theorem dX5_turn_184 : decode cX5_turn 184 = .ok (.iastore, 1) := by decide +kernel
theorem dX5_turn_185 : decode cX5_turn 185 = .ok (.iconst 1, 1) := by decide +kernel
theorem dX5_turn_186 : decode cX5_turn 186 = .ok (.ireturn, 1) := by decide +kernel
theorem dX5_placeOf_0 : decode cX5_placeOf 0 = .ok (.iload_n 1, 1) := by decide +kernel
theorem dX5_placeOf_1 : decode cX5_placeOf 1 = .ok (.ifCond .ne 11, 3) := by decide +kernel
theorem dX5_placeOf_4 : decode cX5_placeOf 4 = .ok (.iconst 4, 1) := by decide +kernel
theorem dX5_placeOf_5 : decode cX5_placeOf 5 = .ok (.iload_n 2, 1) := by decide +kernel
theorem dX5_placeOf_6 : decode cX5_placeOf 6 = .ok (.imul, 1) := by decide +kernel
theorem dX5_placeOf_7 : decode cX5_placeOf 7 = .ok (.iload_n 3, 1) := by decide +kernel
theorem dX5_placeOf_8 : decode cX5_placeOf 8 = .ok (.iadd, 1) := by decide +kernel
theorem dX5_placeOf_9 : decode cX5_placeOf 9 = .ok (.goto 11, 3) := by decide +kernel
theorem dX5_placeOf_12 : decode cX5_placeOf 12 = .ok (.bipush 16, 2) := by decide +kernel
theorem dX5_placeOf_14 : decode cX5_placeOf 14 = .ok (.iconst 4, 1) := by decide +kernel
theorem dX5_placeOf_15 : decode cX5_placeOf 15 = .ok (.iload_n 3, 1) := by decide +kernel
theorem dX5_placeOf_16 : decode cX5_placeOf 16 = .ok (.imul, 1) := by decide +kernel
theorem dX5_placeOf_17 : decode cX5_placeOf 17 = .ok (.iadd, 1) := by decide +kernel
theorem dX5_placeOf_18 : decode cX5_placeOf 18 = .ok (.iload_n 2, 1) := by decide +kernel
theorem dX5_placeOf_19 : decode cX5_placeOf 19 = .ok (.iadd, 1) := by decide +kernel
theorem dX5_placeOf_20 : decode cX5_placeOf 20 = .ok (.ireturn, 1) := by decide +kernel
theorem dX5_raise_0 : decode cX5_raise 0 = .ok (.iload_n 1, 1) := by decide +kernel
theorem dX5_raise_1 : decode cX5_raise 1 = .ok (.invokestatic 62, 3) := by decide +kernel
theorem dX5_raise_4 : decode cX5_raise 4 = .ok (.ifCond .eq 14, 3) := by decide +kernel
theorem dX5_raise_7 : decode cX5_raise 7 = .ok (.aload_n 0, 1) := by decide +kernel
theorem dX5_raise_8 : decode cX5_raise 8 = .ok (.iconst 1, 1) := by decide +kernel
theorem dX5_raise_9 : decode cX5_raise 9 = .ok (.iload_n 1, 1) := by decide +kernel
theorem dX5_raise_10 : decode cX5_raise 10 = .ok (.isub, 1) := by decide +kernel
theorem dX5_raise_11 : decode cX5_raise 11 = .ok (.iload_n 2, 1) := by decide +kernel
theorem dX5_raise_12 : decode cX5_raise 12 = .ok (.invokevirtual 74, 3) := by decide +kernel
theorem dX5_raise_15 : decode cX5_raise 15 = .ok (.ifCond .ne 9, 3) := by decide +kernel
theorem dX5_raise_18 : decode cX5_raise 18 = .ok (.aload_n 0, 1) := by decide +kernel
theorem dX5_raise_19 : decode cX5_raise 19 = .ok (.iconst (-1), 1) := by decide +kernel
theorem dX5_raise_20 : decode cX5_raise 20 = .ok (.invokevirtual 70, 3) := by decide +kernel
theorem dX5_raise_23 : decode cX5_raise 23 = .ok (.ireturn, 1) := by decide +kernel
theorem dX5_raise_24 : decode cX5_raise 24 = .ok (.iconst 0, 1) := by decide +kernel
theorem dX5_raise_25 : decode cX5_raise 25 = .ok (.istore 4, 2) := by decide +kernel
theorem dX5_raise_27 : decode cX5_raise 27 = .ok (.iconst 0, 1) := by decide +kernel
theorem dX5_raise_28 : decode cX5_raise 28 = .ok (.istore 5, 2) := by decide +kernel
theorem dX5_raise_30 : decode cX5_raise 30 = .ok (.iconst 0, 1) := by decide +kernel
theorem dX5_raise_31 : decode cX5_raise 31 = .ok (.istore 6, 2) := by decide +kernel
theorem dX5_raise_33 : decode cX5_raise 33 = .ok (.iload 6, 2) := by decide +kernel
theorem dX5_raise_35 : decode cX5_raise 35 = .ok (.aload_n 0, 1) := by decide +kernel
theorem dX5_raise_36 : decode cX5_raise 36 = .ok (.getfield 7, 3) := by decide +kernel
theorem dX5_raise_39 : decode cX5_raise 39 = .ok (.iload_n 1, 1) := by decide +kernel
theorem dX5_raise_40 : decode cX5_raise 40 = .ok (.iaload, 1) := by decide +kernel
theorem dX5_raise_41 : decode cX5_raise 41 = .ok (.if_icmp .ge 65, 3) := by decide +kernel
theorem dX5_raise_44 : decode cX5_raise 44 = .ok (.aload_n 0, 1) := by decide +kernel
theorem dX5_raise_45 : decode cX5_raise 45 = .ok (.iload_n 1, 1) := by decide +kernel
theorem dX5_raise_46 : decode cX5_raise 46 = .ok (.iload 6, 2) := by decide +kernel
theorem dX5_raise_48 : decode cX5_raise 48 = .ok (.iload_n 2, 1) := by decide +kernel
theorem dX5_raise_49 : decode cX5_raise 49 = .ok (.invokevirtual 101, 3) := by decide +kernel
theorem dX5_raise_52 : decode cX5_raise 52 = .ok (.i2l, 1) := by decide +kernel
theorem dX5_raise_53 : decode cX5_raise 53 = .ok (.iload_n 3, 1) := by decide +kernel
theorem dX5_raise_54 : decode cX5_raise 54 = .ok (.i2l, 1) := by decide +kernel
theorem dX5_raise_55 : decode cX5_raise 55 = .ok (.ladd, 1) := by decide +kernel
theorem dX5_raise_56 : decode cX5_raise 56 = .ok (.lstore 7, 2) := by decide +kernel
theorem dX5_raise_58 : decode cX5_raise 58 = .ok (.iload 4, 2) := by decide +kernel
theorem dX5_raise_60 : decode cX5_raise 60 = .ok (.ifCond .ne 12, 3) := by decide +kernel
theorem dX5_raise_63 : decode cX5_raise 63 = .ok (.lload 7, 2) := by decide +kernel
theorem dX5_raise_65 : decode cX5_raise 65 = .ok (.ldc2_w 173, 3) := by decide +kernel
theorem dX5_raise_68 : decode cX5_raise 68 = .ok (.lcmp, 1) := by decide +kernel
theorem dX5_raise_69 : decode cX5_raise 69 = .ok (.ifCond .ge 7, 3) := by decide +kernel
theorem dX5_raise_72 : decode cX5_raise 72 = .ok (.iconst 1, 1) := by decide +kernel
theorem dX5_raise_73 : decode cX5_raise 73 = .ok (.goto 4, 3) := by decide +kernel
theorem dX5_raise_76 : decode cX5_raise 76 = .ok (.iconst 0, 1) := by decide +kernel
theorem dX5_raise_77 : decode cX5_raise 77 = .ok (.istore 4, 2) := by decide +kernel
theorem dX5_raise_79 : decode cX5_raise 79 = .ok (.iload 5, 2) := by decide +kernel
theorem dX5_raise_81 : decode cX5_raise 81 = .ok (.ifCond .ne 12, 3) := by decide +kernel
theorem dX5_raise_84 : decode cX5_raise 84 = .ok (.lload 7, 2) := by decide +kernel
theorem dX5_raise_86 : decode cX5_raise 86 = .ok (.ldc2_w 175, 3) := by decide +kernel
theorem dX5_raise_89 : decode cX5_raise 89 = .ok (.lcmp, 1) := by decide +kernel
theorem dX5_raise_90 : decode cX5_raise 90 = .ok (.ifCond .le 7, 3) := by decide +kernel
theorem dX5_raise_93 : decode cX5_raise 93 = .ok (.iconst 1, 1) := by decide +kernel
theorem dX5_raise_94 : decode cX5_raise 94 = .ok (.goto 4, 3) := by decide +kernel
theorem dX5_raise_97 : decode cX5_raise 97 = .ok (.iconst 0, 1) := by decide +kernel
theorem dX5_raise_98 : decode cX5_raise 98 = .ok (.istore 5, 2) := by decide +kernel
theorem dX5_raise_100 : decode cX5_raise 100 = .ok (.iinc 6 1, 3) := by decide +kernel
theorem dX5_raise_103 : decode cX5_raise 103 = .ok (.goto (-70), 3) := by decide +kernel
theorem dX5_raise_106 : decode cX5_raise 106 = .ok (.iload 4, 2) := by decide +kernel
theorem dX5_raise_108 : decode cX5_raise 108 = .ok (.ifCond .eq 10, 3) := by decide +kernel
theorem dX5_raise_111 : decode cX5_raise 111 = .ok (.aload_n 0, 1) := by decide +kernel
theorem dX5_raise_112 : decode cX5_raise 112 = .ok (.bipush (-4), 2) := by decide +kernel
theorem dX5_raise_114 : decode cX5_raise 114 = .ok (.invokevirtual 70, 3) := by decide +kernel
theorem dX5_raise_117 : decode cX5_raise 117 = .ok (.ireturn, 1) := by decide +kernel
theorem dX5_raise_118 : decode cX5_raise 118 = .ok (.iload 5, 2) := by decide +kernel
theorem dX5_raise_120 : decode cX5_raise 120 = .ok (.ifCond .eq 10, 3) := by decide +kernel
theorem dX5_raise_123 : decode cX5_raise 123 = .ok (.aload_n 0, 1) := by decide +kernel
theorem dX5_raise_124 : decode cX5_raise 124 = .ok (.bipush (-6), 2) := by decide +kernel
theorem dX5_raise_126 : decode cX5_raise 126 = .ok (.invokevirtual 70, 3) := by decide +kernel
theorem dX5_raise_129 : decode cX5_raise 129 = .ok (.ireturn, 1) := by decide +kernel
theorem dX5_raise_130 : decode cX5_raise 130 = .ok (.iconst 0, 1) := by decide +kernel
theorem dX5_raise_131 : decode cX5_raise 131 = .ok (.istore 6, 2) := by decide +kernel
theorem dX5_raise_133 : decode cX5_raise 133 = .ok (.iload 6, 2) := by decide +kernel
theorem dX5_raise_135 : decode cX5_raise 135 = .ok (.aload_n 0, 1) := by decide +kernel
theorem dX5_raise_136 : decode cX5_raise 136 = .ok (.getfield 7, 3) := by decide +kernel
theorem dX5_raise_139 : decode cX5_raise 139 = .ok (.iload_n 1, 1) := by decide +kernel
theorem dX5_raise_140 : decode cX5_raise 140 = .ok (.iaload, 1) := by decide +kernel
theorem dX5_raise_141 : decode cX5_raise 141 = .ok (.if_icmp .ge 26, 3) := by decide +kernel
theorem dX5_raise_144 : decode cX5_raise 144 = .ok (.aload_n 0, 1) := by decide +kernel
theorem dX5_raise_145 : decode cX5_raise 145 = .ok (.getfield 13, 3) := by decide +kernel
theorem dX5_raise_148 : decode cX5_raise 148 = .ok (.aload_n 0, 1) := by decide +kernel
theorem dX5_raise_149 : decode cX5_raise 149 = .ok (.iload_n 1, 1) := by decide +kernel
theorem dX5_raise_150 : decode cX5_raise 150 = .ok (.iload 6, 2) := by decide +kernel
theorem dX5_raise_152 : decode cX5_raise 152 = .ok (.iload_n 2, 1) := by decide +kernel
theorem dX5_raise_153 : decode cX5_raise 153 = .ok (.invokevirtual 177, 3) := by decide +kernel
theorem dX5_raise_156 : decode cX5_raise 156 = .ok (.dup2, 1) := by decide +kernel
theorem dX5_raise_157 : decode cX5_raise 157 = .ok (.iaload, 1) := by decide +kernel
theorem dX5_raise_158 : decode cX5_raise 158 = .ok (.iload_n 3, 1) := by decide +kernel
theorem dX5_raise_159 : decode cX5_raise 159 = .ok (.iadd, 1) := by decide +kernel
theorem dX5_raise_160 : decode cX5_raise 160 = .ok (.iastore, 1) := by decide +kernel
theorem dX5_raise_161 : decode cX5_raise 161 = .ok (.iinc 6 1, 3) := by decide +kernel
theorem dX5_raise_164 : decode cX5_raise 164 = .ok (.goto (-31), 3) := by decide +kernel
theorem dX5_raise_167 : decode cX5_raise 167 = .ok (.iconst 1, 1) := by decide +kernel
theorem dX5_raise_168 : decode cX5_raise 168 = .ok (.ireturn, 1) := by decide +kernel
theorem dX5_scale_0 : decode cX5_scale 0 = .ok (.iload_n 1, 1) := by decide +kernel
theorem dX5_scale_1 : decode cX5_scale 1 = .ok (.invokestatic 62, 3) := by decide +kernel
theorem dX5_scale_4 : decode cX5_scale 4 = .ok (.ifCond .ne 9, 3) := by decide +kernel
theorem dX5_scale_7 : decode cX5_scale 7 = .ok (.aload_n 0, 1) := by decide +kernel
theorem dX5_scale_8 : decode cX5_scale 8 = .ok (.iconst (-1), 1) := by decide +kernel
theorem dX5_scale_9 : decode cX5_scale 9 = .ok (.invokevirtual 70, 3) := by decide +kernel
theorem dX5_scale_12 : decode cX5_scale 12 = .ok (.ireturn, 1) := by decide +kernel
theorem dX5_scale_13 : decode cX5_scale 13 = .ok (.iload_n 2, 1) := by decide +kernel
theorem dX5_scale_14 : decode cX5_scale 14 = .ok (.iconst 1, 1) := by decide +kernel
theorem dX5_scale_15 : decode cX5_scale 15 = .ok (.if_icmp .ge 10, 3) := by decide +kernel
theorem dX5_scale_18 : decode cX5_scale 18 = .ok (.aload_n 0, 1) := by decide +kernel
theorem dX5_scale_19 : decode cX5_scale 19 = .ok (.bipush (-4), 2) := by decide +kernel
theorem dX5_scale_21 : decode cX5_scale 21 = .ok (.invokevirtual 70, 3) := by decide +kernel
theorem dX5_scale_24 : decode cX5_scale 24 = .ok (.ireturn, 1) := by decide +kernel
theorem dX5_scale_25 : decode cX5_scale 25 = .ok (.bipush 16, 2) := by decide +kernel
theorem dX5_scale_27 : decode cX5_scale 27 = .ok (.iload_n 1, 1) := by decide +kernel
theorem dX5_scale_28 : decode cX5_scale 28 = .ok (.imul, 1) := by decide +kernel
theorem dX5_scale_29 : decode cX5_scale 29 = .ok (.istore_n 3, 1) := by decide +kernel
theorem dX5_scale_30 : decode cX5_scale 30 = .ok (.iload_n 3, 1) := by decide +kernel
theorem dX5_scale_31 : decode cX5_scale 31 = .ok (.bipush 16, 2) := by decide +kernel
theorem dX5_scale_33 : decode cX5_scale 33 = .ok (.iload_n 1, 1) := by decide +kernel
theorem dX5_scale_34 : decode cX5_scale 34 = .ok (.imul, 1) := by decide +kernel
theorem dX5_scale_35 : decode cX5_scale 35 = .ok (.bipush 16, 2) := by decide +kernel
theorem dX5_scale_37 : decode cX5_scale 37 = .ok (.iadd, 1) := by decide +kernel
theorem dX5_scale_38 : decode cX5_scale 38 = .ok (.if_icmp .ge 38, 3) := by decide +kernel
theorem dX5_scale_41 : decode cX5_scale 41 = .ok (.aload_n 0, 1) := by decide +kernel
theorem dX5_scale_42 : decode cX5_scale 42 = .ok (.getfield 13, 3) := by decide +kernel
theorem dX5_scale_45 : decode cX5_scale 45 = .ok (.iload_n 3, 1) := by decide +kernel
theorem dX5_scale_46 : decode cX5_scale 46 = .ok (.iaload, 1) := by decide +kernel
theorem dX5_scale_47 : decode cX5_scale 47 = .ok (.i2l, 1) := by decide +kernel
theorem dX5_scale_48 : decode cX5_scale 48 = .ok (.iload_n 2, 1) := by decide +kernel
theorem dX5_scale_49 : decode cX5_scale 49 = .ok (.i2l, 1) := by decide +kernel
theorem dX5_scale_50 : decode cX5_scale 50 = .ok (.lmul, 1) := by decide +kernel
theorem dX5_scale_51 : decode cX5_scale 51 = .ok (.ldc2_w 173, 3) := by decide +kernel
theorem dX5_scale_54 : decode cX5_scale 54 = .ok (.ldc2_w 175, 3) := by decide +kernel
theorem dX5_scale_57 : decode cX5_scale 57 = .ok (.invokestatic 66, 3) := by decide +kernel
theorem dX5_scale_60 : decode cX5_scale 60 = .ok (.ifCond .ne 10, 3) := by decide +kernel
theorem dX5_scale_63 : decode cX5_scale 63 = .ok (.aload_n 0, 1) := by decide +kernel
theorem dX5_scale_64 : decode cX5_scale 64 = .ok (.bipush (-6), 2) := by decide +kernel
theorem dX5_scale_66 : decode cX5_scale 66 = .ok (.invokevirtual 70, 3) := by decide +kernel
theorem dX5_scale_69 : decode cX5_scale 69 = .ok (.ireturn, 1) := by decide +kernel
theorem dX5_scale_70 : decode cX5_scale 70 = .ok (.iinc 3 1, 3) := by decide +kernel
theorem dX5_scale_73 : decode cX5_scale 73 = .ok (.goto (-43), 3) := by decide +kernel
theorem dX5_scale_76 : decode cX5_scale 76 = .ok (.bipush 16, 2) := by decide +kernel
theorem dX5_scale_78 : decode cX5_scale 78 = .ok (.iload_n 1, 1) := by decide +kernel
theorem dX5_scale_79 : decode cX5_scale 79 = .ok (.imul, 1) := by decide +kernel
theorem dX5_scale_80 : decode cX5_scale 80 = .ok (.istore_n 3, 1) := by decide +kernel
theorem dX5_scale_81 : decode cX5_scale 81 = .ok (.iload_n 3, 1) := by decide +kernel
theorem dX5_scale_82 : decode cX5_scale 82 = .ok (.bipush 16, 2) := by decide +kernel
theorem dX5_scale_84 : decode cX5_scale 84 = .ok (.iload_n 1, 1) := by decide +kernel
theorem dX5_scale_85 : decode cX5_scale 85 = .ok (.imul, 1) := by decide +kernel
theorem dX5_scale_86 : decode cX5_scale 86 = .ok (.bipush 16, 2) := by decide +kernel
theorem dX5_scale_88 : decode cX5_scale 88 = .ok (.iadd, 1) := by decide +kernel
theorem dX5_scale_89 : decode cX5_scale 89 = .ok (.if_icmp .ge 19, 3) := by decide +kernel
theorem dX5_scale_92 : decode cX5_scale 92 = .ok (.aload_n 0, 1) := by decide +kernel
theorem dX5_scale_93 : decode cX5_scale 93 = .ok (.getfield 13, 3) := by decide +kernel
theorem dX5_scale_96 : decode cX5_scale 96 = .ok (.iload_n 3, 1) := by decide +kernel
theorem dX5_scale_97 : decode cX5_scale 97 = .ok (.dup2, 1) := by decide +kernel
theorem dX5_scale_98 : decode cX5_scale 98 = .ok (.iaload, 1) := by decide +kernel
theorem dX5_scale_99 : decode cX5_scale 99 = .ok (.iload_n 2, 1) := by decide +kernel
theorem dX5_scale_100 : decode cX5_scale 100 = .ok (.imul, 1) := by decide +kernel
theorem dX5_scale_101 : decode cX5_scale 101 = .ok (.iastore, 1) := by decide +kernel
theorem dX5_scale_102 : decode cX5_scale 102 = .ok (.iinc 3 1, 3) := by decide +kernel
theorem dX5_scale_105 : decode cX5_scale 105 = .ok (.goto (-24), 3) := by decide +kernel
theorem dX5_scale_108 : decode cX5_scale 108 = .ok (.iconst 1, 1) := by decide +kernel
theorem dX5_scale_109 : decode cX5_scale 109 = .ok (.ireturn, 1) := by decide +kernel
theorem dX5_status_0 : decode cX5_status 0 = .ok (.iconst 1, 1) := by decide +kernel
theorem dX5_status_1 : decode cX5_status 1 = .ok (.istore_n 2, 1) := by decide +kernel
theorem dX5_status_2 : decode cX5_status 2 = .ok (.aload_n 0, 1) := by decide +kernel
theorem dX5_status_3 : decode cX5_status 3 = .ok (.getfield 7, 3) := by decide +kernel
theorem dX5_status_6 : decode cX5_status 6 = .ok (.iconst 0, 1) := by decide +kernel
theorem dX5_status_7 : decode cX5_status 7 = .ok (.iaload, 1) := by decide +kernel
theorem dX5_status_8 : decode cX5_status 8 = .ok (.aload_n 0, 1) := by decide +kernel
theorem dX5_status_9 : decode cX5_status 9 = .ok (.getfield 7, 3) := by decide +kernel
theorem dX5_status_12 : decode cX5_status 12 = .ok (.iconst 1, 1) := by decide +kernel
theorem dX5_status_13 : decode cX5_status 13 = .ok (.iaload, 1) := by decide +kernel
theorem dX5_status_14 : decode cX5_status 14 = .ok (.if_icmp .ne 7, 3) := by decide +kernel
theorem dX5_status_17 : decode cX5_status 17 = .ok (.iconst 1, 1) := by decide +kernel
theorem dX5_status_18 : decode cX5_status 18 = .ok (.goto 4, 3) := by decide +kernel
theorem dX5_status_21 : decode cX5_status 21 = .ok (.iconst 0, 1) := by decide +kernel
theorem dX5_status_22 : decode cX5_status 22 = .ok (.istore_n 3, 1) := by decide +kernel
theorem dX5_status_23 : decode cX5_status 23 = .ok (.iconst 0, 1) := by decide +kernel
theorem dX5_status_24 : decode cX5_status 24 = .ok (.istore 4, 2) := by decide +kernel
theorem dX5_status_26 : decode cX5_status 26 = .ok (.iload 4, 2) := by decide +kernel
theorem dX5_status_28 : decode cX5_status 28 = .ok (.iconst 4, 1) := by decide +kernel
theorem dX5_status_29 : decode cX5_status 29 = .ok (.if_icmp .ge 105, 3) := by decide +kernel
theorem dX5_status_32 : decode cX5_status 32 = .ok (.iconst 0, 1) := by decide +kernel
theorem dX5_status_33 : decode cX5_status 33 = .ok (.istore 5, 2) := by decide +kernel
theorem dX5_status_35 : decode cX5_status 35 = .ok (.iload 5, 2) := by decide +kernel
theorem dX5_status_37 : decode cX5_status 37 = .ok (.iconst 4, 1) := by decide +kernel
theorem dX5_status_38 : decode cX5_status 38 = .ok (.if_icmp .ge 90, 3) := by decide +kernel
theorem dX5_status_41 : decode cX5_status 41 = .ok (.iload_n 2, 1) := by decide +kernel
theorem dX5_status_42 : decode cX5_status 42 = .ok (.ifCond .eq 38, 3) := by decide +kernel
theorem dX5_status_45 : decode cX5_status 45 = .ok (.aload_n 0, 1) := by decide +kernel
theorem dX5_status_46 : decode cX5_status 46 = .ok (.getfield 13, 3) := by decide +kernel
theorem dX5_status_49 : decode cX5_status 49 = .ok (.iconst 4, 1) := by decide +kernel
theorem dX5_status_50 : decode cX5_status 50 = .ok (.iload 4, 2) := by decide +kernel
theorem dX5_status_52 : decode cX5_status 52 = .ok (.imul, 1) := by decide +kernel
theorem dX5_status_53 : decode cX5_status 53 = .ok (.iload 5, 2) := by decide +kernel
theorem dX5_status_55 : decode cX5_status 55 = .ok (.iadd, 1) := by decide +kernel
theorem dX5_status_56 : decode cX5_status 56 = .ok (.iaload, 1) := by decide +kernel
theorem dX5_status_57 : decode cX5_status 57 = .ok (.aload_n 0, 1) := by decide +kernel
theorem dX5_status_58 : decode cX5_status 58 = .ok (.getfield 13, 3) := by decide +kernel
theorem dX5_status_61 : decode cX5_status 61 = .ok (.bipush 16, 2) := by decide +kernel
theorem dX5_status_63 : decode cX5_status 63 = .ok (.iconst 4, 1) := by decide +kernel
theorem dX5_status_64 : decode cX5_status 64 = .ok (.iload 4, 2) := by decide +kernel
theorem dX5_status_66 : decode cX5_status 66 = .ok (.imul, 1) := by decide +kernel
theorem dX5_status_67 : decode cX5_status 67 = .ok (.iadd, 1) := by decide +kernel
theorem dX5_status_68 : decode cX5_status 68 = .ok (.iload 5, 2) := by decide +kernel
theorem dX5_status_70 : decode cX5_status 70 = .ok (.iadd, 1) := by decide +kernel
theorem dX5_status_71 : decode cX5_status 71 = .ok (.iaload, 1) := by decide +kernel
theorem dX5_status_72 : decode cX5_status 72 = .ok (.iadd, 1) := by decide +kernel
theorem dX5_status_73 : decode cX5_status 73 = .ok (.ifCond .ne 7, 3) := by decide +kernel
theorem dX5_status_76 : decode cX5_status 76 = .ok (.iconst 1, 1) := by decide +kernel
theorem dX5_status_77 : decode cX5_status 77 = .ok (.goto 4, 3) := by decide +kernel
theorem dX5_status_80 : decode cX5_status 80 = .ok (.iconst 0, 1) := by decide +kernel
theorem dX5_status_81 : decode cX5_status 81 = .ok (.istore_n 2, 1) := by decide +kernel
theorem dX5_status_82 : decode cX5_status 82 = .ok (.iload_n 3, 1) := by decide +kernel
theorem dX5_status_83 : decode cX5_status 83 = .ok (.ifCond .eq 37, 3) := by decide +kernel
theorem dX5_status_86 : decode cX5_status 86 = .ok (.aload_n 0, 1) := by decide +kernel
theorem dX5_status_87 : decode cX5_status 87 = .ok (.getfield 13, 3) := by decide +kernel
theorem dX5_status_90 : decode cX5_status 90 = .ok (.bipush 16, 2) := by decide +kernel
theorem dX5_status_92 : decode cX5_status 92 = .ok (.iconst 4, 1) := by decide +kernel
theorem dX5_status_93 : decode cX5_status 93 = .ok (.iload 4, 2) := by decide +kernel
theorem dX5_status_95 : decode cX5_status 95 = .ok (.imul, 1) := by decide +kernel
theorem dX5_status_96 : decode cX5_status 96 = .ok (.iadd, 1) := by decide +kernel
theorem dX5_status_97 : decode cX5_status 97 = .ok (.iload 5, 2) := by decide +kernel
theorem dX5_status_99 : decode cX5_status 99 = .ok (.iadd, 1) := by decide +kernel
theorem dX5_status_100 : decode cX5_status 100 = .ok (.iaload, 1) := by decide +kernel
theorem dX5_status_101 : decode cX5_status 101 = .ok (.aload_n 0, 1) := by decide +kernel
theorem dX5_status_102 : decode cX5_status 102 = .ok (.getfield 13, 3) := by decide +kernel
theorem dX5_status_105 : decode cX5_status 105 = .ok (.iconst 4, 1) := by decide +kernel
theorem dX5_status_106 : decode cX5_status 106 = .ok (.iload 5, 2) := by decide +kernel
theorem dX5_status_108 : decode cX5_status 108 = .ok (.imul, 1) := by decide +kernel
theorem dX5_status_109 : decode cX5_status 109 = .ok (.iload 4, 2) := by decide +kernel
theorem dX5_status_111 : decode cX5_status 111 = .ok (.iadd, 1) := by decide +kernel
theorem dX5_status_112 : decode cX5_status 112 = .ok (.iaload, 1) := by decide +kernel
theorem dX5_status_113 : decode cX5_status 113 = .ok (.if_icmp .ne 7, 3) := by decide +kernel
theorem dX5_status_116 : decode cX5_status 116 = .ok (.iconst 1, 1) := by decide +kernel
theorem dX5_status_117 : decode cX5_status 117 = .ok (.goto 4, 3) := by decide +kernel
theorem dX5_status_120 : decode cX5_status 120 = .ok (.iconst 0, 1) := by decide +kernel
theorem dX5_status_121 : decode cX5_status 121 = .ok (.istore_n 3, 1) := by decide +kernel
theorem dX5_status_122 : decode cX5_status 122 = .ok (.iinc 5 1, 3) := by decide +kernel
theorem dX5_status_125 : decode cX5_status 125 = .ok (.goto (-90), 3) := by decide +kernel
theorem dX5_status_128 : decode cX5_status 128 = .ok (.iinc 4 1, 3) := by decide +kernel
theorem dX5_status_131 : decode cX5_status 131 = .ok (.goto (-105), 3) := by decide +kernel
theorem dX5_status_134 : decode cX5_status 134 = .ok (.iload_n 1, 1) := by decide +kernel
theorem dX5_status_135 : decode cX5_status 135 = .ok (.tableswitch 91 0 4 #[33, 40, 47, 57, 67], 33) := by decide +kernel
theorem dX5_status_168 : decode cX5_status 168 = .ok (.aload_n 0, 1) := by decide +kernel
theorem dX5_status_169 : decode cX5_status 169 = .ok (.getfield 7, 3) := by decide +kernel
theorem dX5_status_172 : decode cX5_status 172 = .ok (.iconst 0, 1) := by decide +kernel
theorem dX5_status_173 : decode cX5_status 173 = .ok (.iaload, 1) := by decide +kernel
theorem dX5_status_174 : decode cX5_status 174 = .ok (.ireturn, 1) := by decide +kernel
theorem dX5_status_175 : decode cX5_status 175 = .ok (.aload_n 0, 1) := by decide +kernel
theorem dX5_status_176 : decode cX5_status 176 = .ok (.getfield 7, 3) := by decide +kernel
theorem dX5_status_179 : decode cX5_status 179 = .ok (.iconst 1, 1) := by decide +kernel
theorem dX5_status_180 : decode cX5_status 180 = .ok (.iaload, 1) := by decide +kernel
theorem dX5_status_181 : decode cX5_status 181 = .ok (.ireturn, 1) := by decide +kernel
theorem dX5_status_182 : decode cX5_status 182 = .ok (.iload_n 2, 1) := by decide +kernel
theorem dX5_status_183 : decode cX5_status 183 = .ok (.ifCond .eq 7, 3) := by decide +kernel
theorem dX5_status_186 : decode cX5_status 186 = .ok (.iconst 1, 1) := by decide +kernel
theorem dX5_status_187 : decode cX5_status 187 = .ok (.goto 4, 3) := by decide +kernel
theorem dX5_status_190 : decode cX5_status 190 = .ok (.iconst 0, 1) := by decide +kernel
theorem dX5_status_191 : decode cX5_status 191 = .ok (.ireturn, 1) := by decide +kernel
theorem dX5_status_192 : decode cX5_status 192 = .ok (.iload_n 3, 1) := by decide +kernel
theorem dX5_status_193 : decode cX5_status 193 = .ok (.ifCond .eq 7, 3) := by decide +kernel
theorem dX5_status_196 : decode cX5_status 196 = .ok (.iconst 1, 1) := by decide +kernel
theorem dX5_status_197 : decode cX5_status 197 = .ok (.goto 4, 3) := by decide +kernel
theorem dX5_status_200 : decode cX5_status 200 = .ok (.iconst 0, 1) := by decide +kernel
theorem dX5_status_201 : decode cX5_status 201 = .ok (.ireturn, 1) := by decide +kernel
theorem dX5_status_202 : decode cX5_status 202 = .ok (.aload_n 0, 1) := by decide +kernel
theorem dX5_status_203 : decode cX5_status 203 = .ok (.iconst 0, 1) := by decide +kernel
theorem dX5_status_204 : decode cX5_status 204 = .ok (.invokevirtual 154, 3) := by decide +kernel
theorem dX5_status_207 : decode cX5_status 207 = .ok (.aload_n 0, 1) := by decide +kernel
theorem dX5_status_208 : decode cX5_status 208 = .ok (.iconst 1, 1) := by decide +kernel
theorem dX5_status_209 : decode cX5_status 209 = .ok (.invokevirtual 154, 3) := by decide +kernel
theorem dX5_status_212 : decode cX5_status 212 = .ok (.aload_n 0, 1) := by decide +kernel
theorem dX5_status_213 : decode cX5_status 213 = .ok (.getfield 29, 3) := by decide +kernel
theorem dX5_status_216 : decode cX5_status 216 = .ok (.iconst 0, 1) := by decide +kernel
theorem dX5_status_217 : decode cX5_status 217 = .ok (.iaload, 1) := by decide +kernel
theorem dX5_status_218 : decode cX5_status 218 = .ok (.aload_n 0, 1) := by decide +kernel
theorem dX5_status_219 : decode cX5_status 219 = .ok (.getfield 29, 3) := by decide +kernel
theorem dX5_status_222 : decode cX5_status 222 = .ok (.iconst 1, 1) := by decide +kernel
theorem dX5_status_223 : decode cX5_status 223 = .ok (.iaload, 1) := by decide +kernel
theorem dX5_status_224 : decode cX5_status 224 = .ok (.iadd, 1) := by decide +kernel
theorem dX5_status_225 : decode cX5_status 225 = .ok (.ireturn, 1) := by decide +kernel
theorem dX5_status_226 : decode cX5_status 226 = .ok (.iload_n 1, 1) := by decide +kernel
theorem dX5_status_227 : decode cX5_status 227 = .ok (.i2l, 1) := by decide +kernel
theorem dX5_status_228 : decode cX5_status 228 = .ok (.ldc2_w 180, 3) := by decide +kernel
theorem dX5_status_231 : decode cX5_status 231 = .ok (.ldc2_w 182, 3) := by decide +kernel
theorem dX5_status_234 : decode cX5_status 234 = .ok (.invokestatic 66, 3) := by decide +kernel
theorem dX5_status_237 : decode cX5_status 237 = .ok (.ifCond .eq 15, 3) := by decide +kernel
theorem dX5_status_240 : decode cX5_status 240 = .ok (.aload_n 0, 1) := by decide +kernel
theorem dX5_status_241 : decode cX5_status 241 = .ok (.getfield 19, 3) := by decide +kernel
theorem dX5_status_244 : decode cX5_status 244 = .ok (.iload_n 1, 1) := by decide +kernel
theorem dX5_status_245 : decode cX5_status 245 = .ok (.bipush 10, 2) := by decide +kernel
theorem dX5_status_247 : decode cX5_status 247 = .ok (.isub, 1) := by decide +kernel
theorem dX5_status_248 : decode cX5_status 248 = .ok (.iaload, 1) := by decide +kernel
theorem dX5_status_249 : decode cX5_status 249 = .ok (.goto 5, 3) := by decide +kernel
theorem dX5_status_252 : decode cX5_status 252 = .ok (.bipush (-9), 2) := by decide +kernel
theorem dX5_status_254 : decode cX5_status 254 = .ok (.ireturn, 1) := by decide +kernel
end
section
theorem dL_law_0 : decode cL_law 0 = .ok (.new 7, 3) := by decide +kernel
theorem dL_law_3 : decode cL_law 3 = .ok (.dup, 1) := by decide +kernel
theorem dL_law_4 : decode cL_law 4 = .ok (.invokespecial 9, 3) := by decide +kernel
theorem dL_law_7 : decode cL_law 7 = .ok (.astore_n 1, 1) := by decide +kernel
theorem dL_law_8 : decode cL_law 8 = .ok (.new 10, 3) := by decide +kernel
theorem dL_law_11 : decode cL_law 11 = .ok (.dup, 1) := by decide +kernel
theorem dL_law_12 : decode cL_law 12 = .ok (.invokespecial 12, 3) := by decide +kernel
theorem dL_law_15 : decode cL_law 15 = .ok (.astore_n 2, 1) := by decide +kernel
theorem dL_law_16 : decode cL_law 16 = .ok (.iconst 0, 1) := by decide +kernel
theorem dL_law_17 : decode cL_law 17 = .ok (.istore_n 3, 1) := by decide +kernel
theorem dL_law_18 : decode cL_law 18 = .ok (.iload_n 3, 1) := by decide +kernel
theorem dL_law_19 : decode cL_law 19 = .ok (.aload_n 0, 1) := by decide +kernel
theorem dL_law_20 : decode cL_law 20 = .ok (.arraylength, 1) := by decide +kernel
theorem dL_law_21 : decode cL_law 21 = .ok (.iconst 5, 1) := by decide +kernel
theorem dL_law_22 : decode cL_law 22 = .ok (.isub, 1) := by decide +kernel
theorem dL_law_23 : decode cL_law 23 = .ok (.if_icmp .gt 737, 3) := by decide +kernel
theorem dL_law_26 : decode cL_law 26 = .ok (.aload_n 0, 1) := by decide +kernel
theorem dL_law_27 : decode cL_law 27 = .ok (.iload_n 3, 1) := by decide +kernel
theorem dL_law_28 : decode cL_law 28 = .ok (.iaload, 1) := by decide +kernel
theorem dL_law_29 : decode cL_law 29 = .ok (.bipush 31, 2) := by decide +kernel
theorem dL_law_31 : decode cL_law 31 = .ok (.iand, 1) := by decide +kernel
theorem dL_law_32 : decode cL_law 32 = .ok (.tableswitch 722 0 21 #[104, 137, 190, 233, 276, 310, 333, 346, 359, 392, 415, 428, 451, 474, 497, 550, 563, 597, 610, 623, 666, 699], 104) := by decide +kernel
theorem dL_law_136 : decode cL_law 136 = .ok (.aload_n 1, 1) := by decide +kernel
theorem dL_law_137 : decode cL_law 137 = .ok (.aload_n 0, 1) := by decide +kernel
theorem dL_law_138 : decode cL_law 138 = .ok (.iload_n 3, 1) := by decide +kernel
theorem dL_law_139 : decode cL_law 139 = .ok (.iconst 1, 1) := by decide +kernel
theorem dL_law_140 : decode cL_law 140 = .ok (.iadd, 1) := by decide +kernel
theorem dL_law_141 : decode cL_law 141 = .ok (.iaload, 1) := by decide +kernel
theorem dL_law_142 : decode cL_law 142 = .ok (.aload_n 0, 1) := by decide +kernel
theorem dL_law_143 : decode cL_law 143 = .ok (.iload_n 3, 1) := by decide +kernel
theorem dL_law_144 : decode cL_law 144 = .ok (.iconst 2, 1) := by decide +kernel
theorem dL_law_145 : decode cL_law 145 = .ok (.iadd, 1) := by decide +kernel
theorem dL_law_146 : decode cL_law 146 = .ok (.iaload, 1) := by decide +kernel
theorem dL_law_147 : decode cL_law 147 = .ok (.invokevirtual 13, 3) := by decide +kernel
theorem dL_law_150 : decode cL_law 150 = .ok (.aload_n 2, 1) := by decide +kernel
theorem dL_law_151 : decode cL_law 151 = .ok (.aload_n 0, 1) := by decide +kernel
theorem dL_law_152 : decode cL_law 152 = .ok (.iload_n 3, 1) := by decide +kernel
theorem dL_law_153 : decode cL_law 153 = .ok (.iconst 1, 1) := by decide +kernel
theorem dL_law_154 : decode cL_law 154 = .ok (.iadd, 1) := by decide +kernel
theorem dL_law_155 : decode cL_law 155 = .ok (.iaload, 1) := by decide +kernel
theorem dL_law_156 : decode cL_law 156 = .ok (.aload_n 0, 1) := by decide +kernel
theorem dL_law_157 : decode cL_law 157 = .ok (.iload_n 3, 1) := by decide +kernel
theorem dL_law_158 : decode cL_law 158 = .ok (.iconst 2, 1) := by decide +kernel
theorem dL_law_159 : decode cL_law 159 = .ok (.iadd, 1) := by decide +kernel
theorem dL_law_160 : decode cL_law 160 = .ok (.iaload, 1) := by decide +kernel
theorem dL_law_161 : decode cL_law 161 = .ok (.invokevirtual 17, 3) := by decide +kernel
theorem dL_law_164 : decode cL_law 164 = .ok (.if_icmp .eq 590, 3) := by decide +kernel
theorem dL_law_167 : decode cL_law 167 = .ok (.iconst 0, 1) := by decide +kernel
theorem dL_law_168 : decode cL_law 168 = .ok (.ireturn, 1) := by decide +kernel
theorem dL_law_169 : decode cL_law 169 = .ok (.aload_n 1, 1) := by decide +kernel
theorem dL_law_170 : decode cL_law 170 = .ok (.aload_n 0, 1) := by decide +kernel
theorem dL_law_171 : decode cL_law 171 = .ok (.iload_n 3, 1) := by decide +kernel
theorem dL_law_172 : decode cL_law 172 = .ok (.iconst 1, 1) := by decide +kernel
theorem dL_law_173 : decode cL_law 173 = .ok (.iadd, 1) := by decide +kernel
theorem dL_law_174 : decode cL_law 174 = .ok (.iaload, 1) := by decide +kernel
theorem dL_law_175 : decode cL_law 175 = .ok (.aload_n 0, 1) := by decide +kernel
theorem dL_law_176 : decode cL_law 176 = .ok (.iload_n 3, 1) := by decide +kernel
theorem dL_law_177 : decode cL_law 177 = .ok (.iconst 2, 1) := by decide +kernel
theorem dL_law_178 : decode cL_law 178 = .ok (.iadd, 1) := by decide +kernel
theorem dL_law_179 : decode cL_law 179 = .ok (.iaload, 1) := by decide +kernel
theorem dL_law_180 : decode cL_law 180 = .ok (.aload_n 0, 1) := by decide +kernel
theorem dL_law_181 : decode cL_law 181 = .ok (.iload_n 3, 1) := by decide +kernel
theorem dL_law_182 : decode cL_law 182 = .ok (.iconst 3, 1) := by decide +kernel
theorem dL_law_183 : decode cL_law 183 = .ok (.iadd, 1) := by decide +kernel
theorem dL_law_184 : decode cL_law 184 = .ok (.iaload, 1) := by decide +kernel
theorem dL_law_185 : decode cL_law 185 = .ok (.aload_n 0, 1) := by decide +kernel
theorem dL_law_186 : decode cL_law 186 = .ok (.iload_n 3, 1) := by decide +kernel
theorem dL_law_187 : decode cL_law 187 = .ok (.iconst 4, 1) := by decide +kernel
theorem dL_law_188 : decode cL_law 188 = .ok (.iadd, 1) := by decide +kernel
theorem dL_law_189 : decode cL_law 189 = .ok (.iaload, 1) := by decide +kernel
theorem dL_law_190 : decode cL_law 190 = .ok (.invokevirtual 18, 3) := by decide +kernel
theorem dL_law_193 : decode cL_law 193 = .ok (.aload_n 2, 1) := by decide +kernel
theorem dL_law_194 : decode cL_law 194 = .ok (.aload_n 0, 1) := by decide +kernel
theorem dL_law_195 : decode cL_law 195 = .ok (.iload_n 3, 1) := by decide +kernel
theorem dL_law_196 : decode cL_law 196 = .ok (.iconst 1, 1) := by decide +kernel
theorem dL_law_197 : decode cL_law 197 = .ok (.iadd, 1) := by decide +kernel
theorem dL_law_198 : decode cL_law 198 = .ok (.iaload, 1) := by decide +kernel
theorem dL_law_199 : decode cL_law 199 = .ok (.aload_n 0, 1) := by decide +kernel
theorem dL_law_200 : decode cL_law 200 = .ok (.iload_n 3, 1) := by decide +kernel
theorem dL_law_201 : decode cL_law 201 = .ok (.iconst 2, 1) := by decide +kernel
theorem dL_law_202 : decode cL_law 202 = .ok (.iadd, 1) := by decide +kernel
theorem dL_law_203 : decode cL_law 203 = .ok (.iaload, 1) := by decide +kernel
theorem dL_law_204 : decode cL_law 204 = .ok (.aload_n 0, 1) := by decide +kernel
theorem dL_law_205 : decode cL_law 205 = .ok (.iload_n 3, 1) := by decide +kernel
theorem dL_law_206 : decode cL_law 206 = .ok (.iconst 3, 1) := by decide +kernel
theorem dL_law_207 : decode cL_law 207 = .ok (.iadd, 1) := by decide +kernel
theorem dL_law_208 : decode cL_law 208 = .ok (.iaload, 1) := by decide +kernel
theorem dL_law_209 : decode cL_law 209 = .ok (.aload_n 0, 1) := by decide +kernel
theorem dL_law_210 : decode cL_law 210 = .ok (.iload_n 3, 1) := by decide +kernel
theorem dL_law_211 : decode cL_law 211 = .ok (.iconst 4, 1) := by decide +kernel
theorem dL_law_212 : decode cL_law 212 = .ok (.iadd, 1) := by decide +kernel
theorem dL_law_213 : decode cL_law 213 = .ok (.iaload, 1) := by decide +kernel
theorem dL_law_214 : decode cL_law 214 = .ok (.invokevirtual 22, 3) := by decide +kernel
theorem dL_law_217 : decode cL_law 217 = .ok (.if_icmp .eq 537, 3) := by decide +kernel
theorem dL_law_220 : decode cL_law 220 = .ok (.iconst 0, 1) := by decide +kernel
theorem dL_law_221 : decode cL_law 221 = .ok (.ireturn, 1) := by decide +kernel
theorem dL_law_222 : decode cL_law 222 = .ok (.aload_n 1, 1) := by decide +kernel
theorem dL_law_223 : decode cL_law 223 = .ok (.aload_n 0, 1) := by decide +kernel
theorem dL_law_224 : decode cL_law 224 = .ok (.iload_n 3, 1) := by decide +kernel
theorem dL_law_225 : decode cL_law 225 = .ok (.iconst 1, 1) := by decide +kernel
theorem dL_law_226 : decode cL_law 226 = .ok (.iadd, 1) := by decide +kernel
theorem dL_law_227 : decode cL_law 227 = .ok (.iaload, 1) := by decide +kernel
theorem dL_law_228 : decode cL_law 228 = .ok (.aload_n 0, 1) := by decide +kernel
theorem dL_law_229 : decode cL_law 229 = .ok (.iload_n 3, 1) := by decide +kernel
theorem dL_law_230 : decode cL_law 230 = .ok (.iconst 2, 1) := by decide +kernel
theorem dL_law_231 : decode cL_law 231 = .ok (.iadd, 1) := by decide +kernel
theorem dL_law_232 : decode cL_law 232 = .ok (.iaload, 1) := by decide +kernel
theorem dL_law_233 : decode cL_law 233 = .ok (.aload_n 0, 1) := by decide +kernel
theorem dL_law_234 : decode cL_law 234 = .ok (.iload_n 3, 1) := by decide +kernel
theorem dL_law_235 : decode cL_law 235 = .ok (.iconst 3, 1) := by decide +kernel
theorem dL_law_236 : decode cL_law 236 = .ok (.iadd, 1) := by decide +kernel
theorem dL_law_237 : decode cL_law 237 = .ok (.iaload, 1) := by decide +kernel
theorem dL_law_238 : decode cL_law 238 = .ok (.invokevirtual 23, 3) := by decide +kernel
theorem dL_law_241 : decode cL_law 241 = .ok (.aload_n 2, 1) := by decide +kernel
theorem dL_law_242 : decode cL_law 242 = .ok (.aload_n 0, 1) := by decide +kernel
theorem dL_law_243 : decode cL_law 243 = .ok (.iload_n 3, 1) := by decide +kernel
theorem dL_law_244 : decode cL_law 244 = .ok (.iconst 1, 1) := by decide +kernel
theorem dL_law_245 : decode cL_law 245 = .ok (.iadd, 1) := by decide +kernel
theorem dL_law_246 : decode cL_law 246 = .ok (.iaload, 1) := by decide +kernel
theorem dL_law_247 : decode cL_law 247 = .ok (.aload_n 0, 1) := by decide +kernel
theorem dL_law_248 : decode cL_law 248 = .ok (.iload_n 3, 1) := by decide +kernel
theorem dL_law_249 : decode cL_law 249 = .ok (.iconst 2, 1) := by decide +kernel
theorem dL_law_250 : decode cL_law 250 = .ok (.iadd, 1) := by decide +kernel
theorem dL_law_251 : decode cL_law 251 = .ok (.iaload, 1) := by decide +kernel
theorem dL_law_252 : decode cL_law 252 = .ok (.aload_n 0, 1) := by decide +kernel
theorem dL_law_253 : decode cL_law 253 = .ok (.iload_n 3, 1) := by decide +kernel
theorem dL_law_254 : decode cL_law 254 = .ok (.iconst 3, 1) := by decide +kernel
theorem dL_law_255 : decode cL_law 255 = .ok (.iadd, 1) := by decide +kernel
theorem dL_law_256 : decode cL_law 256 = .ok (.iaload, 1) := by decide +kernel
theorem dL_law_257 : decode cL_law 257 = .ok (.invokevirtual 27, 3) := by decide +kernel
theorem dL_law_260 : decode cL_law 260 = .ok (.if_icmp .eq 494, 3) := by decide +kernel
theorem dL_law_263 : decode cL_law 263 = .ok (.iconst 0, 1) := by decide +kernel
theorem dL_law_264 : decode cL_law 264 = .ok (.ireturn, 1) := by decide +kernel
theorem dL_law_265 : decode cL_law 265 = .ok (.aload_n 1, 1) := by decide +kernel
theorem dL_law_266 : decode cL_law 266 = .ok (.aload_n 0, 1) := by decide +kernel
theorem dL_law_267 : decode cL_law 267 = .ok (.iload_n 3, 1) := by decide +kernel
theorem dL_law_268 : decode cL_law 268 = .ok (.iconst 1, 1) := by decide +kernel
theorem dL_law_269 : decode cL_law 269 = .ok (.iadd, 1) := by decide +kernel
theorem dL_law_270 : decode cL_law 270 = .ok (.iaload, 1) := by decide +kernel
theorem dL_law_271 : decode cL_law 271 = .ok (.aload_n 0, 1) := by decide +kernel
theorem dL_law_272 : decode cL_law 272 = .ok (.iload_n 3, 1) := by decide +kernel
theorem dL_law_273 : decode cL_law 273 = .ok (.iconst 2, 1) := by decide +kernel
theorem dL_law_274 : decode cL_law 274 = .ok (.iadd, 1) := by decide +kernel
theorem dL_law_275 : decode cL_law 275 = .ok (.iaload, 1) := by decide +kernel
theorem dL_law_276 : decode cL_law 276 = .ok (.aload_n 0, 1) := by decide +kernel
theorem dL_law_277 : decode cL_law 277 = .ok (.iload_n 3, 1) := by decide +kernel
theorem dL_law_278 : decode cL_law 278 = .ok (.iconst 3, 1) := by decide +kernel
theorem dL_law_279 : decode cL_law 279 = .ok (.iadd, 1) := by decide +kernel
theorem dL_law_280 : decode cL_law 280 = .ok (.iaload, 1) := by decide +kernel
theorem dL_law_281 : decode cL_law 281 = .ok (.invokevirtual 28, 3) := by decide +kernel
theorem dL_law_284 : decode cL_law 284 = .ok (.aload_n 2, 1) := by decide +kernel
theorem dL_law_285 : decode cL_law 285 = .ok (.aload_n 0, 1) := by decide +kernel
theorem dL_law_286 : decode cL_law 286 = .ok (.iload_n 3, 1) := by decide +kernel
theorem dL_law_287 : decode cL_law 287 = .ok (.iconst 1, 1) := by decide +kernel
theorem dL_law_288 : decode cL_law 288 = .ok (.iadd, 1) := by decide +kernel
theorem dL_law_289 : decode cL_law 289 = .ok (.iaload, 1) := by decide +kernel
theorem dL_law_290 : decode cL_law 290 = .ok (.aload_n 0, 1) := by decide +kernel
theorem dL_law_291 : decode cL_law 291 = .ok (.iload_n 3, 1) := by decide +kernel
theorem dL_law_292 : decode cL_law 292 = .ok (.iconst 2, 1) := by decide +kernel
theorem dL_law_293 : decode cL_law 293 = .ok (.iadd, 1) := by decide +kernel
theorem dL_law_294 : decode cL_law 294 = .ok (.iaload, 1) := by decide +kernel
theorem dL_law_295 : decode cL_law 295 = .ok (.aload_n 0, 1) := by decide +kernel
theorem dL_law_296 : decode cL_law 296 = .ok (.iload_n 3, 1) := by decide +kernel
theorem dL_law_297 : decode cL_law 297 = .ok (.iconst 3, 1) := by decide +kernel
theorem dL_law_298 : decode cL_law 298 = .ok (.iadd, 1) := by decide +kernel
theorem dL_law_299 : decode cL_law 299 = .ok (.iaload, 1) := by decide +kernel
theorem dL_law_300 : decode cL_law 300 = .ok (.invokevirtual 31, 3) := by decide +kernel
theorem dL_law_303 : decode cL_law 303 = .ok (.if_icmp .eq 451, 3) := by decide +kernel
theorem dL_law_306 : decode cL_law 306 = .ok (.iconst 0, 1) := by decide +kernel
theorem dL_law_307 : decode cL_law 307 = .ok (.ireturn, 1) := by decide +kernel
theorem dL_law_308 : decode cL_law 308 = .ok (.aload_n 1, 1) := by decide +kernel
theorem dL_law_309 : decode cL_law 309 = .ok (.aload_n 0, 1) := by decide +kernel
theorem dL_law_310 : decode cL_law 310 = .ok (.iload_n 3, 1) := by decide +kernel
theorem dL_law_311 : decode cL_law 311 = .ok (.iconst 1, 1) := by decide +kernel
theorem dL_law_312 : decode cL_law 312 = .ok (.iadd, 1) := by decide +kernel
theorem dL_law_313 : decode cL_law 313 = .ok (.iaload, 1) := by decide +kernel
theorem dL_law_314 : decode cL_law 314 = .ok (.aload_n 0, 1) := by decide +kernel
theorem dL_law_315 : decode cL_law 315 = .ok (.iload_n 3, 1) := by decide +kernel
theorem dL_law_316 : decode cL_law 316 = .ok (.iconst 2, 1) := by decide +kernel
theorem dL_law_317 : decode cL_law 317 = .ok (.iadd, 1) := by decide +kernel
theorem dL_law_318 : decode cL_law 318 = .ok (.iaload, 1) := by decide +kernel
theorem dL_law_319 : decode cL_law 319 = .ok (.invokevirtual 32, 3) := by decide +kernel
theorem dL_law_322 : decode cL_law 322 = .ok (.aload_n 2, 1) := by decide +kernel
theorem dL_law_323 : decode cL_law 323 = .ok (.aload_n 0, 1) := by decide +kernel
theorem dL_law_324 : decode cL_law 324 = .ok (.iload_n 3, 1) := by decide +kernel
theorem dL_law_325 : decode cL_law 325 = .ok (.iconst 1, 1) := by decide +kernel
theorem dL_law_326 : decode cL_law 326 = .ok (.iadd, 1) := by decide +kernel
theorem dL_law_327 : decode cL_law 327 = .ok (.iaload, 1) := by decide +kernel
theorem dL_law_328 : decode cL_law 328 = .ok (.aload_n 0, 1) := by decide +kernel
theorem dL_law_329 : decode cL_law 329 = .ok (.iload_n 3, 1) := by decide +kernel
theorem dL_law_330 : decode cL_law 330 = .ok (.iconst 2, 1) := by decide +kernel
theorem dL_law_331 : decode cL_law 331 = .ok (.iadd, 1) := by decide +kernel
theorem dL_law_332 : decode cL_law 332 = .ok (.iaload, 1) := by decide +kernel
theorem dL_law_333 : decode cL_law 333 = .ok (.invokevirtual 36, 3) := by decide +kernel
theorem dL_law_336 : decode cL_law 336 = .ok (.lcmp, 1) := by decide +kernel
theorem dL_law_337 : decode cL_law 337 = .ok (.ifCond .eq 417, 3) := by decide +kernel
theorem dL_law_340 : decode cL_law 340 = .ok (.iconst 0, 1) := by decide +kernel
theorem dL_law_341 : decode cL_law 341 = .ok (.ireturn, 1) := by decide +kernel
theorem dL_law_342 : decode cL_law 342 = .ok (.aload_n 1, 1) := by decide +kernel
theorem dL_law_343 : decode cL_law 343 = .ok (.aload_n 0, 1) := by decide +kernel
theorem dL_law_344 : decode cL_law 344 = .ok (.iload_n 3, 1) := by decide +kernel
theorem dL_law_345 : decode cL_law 345 = .ok (.iconst 1, 1) := by decide +kernel
theorem dL_law_346 : decode cL_law 346 = .ok (.iadd, 1) := by decide +kernel
theorem dL_law_347 : decode cL_law 347 = .ok (.iaload, 1) := by decide +kernel
theorem dL_law_348 : decode cL_law 348 = .ok (.invokevirtual 37, 3) := by decide +kernel
theorem dL_law_351 : decode cL_law 351 = .ok (.aload_n 2, 1) := by decide +kernel
theorem dL_law_352 : decode cL_law 352 = .ok (.aload_n 0, 1) := by decide +kernel
theorem dL_law_353 : decode cL_law 353 = .ok (.iload_n 3, 1) := by decide +kernel
theorem dL_law_354 : decode cL_law 354 = .ok (.iconst 1, 1) := by decide +kernel
theorem dL_law_355 : decode cL_law 355 = .ok (.iadd, 1) := by decide +kernel
theorem dL_law_356 : decode cL_law 356 = .ok (.iaload, 1) := by decide +kernel
theorem dL_law_357 : decode cL_law 357 = .ok (.invokevirtual 41, 3) := by decide +kernel
theorem dL_law_360 : decode cL_law 360 = .ok (.if_icmp .eq 394, 3) := by decide +kernel
theorem dL_law_363 : decode cL_law 363 = .ok (.iconst 0, 1) := by decide +kernel
theorem dL_law_364 : decode cL_law 364 = .ok (.ireturn, 1) := by decide +kernel
theorem dL_law_365 : decode cL_law 365 = .ok (.aload_n 1, 1) := by decide +kernel
theorem dL_law_366 : decode cL_law 366 = .ok (.invokevirtual 42, 3) := by decide +kernel
theorem dL_law_369 : decode cL_law 369 = .ok (.aload_n 2, 1) := by decide +kernel
theorem dL_law_370 : decode cL_law 370 = .ok (.invokevirtual 46, 3) := by decide +kernel
theorem dL_law_373 : decode cL_law 373 = .ok (.if_icmp .eq 381, 3) := by decide +kernel
theorem dL_law_376 : decode cL_law 376 = .ok (.iconst 0, 1) := by decide +kernel
theorem dL_law_377 : decode cL_law 377 = .ok (.ireturn, 1) := by decide +kernel
theorem dL_law_378 : decode cL_law 378 = .ok (.aload_n 1, 1) := by decide +kernel
theorem dL_law_379 : decode cL_law 379 = .ok (.invokevirtual 47, 3) := by decide +kernel
theorem dL_law_382 : decode cL_law 382 = .ok (.aload_n 2, 1) := by decide +kernel
theorem dL_law_383 : decode cL_law 383 = .ok (.invokevirtual 50, 3) := by decide +kernel
theorem dL_law_386 : decode cL_law 386 = .ok (.if_icmp .eq 368, 3) := by decide +kernel
theorem dL_law_389 : decode cL_law 389 = .ok (.iconst 0, 1) := by decide +kernel
theorem dL_law_390 : decode cL_law 390 = .ok (.ireturn, 1) := by decide +kernel
theorem dL_law_391 : decode cL_law 391 = .ok (.aload_n 1, 1) := by decide +kernel
theorem dL_law_392 : decode cL_law 392 = .ok (.aload_n 0, 1) := by decide +kernel
theorem dL_law_393 : decode cL_law 393 = .ok (.iload_n 3, 1) := by decide +kernel
theorem dL_law_394 : decode cL_law 394 = .ok (.iconst 1, 1) := by decide +kernel
theorem dL_law_395 : decode cL_law 395 = .ok (.iadd, 1) := by decide +kernel
theorem dL_law_396 : decode cL_law 396 = .ok (.iaload, 1) := by decide +kernel
theorem dL_law_397 : decode cL_law 397 = .ok (.aload_n 0, 1) := by decide +kernel
theorem dL_law_398 : decode cL_law 398 = .ok (.iload_n 3, 1) := by decide +kernel
theorem dL_law_399 : decode cL_law 399 = .ok (.iconst 2, 1) := by decide +kernel
theorem dL_law_400 : decode cL_law 400 = .ok (.iadd, 1) := by decide +kernel
theorem dL_law_401 : decode cL_law 401 = .ok (.iaload, 1) := by decide +kernel
theorem dL_law_402 : decode cL_law 402 = .ok (.invokevirtual 51, 3) := by decide +kernel
theorem dL_law_405 : decode cL_law 405 = .ok (.aload_n 2, 1) := by decide +kernel
theorem dL_law_406 : decode cL_law 406 = .ok (.aload_n 0, 1) := by decide +kernel
theorem dL_law_407 : decode cL_law 407 = .ok (.iload_n 3, 1) := by decide +kernel
theorem dL_law_408 : decode cL_law 408 = .ok (.iconst 1, 1) := by decide +kernel
theorem dL_law_409 : decode cL_law 409 = .ok (.iadd, 1) := by decide +kernel
theorem dL_law_410 : decode cL_law 410 = .ok (.iaload, 1) := by decide +kernel
theorem dL_law_411 : decode cL_law 411 = .ok (.aload_n 0, 1) := by decide +kernel
theorem dL_law_412 : decode cL_law 412 = .ok (.iload_n 3, 1) := by decide +kernel
theorem dL_law_413 : decode cL_law 413 = .ok (.iconst 2, 1) := by decide +kernel
theorem dL_law_414 : decode cL_law 414 = .ok (.iadd, 1) := by decide +kernel
theorem dL_law_415 : decode cL_law 415 = .ok (.iaload, 1) := by decide +kernel
theorem dL_law_416 : decode cL_law 416 = .ok (.invokevirtual 54, 3) := by decide +kernel
theorem dL_law_419 : decode cL_law 419 = .ok (.if_icmp .eq 335, 3) := by decide +kernel
theorem dL_law_422 : decode cL_law 422 = .ok (.iconst 0, 1) := by decide +kernel
theorem dL_law_423 : decode cL_law 423 = .ok (.ireturn, 1) := by decide +kernel
theorem dL_law_424 : decode cL_law 424 = .ok (.aload_n 1, 1) := by decide +kernel
theorem dL_law_425 : decode cL_law 425 = .ok (.aload_n 0, 1) := by decide +kernel
theorem dL_law_426 : decode cL_law 426 = .ok (.iload_n 3, 1) := by decide +kernel
theorem dL_law_427 : decode cL_law 427 = .ok (.iconst 1, 1) := by decide +kernel
theorem dL_law_428 : decode cL_law 428 = .ok (.iadd, 1) := by decide +kernel
theorem dL_law_429 : decode cL_law 429 = .ok (.iaload, 1) := by decide +kernel
theorem dL_law_430 : decode cL_law 430 = .ok (.invokevirtual 55, 3) := by decide +kernel
theorem dL_law_433 : decode cL_law 433 = .ok (.aload_n 2, 1) := by decide +kernel
theorem dL_law_434 : decode cL_law 434 = .ok (.aload_n 0, 1) := by decide +kernel
theorem dL_law_435 : decode cL_law 435 = .ok (.iload_n 3, 1) := by decide +kernel
theorem dL_law_436 : decode cL_law 436 = .ok (.iconst 1, 1) := by decide +kernel
theorem dL_law_437 : decode cL_law 437 = .ok (.iadd, 1) := by decide +kernel
theorem dL_law_438 : decode cL_law 438 = .ok (.iaload, 1) := by decide +kernel
theorem dL_law_439 : decode cL_law 439 = .ok (.invokevirtual 58, 3) := by decide +kernel
theorem dL_law_442 : decode cL_law 442 = .ok (.if_icmp .eq 312, 3) := by decide +kernel
theorem dL_law_445 : decode cL_law 445 = .ok (.iconst 0, 1) := by decide +kernel
theorem dL_law_446 : decode cL_law 446 = .ok (.ireturn, 1) := by decide +kernel
theorem dL_law_447 : decode cL_law 447 = .ok (.aload_n 1, 1) := by decide +kernel
theorem dL_law_448 : decode cL_law 448 = .ok (.invokevirtual 59, 3) := by decide +kernel
theorem dL_law_451 : decode cL_law 451 = .ok (.aload_n 2, 1) := by decide +kernel
theorem dL_law_452 : decode cL_law 452 = .ok (.invokevirtual 62, 3) := by decide +kernel
theorem dL_law_455 : decode cL_law 455 = .ok (.if_icmp .eq 299, 3) := by decide +kernel
theorem dL_law_458 : decode cL_law 458 = .ok (.iconst 0, 1) := by decide +kernel
theorem dL_law_459 : decode cL_law 459 = .ok (.ireturn, 1) := by decide +kernel
theorem dL_law_460 : decode cL_law 460 = .ok (.aload_n 1, 1) := by decide +kernel
theorem dL_law_461 : decode cL_law 461 = .ok (.aload_n 0, 1) := by decide +kernel
theorem dL_law_462 : decode cL_law 462 = .ok (.iload_n 3, 1) := by decide +kernel
theorem dL_law_463 : decode cL_law 463 = .ok (.iconst 1, 1) := by decide +kernel
theorem dL_law_464 : decode cL_law 464 = .ok (.iadd, 1) := by decide +kernel
theorem dL_law_465 : decode cL_law 465 = .ok (.iaload, 1) := by decide +kernel
theorem dL_law_466 : decode cL_law 466 = .ok (.invokevirtual 63, 3) := by decide +kernel
theorem dL_law_469 : decode cL_law 469 = .ok (.aload_n 2, 1) := by decide +kernel
theorem dL_law_470 : decode cL_law 470 = .ok (.aload_n 0, 1) := by decide +kernel
theorem dL_law_471 : decode cL_law 471 = .ok (.iload_n 3, 1) := by decide +kernel
theorem dL_law_472 : decode cL_law 472 = .ok (.iconst 1, 1) := by decide +kernel
theorem dL_law_473 : decode cL_law 473 = .ok (.iadd, 1) := by decide +kernel
theorem dL_law_474 : decode cL_law 474 = .ok (.iaload, 1) := by decide +kernel
theorem dL_law_475 : decode cL_law 475 = .ok (.invokevirtual 66, 3) := by decide +kernel
theorem dL_law_478 : decode cL_law 478 = .ok (.if_icmp .eq 276, 3) := by decide +kernel
theorem dL_law_481 : decode cL_law 481 = .ok (.iconst 0, 1) := by decide +kernel
theorem dL_law_482 : decode cL_law 482 = .ok (.ireturn, 1) := by decide +kernel
theorem dL_law_483 : decode cL_law 483 = .ok (.aload_n 1, 1) := by decide +kernel
theorem dL_law_484 : decode cL_law 484 = .ok (.aload_n 0, 1) := by decide +kernel
theorem dL_law_485 : decode cL_law 485 = .ok (.iload_n 3, 1) := by decide +kernel
theorem dL_law_486 : decode cL_law 486 = .ok (.iconst 1, 1) := by decide +kernel
theorem dL_law_487 : decode cL_law 487 = .ok (.iadd, 1) := by decide +kernel
theorem dL_law_488 : decode cL_law 488 = .ok (.iaload, 1) := by decide +kernel
theorem dL_law_489 : decode cL_law 489 = .ok (.invokevirtual 67, 3) := by decide +kernel
theorem dL_law_492 : decode cL_law 492 = .ok (.aload_n 2, 1) := by decide +kernel
theorem dL_law_493 : decode cL_law 493 = .ok (.aload_n 0, 1) := by decide +kernel
theorem dL_law_494 : decode cL_law 494 = .ok (.iload_n 3, 1) := by decide +kernel
theorem dL_law_495 : decode cL_law 495 = .ok (.iconst 1, 1) := by decide +kernel
theorem dL_law_496 : decode cL_law 496 = .ok (.iadd, 1) := by decide +kernel
theorem dL_law_497 : decode cL_law 497 = .ok (.iaload, 1) := by decide +kernel
theorem dL_law_498 : decode cL_law 498 = .ok (.invokevirtual 70, 3) := by decide +kernel
theorem dL_law_501 : decode cL_law 501 = .ok (.if_icmp .eq 253, 3) := by decide +kernel
theorem dL_law_504 : decode cL_law 504 = .ok (.iconst 0, 1) := by decide +kernel
theorem dL_law_505 : decode cL_law 505 = .ok (.ireturn, 1) := by decide +kernel
theorem dL_law_506 : decode cL_law 506 = .ok (.aload_n 1, 1) := by decide +kernel
theorem dL_law_507 : decode cL_law 507 = .ok (.aload_n 0, 1) := by decide +kernel
theorem dL_law_508 : decode cL_law 508 = .ok (.iload_n 3, 1) := by decide +kernel
theorem dL_law_509 : decode cL_law 509 = .ok (.iconst 1, 1) := by decide +kernel
theorem dL_law_510 : decode cL_law 510 = .ok (.iadd, 1) := by decide +kernel
theorem dL_law_511 : decode cL_law 511 = .ok (.iaload, 1) := by decide +kernel
theorem dL_law_512 : decode cL_law 512 = .ok (.invokevirtual 71, 3) := by decide +kernel
theorem dL_law_515 : decode cL_law 515 = .ok (.aload_n 2, 1) := by decide +kernel
theorem dL_law_516 : decode cL_law 516 = .ok (.aload_n 0, 1) := by decide +kernel
theorem dL_law_517 : decode cL_law 517 = .ok (.iload_n 3, 1) := by decide +kernel
theorem dL_law_518 : decode cL_law 518 = .ok (.iconst 1, 1) := by decide +kernel
theorem dL_law_519 : decode cL_law 519 = .ok (.iadd, 1) := by decide +kernel
theorem dL_law_520 : decode cL_law 520 = .ok (.iaload, 1) := by decide +kernel
theorem dL_law_521 : decode cL_law 521 = .ok (.invokevirtual 74, 3) := by decide +kernel
theorem dL_law_524 : decode cL_law 524 = .ok (.if_icmp .eq 230, 3) := by decide +kernel
theorem dL_law_527 : decode cL_law 527 = .ok (.iconst 0, 1) := by decide +kernel
theorem dL_law_528 : decode cL_law 528 = .ok (.ireturn, 1) := by decide +kernel
theorem dL_law_529 : decode cL_law 529 = .ok (.aload_n 1, 1) := by decide +kernel
theorem dL_law_530 : decode cL_law 530 = .ok (.aload_n 0, 1) := by decide +kernel
theorem dL_law_531 : decode cL_law 531 = .ok (.iload_n 3, 1) := by decide +kernel
theorem dL_law_532 : decode cL_law 532 = .ok (.iconst 1, 1) := by decide +kernel
theorem dL_law_533 : decode cL_law 533 = .ok (.iadd, 1) := by decide +kernel
theorem dL_law_534 : decode cL_law 534 = .ok (.iaload, 1) := by decide +kernel
theorem dL_law_535 : decode cL_law 535 = .ok (.aload_n 0, 1) := by decide +kernel
theorem dL_law_536 : decode cL_law 536 = .ok (.iload_n 3, 1) := by decide +kernel
theorem dL_law_537 : decode cL_law 537 = .ok (.iconst 2, 1) := by decide +kernel
theorem dL_law_538 : decode cL_law 538 = .ok (.iadd, 1) := by decide +kernel
theorem dL_law_539 : decode cL_law 539 = .ok (.iaload, 1) := by decide +kernel
theorem dL_law_540 : decode cL_law 540 = .ok (.aload_n 0, 1) := by decide +kernel
theorem dL_law_541 : decode cL_law 541 = .ok (.iload_n 3, 1) := by decide +kernel
theorem dL_law_542 : decode cL_law 542 = .ok (.iconst 3, 1) := by decide +kernel
theorem dL_law_543 : decode cL_law 543 = .ok (.iadd, 1) := by decide +kernel
theorem dL_law_544 : decode cL_law 544 = .ok (.iaload, 1) := by decide +kernel
theorem dL_law_545 : decode cL_law 545 = .ok (.aload_n 0, 1) := by decide +kernel
theorem dL_law_546 : decode cL_law 546 = .ok (.iload_n 3, 1) := by decide +kernel
theorem dL_law_547 : decode cL_law 547 = .ok (.iconst 4, 1) := by decide +kernel
theorem dL_law_548 : decode cL_law 548 = .ok (.iadd, 1) := by decide +kernel
theorem dL_law_549 : decode cL_law 549 = .ok (.iaload, 1) := by decide +kernel
theorem dL_law_550 : decode cL_law 550 = .ok (.invokevirtual 75, 3) := by decide +kernel
theorem dL_law_553 : decode cL_law 553 = .ok (.aload_n 2, 1) := by decide +kernel
theorem dL_law_554 : decode cL_law 554 = .ok (.aload_n 0, 1) := by decide +kernel
theorem dL_law_555 : decode cL_law 555 = .ok (.iload_n 3, 1) := by decide +kernel
theorem dL_law_556 : decode cL_law 556 = .ok (.iconst 1, 1) := by decide +kernel
theorem dL_law_557 : decode cL_law 557 = .ok (.iadd, 1) := by decide +kernel
theorem dL_law_558 : decode cL_law 558 = .ok (.iaload, 1) := by decide +kernel
theorem dL_law_559 : decode cL_law 559 = .ok (.aload_n 0, 1) := by decide +kernel
theorem dL_law_560 : decode cL_law 560 = .ok (.iload_n 3, 1) := by decide +kernel
theorem dL_law_561 : decode cL_law 561 = .ok (.iconst 2, 1) := by decide +kernel
theorem dL_law_562 : decode cL_law 562 = .ok (.iadd, 1) := by decide +kernel
theorem dL_law_563 : decode cL_law 563 = .ok (.iaload, 1) := by decide +kernel
theorem dL_law_564 : decode cL_law 564 = .ok (.aload_n 0, 1) := by decide +kernel
theorem dL_law_565 : decode cL_law 565 = .ok (.iload_n 3, 1) := by decide +kernel
theorem dL_law_566 : decode cL_law 566 = .ok (.iconst 3, 1) := by decide +kernel
theorem dL_law_567 : decode cL_law 567 = .ok (.iadd, 1) := by decide +kernel
theorem dL_law_568 : decode cL_law 568 = .ok (.iaload, 1) := by decide +kernel
theorem dL_law_569 : decode cL_law 569 = .ok (.aload_n 0, 1) := by decide +kernel
theorem dL_law_570 : decode cL_law 570 = .ok (.iload_n 3, 1) := by decide +kernel
theorem dL_law_571 : decode cL_law 571 = .ok (.iconst 4, 1) := by decide +kernel
theorem dL_law_572 : decode cL_law 572 = .ok (.iadd, 1) := by decide +kernel
theorem dL_law_573 : decode cL_law 573 = .ok (.iaload, 1) := by decide +kernel
theorem dL_law_574 : decode cL_law 574 = .ok (.invokevirtual 78, 3) := by decide +kernel
theorem dL_law_577 : decode cL_law 577 = .ok (.if_icmp .eq 177, 3) := by decide +kernel
theorem dL_law_580 : decode cL_law 580 = .ok (.iconst 0, 1) := by decide +kernel
theorem dL_law_581 : decode cL_law 581 = .ok (.ireturn, 1) := by decide +kernel
theorem dL_law_582 : decode cL_law 582 = .ok (.aload_n 1, 1) := by decide +kernel
theorem dL_law_583 : decode cL_law 583 = .ok (.invokevirtual 79, 3) := by decide +kernel
theorem dL_law_586 : decode cL_law 586 = .ok (.aload_n 2, 1) := by decide +kernel
theorem dL_law_587 : decode cL_law 587 = .ok (.invokevirtual 82, 3) := by decide +kernel
theorem dL_law_590 : decode cL_law 590 = .ok (.if_icmp .eq 164, 3) := by decide +kernel
theorem dL_law_593 : decode cL_law 593 = .ok (.iconst 0, 1) := by decide +kernel
theorem dL_law_594 : decode cL_law 594 = .ok (.ireturn, 1) := by decide +kernel
theorem dL_law_595 : decode cL_law 595 = .ok (.aload_n 1, 1) := by decide +kernel
theorem dL_law_596 : decode cL_law 596 = .ok (.aload_n 0, 1) := by decide +kernel
theorem dL_law_597 : decode cL_law 597 = .ok (.iload_n 3, 1) := by decide +kernel
theorem dL_law_598 : decode cL_law 598 = .ok (.iconst 1, 1) := by decide +kernel
theorem dL_law_599 : decode cL_law 599 = .ok (.iadd, 1) := by decide +kernel
theorem dL_law_600 : decode cL_law 600 = .ok (.iaload, 1) := by decide +kernel
theorem dL_law_601 : decode cL_law 601 = .ok (.aload_n 0, 1) := by decide +kernel
theorem dL_law_602 : decode cL_law 602 = .ok (.iload_n 3, 1) := by decide +kernel
theorem dL_law_603 : decode cL_law 603 = .ok (.iconst 2, 1) := by decide +kernel
theorem dL_law_604 : decode cL_law 604 = .ok (.iadd, 1) := by decide +kernel
theorem dL_law_605 : decode cL_law 605 = .ok (.iaload, 1) := by decide +kernel
theorem dL_law_606 : decode cL_law 606 = .ok (.invokevirtual 83, 3) := by decide +kernel
theorem dL_law_609 : decode cL_law 609 = .ok (.aload_n 2, 1) := by decide +kernel
theorem dL_law_610 : decode cL_law 610 = .ok (.aload_n 0, 1) := by decide +kernel
theorem dL_law_611 : decode cL_law 611 = .ok (.iload_n 3, 1) := by decide +kernel
theorem dL_law_612 : decode cL_law 612 = .ok (.iconst 1, 1) := by decide +kernel
theorem dL_law_613 : decode cL_law 613 = .ok (.iadd, 1) := by decide +kernel
theorem dL_law_614 : decode cL_law 614 = .ok (.iaload, 1) := by decide +kernel
theorem dL_law_615 : decode cL_law 615 = .ok (.aload_n 0, 1) := by decide +kernel
theorem dL_law_616 : decode cL_law 616 = .ok (.iload_n 3, 1) := by decide +kernel
theorem dL_law_617 : decode cL_law 617 = .ok (.iconst 2, 1) := by decide +kernel
theorem dL_law_618 : decode cL_law 618 = .ok (.iadd, 1) := by decide +kernel
theorem dL_law_619 : decode cL_law 619 = .ok (.iaload, 1) := by decide +kernel
theorem dL_law_620 : decode cL_law 620 = .ok (.invokevirtual 86, 3) := by decide +kernel
theorem dL_law_623 : decode cL_law 623 = .ok (.lcmp, 1) := by decide +kernel
theorem dL_law_624 : decode cL_law 624 = .ok (.ifCond .eq 130, 3) := by decide +kernel
theorem dL_law_627 : decode cL_law 627 = .ok (.iconst 0, 1) := by decide +kernel
theorem dL_law_628 : decode cL_law 628 = .ok (.ireturn, 1) := by decide +kernel
theorem dL_law_629 : decode cL_law 629 = .ok (.aload_n 1, 1) := by decide +kernel
theorem dL_law_630 : decode cL_law 630 = .ok (.invokevirtual 87, 3) := by decide +kernel
theorem dL_law_633 : decode cL_law 633 = .ok (.aload_n 2, 1) := by decide +kernel
theorem dL_law_634 : decode cL_law 634 = .ok (.invokevirtual 90, 3) := by decide +kernel
theorem dL_law_637 : decode cL_law 637 = .ok (.if_icmp .eq 117, 3) := by decide +kernel
theorem dL_law_640 : decode cL_law 640 = .ok (.iconst 0, 1) := by decide +kernel
theorem dL_law_641 : decode cL_law 641 = .ok (.ireturn, 1) := by decide +kernel
theorem dL_law_642 : decode cL_law 642 = .ok (.aload_n 1, 1) := by decide +kernel
theorem dL_law_643 : decode cL_law 643 = .ok (.invokevirtual 91, 3) := by decide +kernel
theorem dL_law_646 : decode cL_law 646 = .ok (.aload_n 2, 1) := by decide +kernel
theorem dL_law_647 : decode cL_law 647 = .ok (.invokevirtual 94, 3) := by decide +kernel
theorem dL_law_650 : decode cL_law 650 = .ok (.if_icmp .eq 104, 3) := by decide +kernel
theorem dL_law_653 : decode cL_law 653 = .ok (.iconst 0, 1) := by decide +kernel
theorem dL_law_654 : decode cL_law 654 = .ok (.ireturn, 1) := by decide +kernel
theorem dL_law_655 : decode cL_law 655 = .ok (.aload_n 1, 1) := by decide +kernel
theorem dL_law_656 : decode cL_law 656 = .ok (.aload_n 0, 1) := by decide +kernel
theorem dL_law_657 : decode cL_law 657 = .ok (.iload_n 3, 1) := by decide +kernel
theorem dL_law_658 : decode cL_law 658 = .ok (.iconst 1, 1) := by decide +kernel
theorem dL_law_659 : decode cL_law 659 = .ok (.iadd, 1) := by decide +kernel
theorem dL_law_660 : decode cL_law 660 = .ok (.iaload, 1) := by decide +kernel
theorem dL_law_661 : decode cL_law 661 = .ok (.aload_n 0, 1) := by decide +kernel
theorem dL_law_662 : decode cL_law 662 = .ok (.iload_n 3, 1) := by decide +kernel
theorem dL_law_663 : decode cL_law 663 = .ok (.iconst 2, 1) := by decide +kernel
theorem dL_law_664 : decode cL_law 664 = .ok (.iadd, 1) := by decide +kernel
theorem dL_law_665 : decode cL_law 665 = .ok (.iaload, 1) := by decide +kernel
theorem dL_law_666 : decode cL_law 666 = .ok (.aload_n 0, 1) := by decide +kernel
theorem dL_law_667 : decode cL_law 667 = .ok (.iload_n 3, 1) := by decide +kernel
theorem dL_law_668 : decode cL_law 668 = .ok (.iconst 3, 1) := by decide +kernel
theorem dL_law_669 : decode cL_law 669 = .ok (.iadd, 1) := by decide +kernel
theorem dL_law_670 : decode cL_law 670 = .ok (.iaload, 1) := by decide +kernel
theorem dL_law_671 : decode cL_law 671 = .ok (.invokevirtual 95, 3) := by decide +kernel
theorem dL_law_674 : decode cL_law 674 = .ok (.aload_n 2, 1) := by decide +kernel
theorem dL_law_675 : decode cL_law 675 = .ok (.aload_n 0, 1) := by decide +kernel
theorem dL_law_676 : decode cL_law 676 = .ok (.iload_n 3, 1) := by decide +kernel
theorem dL_law_677 : decode cL_law 677 = .ok (.iconst 1, 1) := by decide +kernel
theorem dL_law_678 : decode cL_law 678 = .ok (.iadd, 1) := by decide +kernel
theorem dL_law_679 : decode cL_law 679 = .ok (.iaload, 1) := by decide +kernel
theorem dL_law_680 : decode cL_law 680 = .ok (.aload_n 0, 1) := by decide +kernel
theorem dL_law_681 : decode cL_law 681 = .ok (.iload_n 3, 1) := by decide +kernel
theorem dL_law_682 : decode cL_law 682 = .ok (.iconst 2, 1) := by decide +kernel
theorem dL_law_683 : decode cL_law 683 = .ok (.iadd, 1) := by decide +kernel
theorem dL_law_684 : decode cL_law 684 = .ok (.iaload, 1) := by decide +kernel
theorem dL_law_685 : decode cL_law 685 = .ok (.aload_n 0, 1) := by decide +kernel
theorem dL_law_686 : decode cL_law 686 = .ok (.iload_n 3, 1) := by decide +kernel
theorem dL_law_687 : decode cL_law 687 = .ok (.iconst 3, 1) := by decide +kernel
theorem dL_law_688 : decode cL_law 688 = .ok (.iadd, 1) := by decide +kernel
theorem dL_law_689 : decode cL_law 689 = .ok (.iaload, 1) := by decide +kernel
theorem dL_law_690 : decode cL_law 690 = .ok (.invokevirtual 98, 3) := by decide +kernel
theorem dL_law_693 : decode cL_law 693 = .ok (.if_icmp .eq 61, 3) := by decide +kernel
theorem dL_law_696 : decode cL_law 696 = .ok (.iconst 0, 1) := by decide +kernel
theorem dL_law_697 : decode cL_law 697 = .ok (.ireturn, 1) := by decide +kernel
theorem dL_law_698 : decode cL_law 698 = .ok (.aload_n 1, 1) := by decide +kernel
theorem dL_law_699 : decode cL_law 699 = .ok (.aload_n 0, 1) := by decide +kernel
theorem dL_law_700 : decode cL_law 700 = .ok (.iload_n 3, 1) := by decide +kernel
theorem dL_law_701 : decode cL_law 701 = .ok (.iconst 1, 1) := by decide +kernel
theorem dL_law_702 : decode cL_law 702 = .ok (.iadd, 1) := by decide +kernel
theorem dL_law_703 : decode cL_law 703 = .ok (.iaload, 1) := by decide +kernel
theorem dL_law_704 : decode cL_law 704 = .ok (.aload_n 0, 1) := by decide +kernel
theorem dL_law_705 : decode cL_law 705 = .ok (.iload_n 3, 1) := by decide +kernel
theorem dL_law_706 : decode cL_law 706 = .ok (.iconst 2, 1) := by decide +kernel
theorem dL_law_707 : decode cL_law 707 = .ok (.iadd, 1) := by decide +kernel
theorem dL_law_708 : decode cL_law 708 = .ok (.iaload, 1) := by decide +kernel
theorem dL_law_709 : decode cL_law 709 = .ok (.invokevirtual 99, 3) := by decide +kernel
theorem dL_law_712 : decode cL_law 712 = .ok (.aload_n 2, 1) := by decide +kernel
theorem dL_law_713 : decode cL_law 713 = .ok (.aload_n 0, 1) := by decide +kernel
theorem dL_law_714 : decode cL_law 714 = .ok (.iload_n 3, 1) := by decide +kernel
theorem dL_law_715 : decode cL_law 715 = .ok (.iconst 1, 1) := by decide +kernel
theorem dL_law_716 : decode cL_law 716 = .ok (.iadd, 1) := by decide +kernel
theorem dL_law_717 : decode cL_law 717 = .ok (.iaload, 1) := by decide +kernel
theorem dL_law_718 : decode cL_law 718 = .ok (.aload_n 0, 1) := by decide +kernel
theorem dL_law_719 : decode cL_law 719 = .ok (.iload_n 3, 1) := by decide +kernel
theorem dL_law_720 : decode cL_law 720 = .ok (.iconst 2, 1) := by decide +kernel
theorem dL_law_721 : decode cL_law 721 = .ok (.iadd, 1) := by decide +kernel
theorem dL_law_722 : decode cL_law 722 = .ok (.iaload, 1) := by decide +kernel
theorem dL_law_723 : decode cL_law 723 = .ok (.invokevirtual 102, 3) := by decide +kernel
theorem dL_law_726 : decode cL_law 726 = .ok (.if_icmp .eq 28, 3) := by decide +kernel
theorem dL_law_729 : decode cL_law 729 = .ok (.iconst 0, 1) := by decide +kernel
theorem dL_law_730 : decode cL_law 730 = .ok (.ireturn, 1) := by decide +kernel
theorem dL_law_731 : decode cL_law 731 = .ok (.aload_n 1, 1) := by decide +kernel
theorem dL_law_732 : decode cL_law 732 = .ok (.aload_n 0, 1) := by decide +kernel
theorem dL_law_733 : decode cL_law 733 = .ok (.iload_n 3, 1) := by decide +kernel
theorem dL_law_734 : decode cL_law 734 = .ok (.iconst 1, 1) := by decide +kernel
theorem dL_law_735 : decode cL_law 735 = .ok (.iadd, 1) := by decide +kernel
theorem dL_law_736 : decode cL_law 736 = .ok (.iaload, 1) := by decide +kernel
theorem dL_law_737 : decode cL_law 737 = .ok (.invokevirtual 103, 3) := by decide +kernel
theorem dL_law_740 : decode cL_law 740 = .ok (.aload_n 2, 1) := by decide +kernel
theorem dL_law_741 : decode cL_law 741 = .ok (.aload_n 0, 1) := by decide +kernel
theorem dL_law_742 : decode cL_law 742 = .ok (.iload_n 3, 1) := by decide +kernel
theorem dL_law_743 : decode cL_law 743 = .ok (.iconst 1, 1) := by decide +kernel
theorem dL_law_744 : decode cL_law 744 = .ok (.iadd, 1) := by decide +kernel
theorem dL_law_745 : decode cL_law 745 = .ok (.iaload, 1) := by decide +kernel
theorem dL_law_746 : decode cL_law 746 = .ok (.invokevirtual 106, 3) := by decide +kernel
theorem dL_law_749 : decode cL_law 749 = .ok (.if_icmp .eq 5, 3) := by decide +kernel
theorem dL_law_752 : decode cL_law 752 = .ok (.iconst 0, 1) := by decide +kernel
theorem dL_law_753 : decode cL_law 753 = .ok (.ireturn, 1) := by decide +kernel
theorem dL_law_754 : decode cL_law 754 = .ok (.iinc 3 5, 3) := by decide +kernel
theorem dL_law_757 : decode cL_law 757 = .ok (.goto (-739), 3) := by decide +kernel
theorem dL_law_760 : decode cL_law 760 = .ok (.iconst 1, 1) := by decide +kernel
theorem dL_law_761 : decode cL_law 761 = .ok (.ireturn, 1) := by decide +kernel
end
section
/-! ===== the memory as functions of addresses ===== -/
/-- f, but v at k -/
def gu {α : Type} (f : Nat → α) (k : Nat) (v : α) : Nat → α := fun j => if j = k then v else f j
theorem gu_eq {α : Type} (f : Nat → α) (k : Nat) (v : α) : gu f k v k = v := if_pos rfl
theorem gu_ne {α : Type} (f : Nat → α) {k j : Nat} (v : α) (h : j ≠ k) : gu f k v j = f j := if_neg h
theorem gu_gu {α : Type} (f : Nat → α) (k : Nat) (v w : α) : gu (gu f k v) k w = gu f k w := by
  funext j
  by_cases h : j = k <;> simp [gu, h]
theorem gu_self {α : Type} (f : Nat → α) (k : Nat) : gu f k (f k) = f := by
  funext j
  by_cases h : j = k <;> simp [gu, h]
theorem gu_comm {α : Type} (f : Nat → α) {k j : Nat} (v w : α) (h : k ≠ j) : gu (gu f k v) j w = gu (gu f j w) k v := by
  funext i
  by_cases h1 : i = k <;> by_cases h2 : i = j <;> simp [gu, h1, h2]
  · exact absurd (h1.symm.trans h2) h
  · intro h3; exact absurd h3 h
  · intro h3; exact absurd h3.symm h
/-- tables: objects' classes and slots, and the array classes of int, long, Mix, long[] -/
abbrev gG : Type := va_G × ClassId × ClassId × ClassId × ClassId
abbrev gTy : Type := Nat → Nat × Nat
abbrev gI : Type := Nat → Nat → Int32
abbrev gJ : Type := Nat → Nat → Int64
abbrev gR : Type := Nat → Nat → Option Nat
abbrev gO : Type := Nat → Nat → Value
/-- a cell of kind t: 1 an object of class t.2, 2 int[t.2], 3 long[t.2], 4 Mix[t.2], 5 long[t.2][] -/
def gAt (G : gG) (t : Nat × Nat) (I : Nat → Int32) (J : Nat → Int64) (Q : Nat → Option Nat) (O : Nat → Value) (H : Heap) (a : Nat) : Prop :=
  (t.1 = 1 → ∃ r : vw_C, vwCl[t.2]? = some r ∧ t_OB a (G.1.1 t.2) r.2.2 (G.1.2 t.2) H O) ∧
  (t.1 = 2 → H[a]? = some (arrV G.2.1 t.2 (fun j => .int (I j)))) ∧
  (t.1 = 3 → H[a]? = some (arrV G.2.2.1 t.2 (fun j => .long (J j)))) ∧
  (t.1 = 4 → H[a]? = some (arrV G.2.2.2.1 t.2 (fun j => va_rf (Q j)))) ∧
  (t.1 = 5 → H[a]? = some (arrV G.2.2.2.2 t.2 (fun j => va_rf (Q j)))) ∧ (t.1 ≠ 0 → a < H.size)
def gP (G : gG) (T : gTy) (I : gI) (J : gJ) (Q : gR) (O : gO) (H : Heap) : Prop := ∀ a, gAt G (T a) (I a) (J a) (Q a) (O a) H a
theorem gAt.kept {G : gG} {t : Nat × Nat} {I : Nat → Int32} {J : Nat → Int64} {Q : Nat → Option Nat} {O : Nat → Value} {H H1 : Heap} {a : Nat} (h : gAt G t I J Q O H a) (hq : H1[a]? = H[a]?) (hz : H.size ≤ H1.size) : gAt G t I J Q O H1 a := by
  obtain ⟨h1, h2, h3, h4, h5, h6⟩ := h
  refine ⟨fun e => ?_, fun e => hq.trans (h2 e), fun e => hq.trans (h3 e), fun e => hq.trans (h4 e), fun e => hq.trans (h5 e), fun e => Nat.lt_of_lt_of_le (h6 e) hz⟩
  obtain ⟨r, g1, g2⟩ := h1 e
  exact ⟨r, g1, g2.kept hq⟩
theorem gAt.none {G : gG} {t : Nat × Nat} {I : Nat → Int32} {J : Nat → Int64} {Q : Nat → Option Nat} {O : Nat → Value} {H : Heap} {a : Nat} (h : t.1 = 0) : gAt G t I J Q O H a :=
  ⟨fun e => by omega, fun e => by omega, fun e => by omega, fun e => by omega, fun e => by omega, fun e => absurd h e⟩
theorem gP.lt {G : gG} {T : gTy} {I : gI} {J : gJ} {Q : gR} {O : gO} {H : Heap} (h : gP G T I J Q O H) {a : Nat} (ha : (T a).1 ≠ 0) : a < H.size := (h a).2.2.2.2.2 ha
theorem gP.new {G : gG} {T : gTy} {I : gI} {J : gJ} {Q : gR} {O : gO} {H : Heap} (h : gP G T I J Q O H) : (T H.size).1 = 0 := by
  by_cases h0 : (T H.size).1 = 0
  · exact h0
  · exact absurd (h.lt h0) (Nat.lt_irrefl _)
/-- all cells but a stay -/
theorem gP.set {G : gG} {T T' : gTy} {I I' : gI} {J J' : gJ} {Q Q' : gR} {O O' : gO} {H H1 : Heap} (h : gP G T I J Q O H) (a : Nat) (hz : H.size ≤ H1.size) (oq : ∀ q : Nat, q < H.size → q ≠ a → H1[q]? = H[q]?) (hT : ∀ q, q ≠ a → T' q = T q) (hI : ∀ q, q ≠ a → I' q = I q) (hJ : ∀ q, q ≠ a → J' q = J q) (hQ : ∀ q, q ≠ a → Q' q = Q q) (hO : ∀ q, q ≠ a → O' q = O q) (ha : gAt G (T' a) (I' a) (J' a) (Q' a) (O' a) H1 a) : gP G T' I' J' Q' O' H1 := by
  intro q
  by_cases hq : q = a
  · rw [hq]; exact ha
  · rw [hT q hq, hI q hq, hJ q hq, hQ q hq, hO q hq]
    by_cases h0 : (T q).1 = 0
    · exact gAt.none h0
    · exact (h q).kept (oq q (h.lt h0) hq) hz
/-- the array classes -/
def gtys (G : gG) : List (ClassId × FieldType) := [(G.2.1, .int), (G.2.2.1, .long), (G.2.2.2.1, .object "GameTables$Mix"), (G.2.2.2.2, .array .long)]
/-- the classes of arrays of Mix and of long[] are there -/
def gOv (ty : FieldType) (U : State) : Prop := (Cond.arrayOver ty).before #[] U = true
theorem gOv.vm {ty : FieldType} {u U : State} (h : u.vm = U.vm) (hk : gOv ty u) : gOv ty U := by
  unfold gOv Cond.before Cond.holds at *
  simp only [Cond.value] at *
  rw [← h]
  exact hk
theorem gOv.warm {ty : FieldType} {s U : State} (hW : s.WarmedH U.vm) (hk : gOv ty s) : gOv ty U := by
  have h : gOv ty (s.setVm U.vm) := by
    unfold gOv
    rw [Cond.arrayOver_setVmC hW.alike ty]
    exact hk
  exact gOv.vm (u := s.setVm U.vm) rfl h
theorem gOv.use {ty : FieldType} {A : Array Value} {U : State} (h : gOv ty U) : (Cond.arrayOver ty).before A U = true := h
/-- calls among nest mates: own class, place, method -/
def gnest : List (String × Nat × MethodName) := [(RX4, 9, yX3_init), (RX3, 17, yX0_init), (RX0, 17, yX2_init), (RX3, 31, yX2_init), (RX4, 21, yX1_init), (RX3, 62, yX4_lowest), (RX3, 66, yX4_hasBit), (RX0, 78, yX4_firstOf), (RX0, 81, yX4_hasBit)]
def gK (G : gG) (U : State) : Prop := va_K G.1 vwCl (gtys G) U ∧ (∀ w ∈ gnest, va_Nw (.methodLinkNest w.1 w.2.1 w.2.2 "GameTables") U) ∧ gOv (.object "GameTables$Mix") U ∧ gOv (.array .long) U
theorem gK.same {G : gG} {u U : State} (h : u.vm = U.vm) (hk : gK G u) : gK G U := ⟨va_K.moved (by rw [h]; exact Vm.Alike.refl _) hk.1, fun w hw => va_Nw.same rfl h (hk.2.1 w hw), gOv.vm h hk.2.2.1, gOv.vm h hk.2.2.2⟩
theorem gK.warm {G : gG} {s U : State} (hW : s.WarmedH U.vm) (hk : gK G s) : gK G U := ⟨va_K.moved hW.alike hk.1, fun w hw => va_Nw.warmM hW (hk.2.1 w hw), gOv.warm hW hk.2.2.1, gOv.warm hW hk.2.2.2⟩
/-- a contract's start: these arguments, this heap -/
def gPc (G : gG) (H : Heap) (av : List Value) : Array Value → State → Prop := fun v U => v = av.toArray ∧ U.heap = H ∧ gK G U
/-- its end, where it only reads -/
def gQp (r : Option Value) : Array Value → State → Outcome → State → Prop := fun _ st oc t => oc = .returned r ∧ t.heap = st.heap
/-- its end, where it writes: what it says of answer and heap; old cells that aren't A's stay -/
def gQc (A : Nat → Prop) (post : Option Value → Heap → Prop) : Array Value → State → Outcome → State → Prop := fun _ st oc t => (∃ r, oc = .returned r ∧ post r t.heap) ∧ va_F A st t
theorem gPc.blind {G : gG} {H : Heap} {av : List Value} : FrameBlind (gPc G H av) := fun a U g mk h => ⟨h.1, h.2.1, gK.same (u := U) (U := U.calling g mk a) rfl h.2.2⟩
/-- the words of a method: its code, and the table -/
def gw (y : MethodName) (c : ByteArray) (n : Nat) (ret : Option FieldType) : List Cond := .code y c n ret :: gtb
theorem g_good {y : MethodName} {c : ByteArray} {n : Nat} {ret : Option FieldType} (h : Cond.code y c n ret ∈ gtb) : GoodIn gtb (gw y c n ret) := by
  intro w hw
  rcases List.mem_cons.mp hw with rfl | hw
  · exact ⟨h, good_of_word (List.mem_filter.mp h).2⟩
  · exact ⟨hw, good_of_word (List.mem_filter.mp hw).2⟩
section GE
variable {l : Launch} {G : gG} {H : Heap}
/-- what a method has at hand from its entry on -/
def gC (G : gG) (p : Program) (m : MethodId) (c : Code) (cc : ByteArray) (nL : Nat) (s : State) (args : Array Value) (own : String) (meth : Method) (ret : Option FieldType) (nm : String) : Prop := CallFix p m c cc nL s args gtb own ∧ gK G s ∧ meth.sig.returnType = ret ∧ meth.locks = false ∧ meth.name = nm
theorem g_met {y : MethodName} {rm : Room} {Qc : Array Value → State → Outcome → State → Prop} {mc ms : Nat} {free : Addr → Prop} {cc : ByteArray} {maxL : Nat} {ret : Option FieldType} {av : List Value} (lv : List (Nat × Value)) (hy : plainName y.cls = true) (hlv : lv_args 0 av = lv) (hsz : (lg_sl av).length ≤ maxL)
    (body : ∀ (p : Program) (e : Env) (s : State) (m : MethodId) (below : List Frame) (meth : Method) (c : Code), gC G p m c cc maxL s av.toArray y.cls meth ret y.name → s.heap = H →
      ∀ ls : Array Slot, lv_has ls maxL lv → W p l e rm s m av.toArray below meth c H [] 0 0 (MQ below Qc av.toArray s mc ms free) (F0 m 0 ls [])) : Met l y (gw y cc maxL ret) rm (gPc G H av) Qc mc ms free := by
  refine Met.ofW (cc := cc) (maxL := maxL) (ret := ret) hy rfl ?_
  intro p e s m args below meth c s₁ B hml hv
  obtain ⟨rfl, hh, hK⟩ := hv
  have hts := atoms_spec (ws := gw y cc maxL ret) B.pre
  have hown : s.vm.findClass y.cls = some m.cls := findClass_of_methodNamed B.named
  have hl := lv_entry av (n := maxL) hsz
  rw [hlv] at hl
  rw [lg_entry_eq]
  have k := body p e s m below meth c ⟨⟨B.exec, B.bytes, hml, hown, fun w h => hts w (List.mem_cons_of_mem _ h)⟩, hK, B.returns, B.notSynchronized, (name_of_methodNamed B.named B.method).1⟩ hh _ hl
  rw [hh]
  exact k
end GE
end
section
/-! ===== rows over the memory as functions ===== -/
theorem gS_put {A : Nat → Prop} {H0 H H1 : Heap} {locs : List Loc} {a k : Nat} (h : va_S A H0 H locs) (z : H1.size = H.size) (oq : ∀ q : Nat, q ≠ a → H1[q]? = H[q]?) (ha : A a) : va_S A H0 H1 (locs ++ [⟨a, k⟩]) := h.put z oq ha
section GR
variable {p : Program} {l : Launch} {e : Env} {R : Room} {s : State} {m : MethodId} {args : Array Value} {below : List Frame} {meth : Method} {c : Code} {H : Heap} {locs : List Loc} {cells slots : Nat} {Z : State → Prop}
variable {cc : ByteArray} {pc nL : Nat} {ls : Array Slot} {rest : List Value} {A : Nat → Prop} {a : Nat} {G : gG} {T : gTy} {I : gI} {J : gJ} {Q : gR} {O : gO} {own nm : String} {ret : Option FieldType}
theorem g_get (hC : gC G p m c cc nL s args own meth ret nm) (hP : gP G T I J Q O H) {ci : Nat} (hT : T a = (1, ci)) {C : String} {Tt : u_T} {N : Nat} (hc : vwCl[ci]? = some (C, Tt, N)) (hin : ∀ w ∈ u_ws C Tt N, w ∈ gtb) (k : Nat) (hk : k < N) {index : Nat} (hlink : Cond.fieldLink own index (Tt k).1 (Tt k).2.1 (Tt k).2.2.1 ∈ gtb) {v : Value} (hv : O a k = v) (hdg : decode cc pc = .ok (.getfield index, 3))
    (kk : W p l e R s m args below meth c H locs cells slots Z (F0 m (pc + 3) ls (v :: rest))) : W p l e R s m args below meth c H locs cells slots Z (F0 m pc ls (.ref a :: rest)) := by
  obtain ⟨⟨hx, hb, -, hown, hts⟩, hK, -⟩ := hC
  obtain ⟨r, h1, cell, q1, q2, q3, q4⟩ := (hP a).1 (by rw [hT])
  rw [hT] at h1 q2 q4
  have hr : r = (C, Tt, N) := Option.some.inj (h1.symm.trans hc)
  subst hr
  obtain ⟨hS, hfc, kC, hkC, hkind⟩ := hK.1.1 ci _ hc
  obtain ⟨cf, kf, fi, f, hi, hsl⟩ := hS k hk
  refine W.getf hx hb hown (hts _ hlink) hi (u_facts hfc hkC (u_lays hts hin hk) hi).1 q1 (by rw [q3]; exact fun h => by cases h) (v := v) ?_ rfl rfl hdg kk
  rw [hsl, q4 k hk, hv]
theorem g_put (hC : gC G p m c cc nL s args own meth ret nm) (hP : gP G T I J Q O H) (hS0 : va_S A s.heap H locs) (hTA : ∀ q, (T q).1 ≠ 0 → A q) {ci : Nat} (hT : T a = (1, ci)) {C : String} {Tt : u_T} {N : Nat} (hc : vwCl[ci]? = some (C, Tt, N)) (hin : ∀ w ∈ u_ws C Tt N, w ∈ gtb) (ty0 : Nat → FieldType) (hty : ∀ k, k < N → parseFieldDescriptor (Tt k).2.2.1 = some (ty0 k)) (hnm : ∀ a, a < N → ∀ b, b < N → a ≠ b → (Tt a).2.1 ≠ (Tt b).2.1) (k : Nat) (hk : k < N) {index : Nat} (hlink : Cond.fieldLink own index (Tt k).1 (Tt k).2.1 (Tt k).2.2.1 ∈ gtb) (hfin : (Tt k).2.2.2 = false) {ty : FieldType} {v : Value} (hd : parseFieldDescriptor (Tt k).2.2.1 = some ty) (hn : narrow ty v = v) (hfit : fits ty v = true)
    (hdg : decode cc pc = .ok (.putfield index, 3)) (kk : ∀ (H1 : Heap) (locs1 : List Loc), gP G T I J Q (gu O a (gu (O a) k v)) H1 → va_S A s.heap H1 locs1 → H1.size = H.size → W p l e R s m args below meth c H1 locs1 cells slots Z (F0 m (pc + 3) ls rest)) : W p l e R s m args below meth c H locs cells slots Z (F0 m pc ls (v :: .ref a :: rest)) := by
  obtain ⟨⟨hx, hb, -, hown, hts⟩, hK, -⟩ := hC
  have hap := va_apart (own := own) (D := G.1) hts hin ty0 hty hnm hK.1 hc
  obtain ⟨r, h1, cell, q1, q2, q3, q4⟩ := (hP a).1 (by rw [hT])
  rw [hT] at h1 q2 q4
  have hr : r = (C, Tt, N) := Option.some.inj (h1.symm.trans hc)
  subst hr
  obtain ⟨hS, hfc, kC, hkC, hkind⟩ := hK.1.1 ci _ hc
  obtain ⟨cf, kf, fi, f, hi, hsl⟩ := hS k hk
  have hlay := hts _ (hin _ (u_in_lay hk))
  unfold u_lay at hlay
  rw [if_neg (by rw [hfin]; decide)] at hlay
  have hst := (u_facts hfc hkC (u_lays hts hin hk) hi).1
  have h6 := u_store hfc hkC hkind hlay hi hd hn hfit
  refine W.putK hx hb (f := f) ⟨hown, hts _ hlink, ⟨_, _, _, hi⟩, hst⟩ (by rw [q2]; exact h6) q1 q3 (by rw [hsl]; exact k2_hasslot (q4 k hk)) rfl rfl hdg fun H' e1 e2 e3 => ?_
  rw [hsl] at e1 ⊢
  have ha : (T a).1 ≠ 0 := by rw [hT]; simp
  refine kk H' _ (hP.set a (Nat.le_of_eq e2.symm) (fun q _ h => e3 q h) (fun _ _ => rfl) (fun _ _ => rfl) (fun _ _ => rfl) (fun _ _ => rfl) (fun q h => gu_ne _ _ h) ?_) (hS0.put e2 e3 (hTA a ha)) e2
  rw [hT, gu_eq]
  exact ⟨fun _ => ⟨_, hc, t_OB.to (V := updV (O a) k v) ⟨_, e1, q2, q3, t_set q4 hap hk v⟩ (fun j _ => rfl)⟩, fun h => absurd h (by simp), fun h => absurd h (by simp), fun h => absurd h (by simp), fun h => absurd h (by simp), fun _ => by rw [e2]; exact hP.lt ha⟩
theorem g_putF (hC : gC G p m c cc nL s args own meth ret "<init>") (hP : gP G T I J Q O H) (hS0 : va_S A s.heap H locs) (hTA : ∀ q, (T q).1 ≠ 0 → A q) {ci : Nat} (hT : T a = (1, ci)) {C : String} {Tt : u_T} {N : Nat} (hc : vwCl[ci]? = some (C, Tt, N)) (hin : ∀ w ∈ u_ws C Tt N, w ∈ gtb) (ty0 : Nat → FieldType) (hty : ∀ k, k < N → parseFieldDescriptor (Tt k).2.2.1 = some (ty0 k)) (hnm : ∀ a, a < N → ∀ b, b < N → a ≠ b → (Tt a).2.1 ≠ (Tt b).2.1) (k : Nat) (hk : k < N) {index : Nat} (hlink : Cond.fieldLink own index (Tt k).1 (Tt k).2.1 (Tt k).2.2.1 ∈ gtb) (hfin : (Tt k).2.2.2 = true) (hdecl : (Tt k).1 = own) {ty : FieldType} {v : Value} (hd : parseFieldDescriptor (Tt k).2.2.1 = some ty) (hn : narrow ty v = v) (hfit : fits ty v = true)
    (hdg : decode cc pc = .ok (.putfield index, 3)) (kk : ∀ (H1 : Heap) (locs1 : List Loc), gP G T I J Q (gu O a (gu (O a) k v)) H1 → va_S A s.heap H1 locs1 → H1.size = H.size → W p l e R s m args below meth c H1 locs1 cells slots Z (F0 m (pc + 3) ls rest)) : W p l e R s m args below meth c H locs cells slots Z (F0 m pc ls (v :: .ref a :: rest)) := by
  obtain ⟨⟨hx, hb, -, hown, hts⟩, hK, -, -, hin2⟩ := hC
  have hap := va_apart (own := own) (D := G.1) hts hin ty0 hty hnm hK.1 hc
  obtain ⟨r, h1, cell, q1, q2, q3, q4⟩ := (hP a).1 (by rw [hT])
  rw [hT] at h1 q2 q4
  have hr : r = (C, Tt, N) := Option.some.inj (h1.symm.trans hc)
  subst hr
  obtain ⟨hS, hfc, kC, hkC, hkind⟩ := hK.1.1 ci _ hc
  obtain ⟨cf, kf, fi, f, hi, hsl⟩ := hS k hk
  have hlay := hts _ (hin _ (u_in_lay hk))
  unfold u_lay at hlay
  rw [if_pos hfin] at hlay
  have hst := (u_facts hfc hkC (u_lays hts hin hk) hi).1
  have hcf : m.cls = cf := by
    obtain ⟨_, _, c', _, _, _, -, -, hf', -, -, -, hown2, -⟩ := Cond.laysFinal_spec hlay
    have e1 : c' = cf := by have := hi.symm.trans hf'; simp at this; exact this.1.symm
    rw [hdecl] at hown2
    rw [← e1]; exact Option.some.inj (hown.symm.trans hown2)
  have h6 := u_fits hfc hkC hkind (Or.inr hlay) hi hd hn hfit
  refine W.putFinK hx hb hown (hts _ hlink) hi hst hcf hin2 (by rw [q2]; exact h6) q1 q3 (by rw [hsl]; exact k2_hasslot (q4 k hk)) rfl rfl hdg fun H' e1 e2 e3 => ?_
  rw [hsl] at e1 ⊢
  have ha : (T a).1 ≠ 0 := by rw [hT]; simp
  refine kk H' _ (hP.set a (Nat.le_of_eq e2.symm) (fun q _ h => e3 q h) (fun _ _ => rfl) (fun _ _ => rfl) (fun _ _ => rfl) (fun _ _ => rfl) (fun q h => gu_ne _ _ h) ?_) (hS0.put e2 e3 (hTA a ha)) e2
  rw [hT, gu_eq]
  exact ⟨fun _ => ⟨_, hc, t_OB.to (V := updV (O a) k v) ⟨_, e1, q2, q3, t_set q4 hap hk v⟩ (fun j _ => rfl)⟩, fun h => absurd h (by simp), fun h => absurd h (by simp), fun h => absurd h (by simp), fun h => absurd h (by simp), fun _ => by rw [e2]; exact hP.lt ha⟩
theorem gK_int (hC : gC G p m c cc nL s args own meth ret nm) : ArrOfT s G.2.1 .int := (hC.2.1.1.2 0 _ rfl).1
theorem gK_long (hC : gC G p m c cc nL s args own meth ret nm) : ArrOfT s G.2.2.1 .long := (hC.2.1.1.2 1 _ rfl).1
theorem gK_mix (hC : gC G p m c cc nL s args own meth ret nm) : ArrOfT s G.2.2.2.1 (.object "GameTables$Mix") := (hC.2.1.1.2 2 _ rfl).1
theorem gK_gap (hC : gC G p m c cc nL s args own meth ret nm) : ArrOfT s G.2.2.2.2 (.array .long) := (hC.2.1.1.2 3 _ rfl).1
theorem g_iald (hC : gC G p m c cc nL s args own meth ret nm) (hP : gP G T I J Q O H) {n : Nat} (hT : T a = (2, n)) {i : Int32} (hin : vp_in i n) (hdg : decode cc pc = .ok (.iaload, 1))
    (kk : W p l e R s m args below meth c H locs cells slots Z (F0 m (pc + 1) ls (.int (I a i.toNatClampNeg) :: rest))) : W p l e R s m args below meth c H locs cells slots Z (F0 m pc ls (.int i :: .ref a :: rest)) := by
  have hlt : i.toNatClampNeg < n := Nat.not_le.mp fun q => hin (Or.inr q)
  have hc := (hP a).2.1 (by rw [hT])
  rw [hT] at hc
  exact W.iald (v := .int (I a i.toNatClampNeg)) hC.1.1 hC.1.2.1 hc (gK_int hC n (fun j => .int (I a j))) (fun q => by cases q) (by show ¬ (i < 0 ∨ (arrV _ _ _).slots.size ≤ _); rw [arrV_size]; exact hin) (by show (arrV _ _ _).slots[_]? = _; rw [arrV_read _ _ hlt]) rfl rfl hdg kk
theorem g_lald (hC : gC G p m c cc nL s args own meth ret nm) (hP : gP G T I J Q O H) {n : Nat} (hT : T a = (3, n)) {i : Int32} (hin : vp_in i n) (hdg : decode cc pc = .ok (.laload, 1))
    (kk : W p l e R s m args below meth c H locs cells slots Z (F0 m (pc + 1) ls (.long (J a i.toNatClampNeg) :: rest))) : W p l e R s m args below meth c H locs cells slots Z (F0 m pc ls (.int i :: .ref a :: rest)) := by
  have hlt : i.toNatClampNeg < n := Nat.not_le.mp fun q => hin (Or.inr q)
  have hc := (hP a).2.2.1 (by rw [hT])
  rw [hT] at hc
  exact W.lald (v := .long (J a i.toNatClampNeg)) hC.1.1 hC.1.2.1 hc (gK_long hC n (fun j => .long (J a j))) (fun q => by cases q) (by show ¬ (i < 0 ∨ (arrV _ _ _).slots.size ≤ _); rw [arrV_size]; exact hin) (by show (arrV _ _ _).slots[_]? = _; rw [arrV_read _ _ hlt]) rfl rfl hdg kk
theorem g_aald (hC : gC G p m c cc nL s args own meth ret nm) (hP : gP G T I J Q O H) {n : Nat} (hT : T a = (4, n)) {i : Int32} (hin : vp_in i n) {v : Value} (hv : va_rf (Q a i.toNatClampNeg) = v) (hdg : decode cc pc = .ok (.aaload, 1))
    (kk : W p l e R s m args below meth c H locs cells slots Z (F0 m (pc + 1) ls (v :: rest))) : W p l e R s m args below meth c H locs cells slots Z (F0 m pc ls (.int i :: .ref a :: rest)) := by
  subst hv
  have hlt : i.toNatClampNeg < n := Nat.not_le.mp fun q => hin (Or.inr q)
  have hc := (hP a).2.2.2.1 (by rw [hT])
  rw [hT] at hc
  exact W.aald (v := va_rf (Q a i.toNatClampNeg)) (ty := .object "GameTables$Mix") hC.1.1 hC.1.2.1 hc (gK_mix hC n (fun j => va_rf (Q a j))) rfl (fun q => by cases q) (by show ¬ (i < 0 ∨ (arrV _ _ _).slots.size ≤ _); rw [arrV_size]; exact hin) (by show (arrV _ _ _).slots[_]? = _; rw [arrV_read _ _ hlt]) rfl rfl hdg kk
theorem g_aaldG (hC : gC G p m c cc nL s args own meth ret nm) (hP : gP G T I J Q O H) {n : Nat} (hT : T a = (5, n)) {i : Int32} (hin : vp_in i n) {v : Value} (hv : va_rf (Q a i.toNatClampNeg) = v) (hdg : decode cc pc = .ok (.aaload, 1))
    (kk : W p l e R s m args below meth c H locs cells slots Z (F0 m (pc + 1) ls (v :: rest))) : W p l e R s m args below meth c H locs cells slots Z (F0 m pc ls (.int i :: .ref a :: rest)) := by
  subst hv
  have hlt : i.toNatClampNeg < n := Nat.not_le.mp fun q => hin (Or.inr q)
  have hc := (hP a).2.2.2.2.1 (by rw [hT])
  rw [hT] at hc
  exact W.aald (v := va_rf (Q a i.toNatClampNeg)) (ty := .array .long) hC.1.1 hC.1.2.1 hc (gK_gap hC n (fun j => va_rf (Q a j))) rfl (fun q => by cases q) (by show ¬ (i < 0 ∨ (arrV _ _ _).slots.size ≤ _); rw [arrV_size]; exact hin) (by show (arrV _ _ _).slots[_]? = _; rw [arrV_read _ _ hlt]) rfl rfl hdg kk
theorem g_iast (hC : gC G p m c cc nL s args own meth ret nm) (hP : gP G T I J Q O H) (hS0 : va_S A s.heap H locs) (hTA : ∀ q, (T q).1 ≠ 0 → A q) {n : Nat} (hT : T a = (2, n)) {i x : Int32} (hin : vp_in i n) (hdg : decode cc pc = .ok (.iastore, 1))
    (kk : ∀ (H1 : Heap) (locs1 : List Loc), gP G T (gu I a (gu (I a) i.toNatClampNeg x)) J Q O H1 → va_S A s.heap H1 locs1 → H1.size = H.size → W p l e R s m args below meth c H1 locs1 cells slots Z (F0 m (pc + 1) ls rest)) : W p l e R s m args below meth c H locs cells slots Z (F0 m pc ls (.int x :: .int i :: .ref a :: rest)) := by
  have hc := (hP a).2.1 (by rw [hT])
  rw [hT] at hc
  have ha : (T a).1 ≠ 0 := by rw [hT]; simp
  refine W.iast hC.1.1 hC.1.2.1 hc (gK_int hC n (fun j => .int (I a j))) (fun q => by cases q) (by show ¬ (i < 0 ∨ (arrV _ _ _).slots.size ≤ _); rw [arrV_size]; exact hin) rfl rfl hdg fun H1 e1 e2 e3 => ?_
  refine kk H1 _ (hP.set a (Nat.le_of_eq e2.symm) (fun q _ h => e3 q h) (fun _ _ => rfl) (fun q h => gu_ne _ _ h) (fun _ _ => rfl) (fun _ _ => rfl) (fun _ _ => rfl) ?_) (hS0.put e2 e3 (hTA a ha)) e2
  rw [hT, gu_eq]
  refine ⟨fun h => absurd h (by simp), fun _ => ?_, fun h => absurd h (by simp), fun h => absurd h (by simp), fun h => absurd h (by simp), fun _ => by rw [e2]; exact hP.lt ha⟩
  rw [e1, arrV_store]
  congr 2
  funext q
  by_cases hq : q = i.toNatClampNeg <;> simp [updV, gu, hq]
theorem g_last (hC : gC G p m c cc nL s args own meth ret nm) (hP : gP G T I J Q O H) (hS0 : va_S A s.heap H locs) (hTA : ∀ q, (T q).1 ≠ 0 → A q) {n : Nat} (hT : T a = (3, n)) {i : Int32} {x : Int64} (hin : vp_in i n) (hdg : decode cc pc = .ok (.lastore, 1))
    (kk : ∀ (H1 : Heap) (locs1 : List Loc), gP G T I (gu J a (gu (J a) i.toNatClampNeg x)) Q O H1 → va_S A s.heap H1 locs1 → H1.size = H.size → W p l e R s m args below meth c H1 locs1 cells slots Z (F0 m (pc + 1) ls rest)) : W p l e R s m args below meth c H locs cells slots Z (F0 m pc ls (.long x :: .int i :: .ref a :: rest)) := by
  have hc := (hP a).2.2.1 (by rw [hT])
  rw [hT] at hc
  have ha : (T a).1 ≠ 0 := by rw [hT]; simp
  refine W.last hC.1.1 hC.1.2.1 hc (gK_long hC n (fun j => .long (J a j))) (fun q => by cases q) (by show ¬ (i < 0 ∨ (arrV _ _ _).slots.size ≤ _); rw [arrV_size]; exact hin) rfl rfl hdg fun H1 e1 e2 e3 => ?_
  refine kk H1 _ (hP.set a (Nat.le_of_eq e2.symm) (fun q _ h => e3 q h) (fun _ _ => rfl) (fun _ _ => rfl) (fun q h => gu_ne _ _ h) (fun _ _ => rfl) (fun _ _ => rfl) ?_) (hS0.put e2 e3 (hTA a ha)) e2
  rw [hT, gu_eq]
  refine ⟨fun h => absurd h (by simp), fun h => absurd h (by simp), fun _ => ?_, fun h => absurd h (by simp), fun h => absurd h (by simp), fun _ => by rw [e2]; exact hP.lt ha⟩
  rw [e1, arrV_store]
  congr 2
  funext q
  by_cases hq : q = i.toNatClampNeg <;> simp [updV, gu, hq]
theorem g_aast (hC : gC G p m c cc nL s args own meth ret nm) (hP : gP G T I J Q O H) (hS0 : va_S A s.heap H locs) (hTA : ∀ q, (T q).1 ≠ 0 → A q) {n v : Nat} (hT : T a = (4, n)) (hv : T v = (1, 2)) {i : Int32} (hin : vp_in i n) (hdg : decode cc pc = .ok (.aastore, 1))
    (kk : ∀ (H1 : Heap) (locs1 : List Loc), gP G T I J (gu Q a (gu (Q a) i.toNatClampNeg (some v))) O H1 → va_S A s.heap H1 locs1 → H1.size = H.size → W p l e R s m args below meth c H1 locs1 cells slots Z (F0 m (pc + 1) ls rest)) : W p l e R s m args below meth c H locs cells slots Z (F0 m pc ls (.ref v :: .int i :: .ref a :: rest)) := by
  have hlt : i.toNatClampNeg < n := Nat.not_le.mp fun q => hin (Or.inr q)
  have h0 : ¬ i < 0 := fun q => hin (Or.inl q)
  have hc := (hP a).2.2.2.1 (by rw [hT])
  rw [hT] at hc
  have ha : (T a).1 ≠ 0 := by rw [hT]; simp
  obtain ⟨r', hr', cellV, g1, g2, g3, -⟩ := (hP v).1 (by rw [hv])
  rw [hv] at g2
  have hcls := (hC.2.1.1.1 2 _ rfl).2
  obtain ⟨kA, comp, k1, k2, k3, -⟩ := (hC.2.1.1.2 2 _ rfl).2
  have hcomp : comp = G.1.1 2 := Option.some.inj (k3.symm.trans hcls.1)
  subst hcomp
  obtain ⟨kC, hkC, -⟩ := hcls.2
  refine W.aast hC.1.1 hC.1.2.1 hc (fun q h => by cases h) (fun h => by cases h) k1 k2 rfl hkC ⟨h0, by show _ < (arrV _ _ _).slots.size; rw [arrV_size]; exact hlt⟩ g1 (fun q h => by rw [g3] at h; cases h) (by rw [g2]; exact hkC) (by rw [g2]; exact va_assign hcls) rfl rfl hdg fun H1 e1 e2 e3 => ?_
  refine kk H1 _ (hP.set a (Nat.le_of_eq e2.symm) (fun q _ h => e3 q h) (fun _ _ => rfl) (fun _ _ => rfl) (fun _ _ => rfl) (fun q h => gu_ne _ _ h) (fun _ _ => rfl) ?_) (hS0.put e2 e3 (hTA a ha)) e2
  rw [hT, gu_eq]
  refine ⟨fun h => absurd h (by simp), fun h => absurd h (by simp), fun h => absurd h (by simp), fun _ => ?_, fun h => absurd h (by simp), fun _ => by rw [e2]; exact hP.lt ha⟩
  rw [e1, arrV_store]
  congr 2
  funext q
  by_cases hq : q = i.toNatClampNeg <;> simp [updV, gu, va_rf, hq]
theorem g_alenI (hC : gC G p m c cc nL s args own meth ret nm) (hP : gP G T I J Q O H) {n : Nat} (hT : T a = (2, n)) (hdg : decode cc pc = .ok (.arraylength, 1))
    (kk : W p l e R s m args below meth c H locs cells slots Z (F0 m (pc + 1) ls (.int (nI n) :: rest))) : W p l e R s m args below meth c H locs cells slots Z (F0 m pc ls (.ref a :: rest)) := by
  have hc := (hP a).2.1 (by rw [hT])
  rw [hT] at hc
  exact W.alen (n := nI n) hC.1.1 hC.1.2.1 hc (gK_int hC n (fun j => .int (I a j))) (by rw [arrV_size]; rfl) rfl rfl hdg kk
/-- a call's end: what the method that only reads answers -/
theorem g_cp {st0 : List Value} {r : Option Value} {a : Array Value} (hr : va_Run p l e R s m args below meth c H locs cells slots 0 0 (F0 m pc ls st0) rest (gQp r a) (fun _ => False))
    (kk : W p l e R s m args below meth c H locs cells slots Z (F0 m (pc + 3) ls (r.toList ++ rest))) : W p l e R s m args below meth c H locs cells slots Z (F0 m pc ls st0) := by
  intro T hT X
  obtain ⟨v, st₀, t, T', L, h0, X', hL, e1, e2, ⟨hv, hh⟩, st⟩ := hr T hT X
  cases hv
  obtain ⟨t2, a1, b1⟩ := kk T' (by rw [e1, hh, h0]) (Stand.forget X' (fun q h => (hL q h).elim))
  exact ⟨t2, st t2 a1, b1⟩
/-- a call's end: what the method that writes leaves -/
theorem g_cc {st0 : List Value} {A0 A1 : Nat → Prop} {mc ms : Nat} {post : Option Value → Heap → Prop} {a : Array Value} (hr : va_Run p l e R s m args below meth c H locs cells slots mc ms (F0 m pc ls st0) rest (gQc A1 post a) A1) (hS : va_S A0 s.heap H locs) (hA : ∀ q, A1 q → A0 q)
    (kk : ∀ (r : Option Value) (H1 : Heap) (locs1 : List Loc), post r H1 → va_S A0 s.heap H1 locs1 → H.size ≤ H1.size → (∀ q : Nat, q < H.size → ¬ A1 q → H1[q]? = H[q]?) → W p l e R s m args below meth c H1 locs1 (cells + mc) (slots + ms) Z (F0 m (pc + 3) ls (r.toList ++ rest))) : W p l e R s m args below meth c H locs cells slots Z (F0 m pc ls st0) := by
  intro T hT X
  obtain ⟨v, st₀, t, T', L, h0, X', hL, e1, e2, ⟨⟨r, hv, hp⟩, hz, hk⟩, st⟩ := hr T hT X
  cases hv
  rw [h0] at hz hk
  obtain ⟨t2, a1, b1⟩ := kk v T'.heap (locs ++ L) (by rw [e1]; exact hp)
    ⟨Nat.le_trans hS.1 (by rw [e1]; exact hz), fun q h1 h2 => by rw [e1, hk q (Nat.lt_of_lt_of_le h1 hS.1) (fun z => h2 (hA q z))]; exact hS.2.1 q h1 h2, fun q hq => by
      rcases List.mem_append.mp hq with h | h
      · exact hS.2.2 q h
      · exact hA _ (hL q h)⟩ (by rw [e1]; exact hz) (fun q h1 h2 => by rw [e1]; exact hk q h1 h2) T' rfl X'
  exact ⟨t2, st t2 a1, b1⟩
variable {y : MethodName} {bytes : ByteArray} {maxL index : Nat} {rt : Option FieldType} {rm : Room} {Qc : Array Value → State → Outcome → State → Prop} {mc ms : Nat} {free : Addr → Prop} {b : Nat} {As : List Value}
/-- invokevirtual on an object of class ci -/
theorem g_rV (hC : gC G p m c cc nL s args own meth ret nm) (hP : gP G T I J Q O H) (hM : Met l y (gw y bytes maxL rt) rm (gPc G H (.ref b :: As)) Qc mc ms free) {ci : Nat} (hT : T b = (1, ci)) {Tt : u_T} {N : Nat} (hc : vwCl[ci]? = some (y.cls, Tt, N)) (hq : Cond.code y bytes maxL rt ∈ gtb ∧ Cond.methodLink own index y ∈ gtb ∧ Cond.instanceMethod y ∈ gtb ∧ Cond.selects y.cls y y ∈ gtb ∧ Cond.initialized y.cls ∈ gtb)
    (hd : y.cls ≠ "java/lang/invoke/MethodHandle" ∧ y.cls ≠ "java/lang/invoke/VarHandle" ∧ (parseMethodDescriptor y.desc).map (fun d => d.parameters.length) = some As.length) (hR : rm.frames + 1 ≤ R.frames ∧ 8 + (maxL + 11) + rm.locals ≤ R.locals ∧ rm.cells = mc ∧ rm.slots = ms)
    (hls : ls.size = nL) {st0 : List Value} (hst : st0 = As.reverse ++ .ref b :: rest) (hrm : (rest.map fun v => v.category).sum ≤ 8) (hdg : decode cc pc = .ok (.invokevirtual index, 3)) (hf : cells + mc ≤ R.cells ∧ slots + ms ≤ R.slots) :
    va_Run p l e R s m args below meth c H locs cells slots mc ms (F0 m pc ls st0) rest (Qc (Value.ref b :: As).toArray) free := by
  obtain ⟨q', h1, cell, g1, g2, g3, -⟩ := (hP b).1 (by rw [hT])
  rw [hT] at g2
  have hcl := (hC.2.1.1.1 ci _ hc).2.1
  exact va_runV (As := As) (rest := rest) hC.1 hM ⟨callB_of As.length hC.1.2.2.2.2 (g_good hq.1) rfl hR.2.2.1 hR.2.2.2 (hC.1.2.2.2.2 _ hq.2.2.2.2) (hC.1.2.2.2.2 _ hq.2.1) hd ⟨hR.1, hR.2.1⟩, hC.1.2.2.2.2 _ hq.2.2.1, hC.1.2.2.2.2 _ hq.2.2.2.1⟩ ⟨gPc.blind, ⟨cell, g1, by rw [g3]; rfl, by rw [g2]; exact hcl⟩, fun U hU hW => ⟨rfl, hU, hC.2.1.warm hW⟩⟩ rfl rfl hls hst (lv_room hrm) hdg hf
/-- invokestatic -/
theorem g_rS (hC : gC G p m c cc nL s args own meth ret nm) (hM : Met l y (gw y bytes maxL rt) rm (gPc G H As) Qc mc ms free) (hq : Cond.code y bytes maxL rt ∈ gtb ∧ Cond.methodLink own index y ∈ gtb ∧ Cond.static y ∈ gtb ∧ Cond.initialized y.cls ∈ gtb)
    (hd : y.cls ≠ "java/lang/invoke/MethodHandle" ∧ y.cls ≠ "java/lang/invoke/VarHandle" ∧ (parseMethodDescriptor y.desc).map (fun d => d.parameters.length) = some As.length) (hR : rm.frames + 1 ≤ R.frames ∧ 8 + (maxL + 11) + rm.locals ≤ R.locals ∧ rm.cells = mc ∧ rm.slots = ms)
    (hls : ls.size = nL) {st0 : List Value} (hst : st0 = As.reverse ++ rest) (hrm : (rest.map fun v => v.category).sum ≤ 8) (hdg : decode cc pc = .ok (.invokestatic index, 3)) (hf : cells + mc ≤ R.cells ∧ slots + ms ≤ R.slots) :
    va_Run p l e R s m args below meth c H locs cells slots mc ms (F0 m pc ls st0) rest (Qc As.toArray) free :=
  va_runS (As := As) (rest := rest) hC.1 hM ⟨callB_of As.length hC.1.2.2.2.2 (g_good hq.1) rfl hR.2.2.1 hR.2.2.2 (hC.1.2.2.2.2 _ hq.2.2.2) (hC.1.2.2.2.2 _ hq.2.1) hd ⟨hR.1, hR.2.1⟩, hC.1.2.2.2.2 _ hq.2.2.1⟩ ⟨gPc.blind, fun U hU hW => ⟨rfl, hU, hC.2.1.warm hW⟩⟩ rfl rfl hls hst (lv_room hrm) hdg hf
/-- invokestatic of a nest mate's private method -/
theorem g_rSN (hC : gC G p m c cc nL s args own meth ret nm) (hM : Met l y (gw y bytes maxL rt) rm (gPc G H As) Qc mc ms free) (hq : Cond.code y bytes maxL rt ∈ gtb ∧ (own, index, y) ∈ gnest ∧ Cond.static y ∈ gtb ∧ Cond.initialized y.cls ∈ gtb)
    (hd : y.cls ≠ "java/lang/invoke/MethodHandle" ∧ y.cls ≠ "java/lang/invoke/VarHandle" ∧ (parseMethodDescriptor y.desc).map (fun d => d.parameters.length) = some As.length) (hR : rm.frames + 1 ≤ R.frames ∧ 8 + (maxL + 11) + rm.locals ≤ R.locals ∧ rm.cells = mc ∧ rm.slots = ms)
    (hls : ls.size = nL) {st0 : List Value} (hst : st0 = As.reverse ++ rest) (hrm : (rest.map fun v => v.category).sum ≤ 8) (hdg : decode cc pc = .ok (.invokestatic index, 3)) (hf : cells + mc ≤ R.cells ∧ slots + ms ≤ R.slots) :
    va_Run p l e R s m args below meth c H locs cells slots mc ms (F0 m pc ls st0) rest (Qc As.toArray) free :=
  va_runSN (As := As) (rest := rest) hC.1 hM ⟨va_cnB As.length hC.1.2.2.2.2 (g_good hq.1) rfl hR.2.2.1 hR.2.2.2 (hC.2.1.2.1 _ hq.2.1) (hC.1.2.2.2.2 _ hq.2.2.2) hd ⟨hR.1, hR.2.1⟩, hC.1.2.2.2.2 _ hq.2.2.1, trivial⟩ ⟨gPc.blind, fun U hU hW => ⟨rfl, hU, hC.2.1.warm hW⟩⟩ rfl rfl hls hst (lv_room hrm) hdg hf
/-- invokespecial of a nest mate's private constructor -/
theorem g_rIN (hC : gC G p m c cc nL s args own meth ret nm) (hM : Met l y (gw y bytes maxL none) rm (gPc G H (.ref b :: As)) Qc mc ms free) (hq : Cond.code y bytes maxL none ∈ gtb ∧ (own, index, y) ∈ gnest ∧ Cond.instanceMethod y ∈ gtb ∧ Cond.initialized y.cls ∈ gtb) (hyn : y.name = "<init>")
    (hd : y.cls ≠ "java/lang/invoke/MethodHandle" ∧ y.cls ≠ "java/lang/invoke/VarHandle" ∧ (parseMethodDescriptor y.desc).map (fun d => d.parameters.length) = some As.length) (hR : rm.frames + 1 ≤ R.frames ∧ 8 + (maxL + 11) + rm.locals ≤ R.locals ∧ rm.cells = mc ∧ rm.slots = ms)
    (hls : ls.size = nL) {st0 : List Value} (hst : st0 = As.reverse ++ .ref b :: rest) (hrm : (rest.map fun v => v.category).sum ≤ 8) (hdg : decode cc pc = .ok (.invokespecial index, 3)) (hf : cells + mc ≤ R.cells ∧ slots + ms ≤ R.slots) :
    va_Run p l e R s m args below meth c H locs cells slots mc ms (F0 m pc ls st0) rest (Qc (Value.ref b :: As).toArray) free :=
  va_runIN (As := As) (rest := rest) hC.1 hM ⟨va_cnB As.length hC.1.2.2.2.2 (g_good hq.1) rfl hR.2.2.1 hR.2.2.2 (hC.2.1.2.1 _ hq.2.1) (hC.1.2.2.2.2 _ hq.2.2.2) hd ⟨hR.1, hR.2.1⟩, hyn, hC.1.2.2.2.2 _ hq.2.2.1⟩ ⟨gPc.blind, fun U hU hW => ⟨rfl, hU, hC.2.1.warm hW⟩⟩ rfl rfl hls hst (lv_room hrm) hdg hf
/-- invokespecial of a constructor that can be seen -/
theorem g_rI (hC : gC G p m c cc nL s args own meth ret nm) (hM : Met l y (gw y bytes maxL none) rm (gPc G H (.ref b :: As)) Qc mc ms free) (hq : Cond.code y bytes maxL none ∈ gtb ∧ Cond.methodLink own index y ∈ gtb ∧ Cond.instanceMethod y ∈ gtb ∧ Cond.initialized y.cls ∈ gtb) (hyn : y.name = "<init>")
    (hd : y.cls ≠ "java/lang/invoke/MethodHandle" ∧ y.cls ≠ "java/lang/invoke/VarHandle" ∧ (parseMethodDescriptor y.desc).map (fun d => d.parameters.length) = some As.length) (hR : rm.frames + 1 ≤ R.frames ∧ 8 + (maxL + 11) + rm.locals ≤ R.locals ∧ rm.cells = mc ∧ rm.slots = ms)
    (hls : ls.size = nL) {st0 : List Value} (hst : st0 = As.reverse ++ .ref b :: rest) (hrm : (rest.map fun v => v.category).sum ≤ 8) (hdg : decode cc pc = .ok (.invokespecial index, 3)) (hf : cells + mc ≤ R.cells ∧ slots + ms ≤ R.slots) :
    va_Run p l e R s m args below meth c H locs cells slots mc ms (F0 m pc ls st0) rest (Qc (Value.ref b :: As).toArray) free :=
  va_runI (As := As) (rest := rest) hC.1 hM ⟨callB_of As.length hC.1.2.2.2.2 (g_good hq.1) rfl hR.2.2.1 hR.2.2.2 (hC.1.2.2.2.2 _ hq.2.2.2) (hC.1.2.2.2.2 _ hq.2.1) hd ⟨hR.1, hR.2.1⟩, hyn, hC.1.2.2.2.2 _ hq.2.2.1⟩ ⟨gPc.blind, fun U hU hW => ⟨rfl, hU, hC.2.1.warm hW⟩⟩ rfl rfl hls hst (lv_room hrm) hdg hf
end GR
end
section
/-! ===== numbers, truth values, a method's end ===== -/
theorem nI_mul (a b : Nat) : nI a * nI b = nI (a * b) := by
  unfold nI
  exact (Int32.ofNat_mul a b).symm
theorem nI_inc (a : Nat) : nI a + Int32.ofInt 1 = nI (a + 1) := by
  have : Int32.ofInt 1 = 1 := by decide
  rw [this, nI_1]
theorem nI_subn {a b : Nat} (h : b ≤ a) : nI a - nI b = nI (a - b) := by
  obtain ⟨c, rfl⟩ := Nat.exists_eq_add_of_le h
  rw [Nat.add_sub_cancel_left, Nat.add_comm b c, ← nI_add]
  exact Int32.add_sub_cancel _ _
theorem nI_i {n N : Nat} (h : n < N) (hN : N < 2 ^ 31) : (nI n).toNatClampNeg = n := nI_clamp (Nat.lt_trans h hN)
/-- a truth value as an int -/
def gb (b : Bool) : Int32 := if b then 1 else 0
theorem gb_f {b : Bool} (h : gb b = 0) : b = false := by cases b <;> simp_all [gb]
theorem gb_t {b : Bool} (h : ¬ gb b = 0) : b = true := by cases b <;> simp_all [gb]
theorem gb_nar (b : Bool) : narrow .boolean (.int (gb b)) = .int (gb b) := by cases b <;> rfl
section GH
variable {p : Program} {l : Launch} {e : Env} {R : Room} {s : State} {m : MethodId} {args : Array Value} {below : List Frame} {meth : Method} {c : Code} {H : Heap} {locs : List Loc} {cells slots : Nat} {Z : State → Prop}
variable {cc : ByteArray} {pc nL : Nat} {ls : Array Slot} {rest : List Value} {A : Nat → Prop} {G : gG} {own nm : String}
theorem g_topi {x y : Int32} (h : x = y) (k : W p l e R s m args below meth c H locs cells slots Z (F0 m pc ls (.int y :: rest))) : W p l e R s m args below meth c H locs cells slots Z (F0 m pc ls (.int x :: rest)) := h ▸ k
theorem g_topl {x y : Int64} (h : x = y) (k : W p l e R s m args below meth c H locs cells slots Z (F0 m pc ls (.long y :: rest))) : W p l e R s m args below meth c H locs cells slots Z (F0 m pc ls (.long x :: rest)) := h ▸ k
theorem g_reti (hC : gC G p m c cc nL s args own meth (some .int) nm) (hs : s.heap = H) {v r : Int32} (hv : v = r) (hdg : decode cc pc = .ok (.ireturn, 1)) : W p l e R s m args below meth c H [] cells slots (MQ below (gQp (some (.int r))) args s cells slots (fun _ => False)) (F0 m pc ls [.int v]) := by
  subst hv
  exact W.iret hC.1.1 hC.1.2.1 hC.2.2.1 (fun t ht _ => ⟨rfl, ht.trans hs.symm⟩) (fun q h => by cases h) hdg hC.2.2.2.1
theorem g_retz (hC : gC G p m c cc nL s args own meth (some .boolean) nm) (hs : s.heap = H) {v : Int32} {r : Bool} (hv : v = gb r) (hdg : decode cc pc = .ok (.ireturn, 1)) : W p l e R s m args below meth c H [] cells slots (MQ below (gQp (some (.int (gb r)))) args s cells slots (fun _ => False)) (F0 m pc ls [.int v]) := by
  subst hv
  exact W.zret hC.1.1 hC.1.2.1 hC.2.2.1 (gb_nar r) (fun t ht _ => ⟨rfl, ht.trans hs.symm⟩) (fun q h => by cases h) hdg hC.2.2.2.1
theorem g_retl (hC : gC G p m c cc nL s args own meth (some .long) nm) (hs : s.heap = H) {v r : Int64} (hv : v = r) (hdg : decode cc pc = .ok (.lreturn, 1)) : W p l e R s m args below meth c H [] cells slots (MQ below (gQp (some (.long r))) args s cells slots (fun _ => False)) (F0 m pc ls [.long v]) := by
  subst hv
  exact W.lret hC.1.1 hC.1.2.1 hC.2.2.1 (fun t ht _ => ⟨rfl, ht.trans hs.symm⟩) (fun q h => by cases h) hdg hC.2.2.2.1
theorem g_reta {C : String} (hC : gC G p m c cc nL s args own meth (some (.object C)) nm) (hs : s.heap = H) {v r : Value} (hv : v = r) (hr : v = .null ∨ ∃ a, v = .ref a) (hdg : decode cc pc = .ok (.areturn, 1)) : W p l e R s m args below meth c H [] cells slots (MQ below (gQp (some r)) args s cells slots (fun _ => False)) (F0 m pc ls [v]) := by
  subst hv
  exact W.aret hC.1.1 hC.1.2.1 hC.2.2.1 (Or.inl ⟨_, rfl⟩) hr (fun t ht _ => ⟨rfl, ht.trans hs.symm⟩) (fun q h => by cases h) hdg hC.2.2.2.1
theorem g_retci (hC : gC G p m c cc nL s args own meth (some .int) nm) (hS : va_S A s.heap H locs) {post : Option Value → Heap → Prop} {v : Int32} (hp : post (some (.int v)) H) (hdg : decode cc pc = .ok (.ireturn, 1)) : W p l e R s m args below meth c H locs cells slots (MQ below (gQc A post) args s cells slots A) (F0 m pc ls [.int v]) :=
  W.iret hC.1.1 hC.1.2.1 hC.2.2.1 (fun t ht _ => ⟨⟨_, rfl, by rw [ht]; exact hp⟩, hS.F ht⟩) hS.2.2 hdg hC.2.2.2.1
theorem g_retcz (hC : gC G p m c cc nL s args own meth (some .boolean) nm) (hS : va_S A s.heap H locs) {post : Option Value → Heap → Prop} {v : Int32} {b : Bool} (hv : v = gb b) (hp : post (some (.int (gb b))) H) (hdg : decode cc pc = .ok (.ireturn, 1)) : W p l e R s m args below meth c H locs cells slots (MQ below (gQc A post) args s cells slots A) (F0 m pc ls [.int v]) := by
  subst hv
  exact W.zret hC.1.1 hC.1.2.1 hC.2.2.1 (gb_nar b) (fun t ht _ => ⟨⟨_, rfl, by rw [ht]; exact hp⟩, hS.F ht⟩) hS.2.2 hdg hC.2.2.2.1
theorem g_retcl (hC : gC G p m c cc nL s args own meth (some .long) nm) (hS : va_S A s.heap H locs) {post : Option Value → Heap → Prop} {v : Int64} (hp : post (some (.long v)) H) (hdg : decode cc pc = .ok (.lreturn, 1)) : W p l e R s m args below meth c H locs cells slots (MQ below (gQc A post) args s cells slots A) (F0 m pc ls [.long v]) :=
  W.lret hC.1.1 hC.1.2.1 hC.2.2.1 (fun t ht _ => ⟨⟨_, rfl, by rw [ht]; exact hp⟩, hS.F ht⟩) hS.2.2 hdg hC.2.2.2.1
theorem g_retca {C : String} (hC : gC G p m c cc nL s args own meth (some (.object C)) nm) (hS : va_S A s.heap H locs) {post : Option Value → Heap → Prop} {v : Value} (hr : v = .null ∨ ∃ a, v = .ref a) (hp : post (some v) H) (hdg : decode cc pc = .ok (.areturn, 1)) : W p l e R s m args below meth c H locs cells slots (MQ below (gQc A post) args s cells slots A) (F0 m pc ls [v]) :=
  W.aret hC.1.1 hC.1.2.1 hC.2.2.1 (Or.inl ⟨_, rfl⟩) hr (fun t ht _ => ⟨⟨_, rfl, by rw [ht]; exact hp⟩, hS.F ht⟩) hS.2.2 hdg hC.2.2.2.1
theorem g_retcv (hC : gC G p m c cc nL s args own meth none nm) (hS : va_S A s.heap H locs) {post : Option Value → Heap → Prop} (hp : post none H) (hdg : decode cc pc = .ok (.return_, 1)) : W p l e R s m args below meth c H locs cells slots (MQ below (gQc A post) args s cells slots A) (F0 m pc ls []) :=
  W.vret hC.1.1 hC.1.2.1 hC.2.2.1 (fun t ht _ => ⟨⟨_, rfl, by rw [ht]; exact hp⟩, hS.F ht⟩) hS.2.2 hdg hC.2.2.2.1
end GH
/-! ===== bits of small numbers ===== -/
theorem g_bit {B k : Nat} (hB : B < 16) (hk : k < 4) : ((nI B >>> (nI k &&& 31)) &&& nI 1) = nI (if B.testBit k then 1 else 0) := by
  have h : ∀ B, B < 16 → ∀ k, k < 4 → ((nI B >>> (nI k &&& 31)) &&& nI 1) = nI (if B.testBit k then 1 else 0) := by decide +kernel
  exact h B hB k hk
theorem g_shl {k : Nat} (hk : k < 5) : (nI 1 <<< (nI k &&& 31)) = nI (2 ^ k) := by
  have h : ∀ k, k < 5 → (nI 1 <<< (nI k &&& 31)) = nI (2 ^ k) := by decide +kernel
  exact h k hk
theorem g_or {a b : Nat} (ha : a < 16) (hb : b < 16) : (nI a ||| nI b) = nI (a ||| b) := by
  have h : ∀ a, a < 16 → ∀ b, b < 16 → (nI a ||| nI b) = nI (a ||| b) := by decide +kernel
  exact h a ha b hb
theorem g_and {a b : Nat} (ha : a < 16) (hb : b < 16) : (nI a &&& nI b) = nI (a &&& b) := by
  have h : ∀ a, a < 16 → ∀ b, b < 16 → (nI a &&& nI b) = nI (a &&& b) := by decide +kernel
  exact h a ha b hb
theorem g_andn {a b : Nat} (ha : a < 16) (hb : b < 16) : (nI a &&& (nI b ^^^ (-1))) = nI (a &&& (15 ^^^ b)) := by
  have h : ∀ a, a < 16 → ∀ b, b < 16 → (nI a &&& (nI b ^^^ (-1))) = nI (a &&& (15 ^^^ b)) := by decide +kernel
  exact h a ha b hb
theorem nI_le0 {n : Nat} (h : n < 2 ^ 31) : nI n ≤ 0 ↔ n = 0 := by
  have := nI_leI h (show 0 < 2 ^ 31 by decide)
  rw [nI_0] at this
  rw [this]; omega
theorem nI_gt0 {n : Nat} (h : n < 2 ^ 31) : 0 < nI n ↔ 0 < n := by
  have := nI_ltI (show 0 < 2 ^ 31 by decide) h
  rw [nI_0] at this
  rw [this]
/-- an int that is none of a switch's cases -/
theorem g_out {x : Int32} {lo hi : Int} (h0 : lo = 0) (h : ¬ (0 ≤ x.toInt ∧ x.toInt ≤ hi)) : x.toInt < lo ∨ hi < x.toInt := by omega
end
section
/-! ===== how many parameters each method has ===== -/
theorem dd_X0_init : yX0_init.cls ≠ "java/lang/invoke/MethodHandle" ∧ yX0_init.cls ≠ "java/lang/invoke/VarHandle" ∧ (parseMethodDescriptor yX0_init.desc).map (fun d => d.parameters.length) = some 0 := by decide +kernel
theorem dd_X0_mixAt : yX0_mixAt.cls ≠ "java/lang/invoke/MethodHandle" ∧ yX0_mixAt.cls ≠ "java/lang/invoke/VarHandle" ∧ (parseMethodDescriptor yX0_mixAt.desc).map (fun d => d.parameters.length) = some 1 := by decide +kernel
theorem dd_X0_numberOf : yX0_numberOf.cls ≠ "java/lang/invoke/MethodHandle" ∧ yX0_numberOf.cls ≠ "java/lang/invoke/VarHandle" ∧ (parseMethodDescriptor yX0_numberOf.desc).map (fun d => d.parameters.length) = some 1 := by decide +kernel
theorem dd_X0_searchAll : yX0_searchAll.cls ≠ "java/lang/invoke/MethodHandle" ∧ yX0_searchAll.cls ≠ "java/lang/invoke/VarHandle" ∧ (parseMethodDescriptor yX0_searchAll.desc).map (fun d => d.parameters.length) = some 2 := by decide +kernel
theorem dd_X0_search : yX0_search.cls ≠ "java/lang/invoke/MethodHandle" ∧ yX0_search.cls ≠ "java/lang/invoke/VarHandle" ∧ (parseMethodDescriptor yX0_search.desc).map (fun d => d.parameters.length) = some 3 := by decide +kernel
theorem dd_X0_layGaps : yX0_layGaps.cls ≠ "java/lang/invoke/MethodHandle" ∧ yX0_layGaps.cls ≠ "java/lang/invoke/VarHandle" ∧ (parseMethodDescriptor yX0_layGaps.desc).map (fun d => d.parameters.length) = some 3 := by decide +kernel
theorem dd_X0_layLine : yX0_layLine.cls ≠ "java/lang/invoke/MethodHandle" ∧ yX0_layLine.cls ≠ "java/lang/invoke/VarHandle" ∧ (parseMethodDescriptor yX0_layLine.desc).map (fun d => d.parameters.length) = some 5 := by decide +kernel
theorem dd_X0_layParts : yX0_layParts.cls ≠ "java/lang/invoke/MethodHandle" ∧ yX0_layParts.cls ≠ "java/lang/invoke/VarHandle" ∧ (parseMethodDescriptor yX0_layParts.desc).map (fun d => d.parameters.length) = some 1 := by decide +kernel
theorem dd_X0_gapsWithout : yX0_gapsWithout.cls ≠ "java/lang/invoke/MethodHandle" ∧ yX0_gapsWithout.cls ≠ "java/lang/invoke/VarHandle" ∧ (parseMethodDescriptor yX0_gapsWithout.desc).map (fun d => d.parameters.length) = some 2 := by decide +kernel
theorem dd_X0_twoLines : yX0_twoLines.cls ≠ "java/lang/invoke/MethodHandle" ∧ yX0_twoLines.cls ≠ "java/lang/invoke/VarHandle" ∧ (parseMethodDescriptor yX0_twoLines.desc).map (fun d => d.parameters.length) = some 4 := by decide +kernel
theorem dd_X0_makePositive : yX0_makePositive.cls ≠ "java/lang/invoke/MethodHandle" ∧ yX0_makePositive.cls ≠ "java/lang/invoke/VarHandle" ∧ (parseMethodDescriptor yX0_makePositive.desc).map (fun d => d.parameters.length) = some 1 := by decide +kernel
theorem dd_X0_signOfFirst : yX0_signOfFirst.cls ≠ "java/lang/invoke/MethodHandle" ∧ yX0_signOfFirst.cls ≠ "java/lang/invoke/VarHandle" ∧ (parseMethodDescriptor yX0_signOfFirst.desc).map (fun d => d.parameters.length) = some 1 := by decide +kernel
theorem dd_X0_keepSpare : yX0_keepSpare.cls ≠ "java/lang/invoke/MethodHandle" ∧ yX0_keepSpare.cls ≠ "java/lang/invoke/VarHandle" ∧ (parseMethodDescriptor yX0_keepSpare.desc).map (fun d => d.parameters.length) = some 0 := by decide +kernel
theorem dd_X0_insertSpare : yX0_insertSpare.cls ≠ "java/lang/invoke/MethodHandle" ∧ yX0_insertSpare.cls ≠ "java/lang/invoke/VarHandle" ∧ (parseMethodDescriptor yX0_insertSpare.desc).map (fun d => d.parameters.length) = some 1 := by decide +kernel
theorem dd_X1_init : yX1_init.cls ≠ "java/lang/invoke/MethodHandle" ∧ yX1_init.cls ≠ "java/lang/invoke/VarHandle" ∧ (parseMethodDescriptor yX1_init.desc).map (fun d => d.parameters.length) = some 0 := by decide +kernel
theorem dd_X1_run : yX1_run.cls ≠ "java/lang/invoke/MethodHandle" ∧ yX1_run.cls ≠ "java/lang/invoke/VarHandle" ∧ (parseMethodDescriptor yX1_run.desc).map (fun d => d.parameters.length) = some 2 := by decide +kernel
theorem dd_X2_init : yX2_init.cls ≠ "java/lang/invoke/MethodHandle" ∧ yX2_init.cls ≠ "java/lang/invoke/VarHandle" ∧ (parseMethodDescriptor yX2_init.desc).map (fun d => d.parameters.length) = some 0 := by decide +kernel
theorem dd_X2_sumUp : yX2_sumUp.cls ≠ "java/lang/invoke/MethodHandle" ∧ yX2_sumUp.cls ≠ "java/lang/invoke/VarHandle" ∧ (parseMethodDescriptor yX2_sumUp.desc).map (fun d => d.parameters.length) = some 0 := by decide +kernel
theorem dd_X2_orderTo : yX2_orderTo.cls ≠ "java/lang/invoke/MethodHandle" ∧ yX2_orderTo.cls ≠ "java/lang/invoke/VarHandle" ∧ (parseMethodDescriptor yX2_orderTo.desc).map (fun d => d.parameters.length) = some 1 := by decide +kernel
theorem dd_X2_fits : yX2_fits.cls ≠ "java/lang/invoke/MethodHandle" ∧ yX2_fits.cls ≠ "java/lang/invoke/VarHandle" ∧ (parseMethodDescriptor yX2_fits.desc).map (fun d => d.parameters.length) = some 1 := by decide +kernel
theorem dd_X3_init : yX3_init.cls ≠ "java/lang/invoke/MethodHandle" ∧ yX3_init.cls ≠ "java/lang/invoke/VarHandle" ∧ (parseMethodDescriptor yX3_init.desc).map (fun d => d.parameters.length) = some 0 := by decide +kernel
theorem dd_X3_startAnew : yX3_startAnew.cls ≠ "java/lang/invoke/MethodHandle" ∧ yX3_startAnew.cls ≠ "java/lang/invoke/VarHandle" ∧ (parseMethodDescriptor yX3_startAnew.desc).map (fun d => d.parameters.length) = some 1 := by decide +kernel
theorem dd_X3_hasChoice : yX3_hasChoice.cls ≠ "java/lang/invoke/MethodHandle" ∧ yX3_hasChoice.cls ≠ "java/lang/invoke/VarHandle" ∧ (parseMethodDescriptor yX3_hasChoice.desc).map (fun d => d.parameters.length) = some 1 := by decide +kernel
theorem dd_X3_allBits : yX3_allBits.cls ≠ "java/lang/invoke/MethodHandle" ∧ yX3_allBits.cls ≠ "java/lang/invoke/VarHandle" ∧ (parseMethodDescriptor yX3_allBits.desc).map (fun d => d.parameters.length) = some 0 := by decide +kernel
theorem dd_X3_payFor : yX3_payFor.cls ≠ "java/lang/invoke/MethodHandle" ∧ yX3_payFor.cls ≠ "java/lang/invoke/VarHandle" ∧ (parseMethodDescriptor yX3_payFor.desc).map (fun d => d.parameters.length) = some 2 := by decide +kernel
theorem dd_X3_setPay : yX3_setPay.cls ≠ "java/lang/invoke/MethodHandle" ∧ yX3_setPay.cls ≠ "java/lang/invoke/VarHandle" ∧ (parseMethodDescriptor yX3_setPay.desc).map (fun d => d.parameters.length) = some 3 := by decide +kernel
theorem dd_X3_changeWeight : yX3_changeWeight.cls ≠ "java/lang/invoke/MethodHandle" ∧ yX3_changeWeight.cls ≠ "java/lang/invoke/VarHandle" ∧ (parseMethodDescriptor yX3_changeWeight.desc).map (fun d => d.parameters.length) = some 2 := by decide +kernel
theorem dd_X3_trayMix : yX3_trayMix.cls ≠ "java/lang/invoke/MethodHandle" ∧ yX3_trayMix.cls ≠ "java/lang/invoke/VarHandle" ∧ (parseMethodDescriptor yX3_trayMix.desc).map (fun d => d.parameters.length) = some 1 := by decide +kernel
theorem dd_X3_worthOf : yX3_worthOf.cls ≠ "java/lang/invoke/MethodHandle" ∧ yX3_worthOf.cls ≠ "java/lang/invoke/VarHandle" ∧ (parseMethodDescriptor yX3_worthOf.desc).map (fun d => d.parameters.length) = some 2 := by decide +kernel
theorem dd_X3_answersTo : yX3_answersTo.cls ≠ "java/lang/invoke/MethodHandle" ∧ yX3_answersTo.cls ≠ "java/lang/invoke/VarHandle" ∧ (parseMethodDescriptor yX3_answersTo.desc).map (fun d => d.parameters.length) = some 1 := by decide +kernel
theorem dd_X3_meanPart : yX3_meanPart.cls ≠ "java/lang/invoke/MethodHandle" ∧ yX3_meanPart.cls ≠ "java/lang/invoke/VarHandle" ∧ (parseMethodDescriptor yX3_meanPart.desc).map (fun d => d.parameters.length) = some 3 := by decide +kernel
theorem dd_X3_paysMore : yX3_paysMore.cls ≠ "java/lang/invoke/MethodHandle" ∧ yX3_paysMore.cls ≠ "java/lang/invoke/VarHandle" ∧ (parseMethodDescriptor yX3_paysMore.desc).map (fun d => d.parameters.length) = some 3 := by decide +kernel
theorem dd_X3_firstBetter : yX3_firstBetter.cls ≠ "java/lang/invoke/MethodHandle" ∧ yX3_firstBetter.cls ≠ "java/lang/invoke/VarHandle" ∧ (parseMethodDescriptor yX3_firstBetter.desc).map (fun d => d.parameters.length) = some 3 := by decide +kernel
theorem dd_X3_notWorse : yX3_notWorse.cls ≠ "java/lang/invoke/MethodHandle" ∧ yX3_notWorse.cls ≠ "java/lang/invoke/VarHandle" ∧ (parseMethodDescriptor yX3_notWorse.desc).map (fun d => d.parameters.length) = some 2 := by decide +kernel
theorem dd_X3_leastFor : yX3_leastFor.cls ≠ "java/lang/invoke/MethodHandle" ∧ yX3_leastFor.cls ≠ "java/lang/invoke/VarHandle" ∧ (parseMethodDescriptor yX3_leastFor.desc).map (fun d => d.parameters.length) = some 2 := by decide +kernel
theorem dd_X3_leastAgainst : yX3_leastAgainst.cls ≠ "java/lang/invoke/MethodHandle" ∧ yX3_leastAgainst.cls ≠ "java/lang/invoke/VarHandle" ∧ (parseMethodDescriptor yX3_leastAgainst.desc).map (fun d => d.parameters.length) = some 1 := by decide +kernel
theorem dd_X3_mostAgainst : yX3_mostAgainst.cls ≠ "java/lang/invoke/MethodHandle" ∧ yX3_mostAgainst.cls ≠ "java/lang/invoke/VarHandle" ∧ (parseMethodDescriptor yX3_mostAgainst.desc).map (fun d => d.parameters.length) = some 1 := by decide +kernel
theorem dd_X3_surePay : yX3_surePay.cls ≠ "java/lang/invoke/MethodHandle" ∧ yX3_surePay.cls ≠ "java/lang/invoke/VarHandle" ∧ (parseMethodDescriptor yX3_surePay.desc).map (fun d => d.parameters.length) = some 1 := by decide +kernel
theorem dd_X3_holdPay : yX3_holdPay.cls ≠ "java/lang/invoke/MethodHandle" ∧ yX3_holdPay.cls ≠ "java/lang/invoke/VarHandle" ∧ (parseMethodDescriptor yX3_holdPay.desc).map (fun d => d.parameters.length) = some 1 := by decide +kernel
theorem dd_X3_farthestPay : yX3_farthestPay.cls ≠ "java/lang/invoke/MethodHandle" ∧ yX3_farthestPay.cls ≠ "java/lang/invoke/VarHandle" ∧ (parseMethodDescriptor yX3_farthestPay.desc).map (fun d => d.parameters.length) = some 0 := by decide +kernel
theorem dd_X3_addAgainst : yX3_addAgainst.cls ≠ "java/lang/invoke/MethodHandle" ∧ yX3_addAgainst.cls ≠ "java/lang/invoke/VarHandle" ∧ (parseMethodDescriptor yX3_addAgainst.desc).map (fun d => d.parameters.length) = some 2 := by decide +kernel
theorem dd_X3_multiplyPays : yX3_multiplyPays.cls ≠ "java/lang/invoke/MethodHandle" ∧ yX3_multiplyPays.cls ≠ "java/lang/invoke/VarHandle" ∧ (parseMethodDescriptor yX3_multiplyPays.desc).map (fun d => d.parameters.length) = some 1 := by decide +kernel
theorem dd_X3_takesFrom : yX3_takesFrom.cls ≠ "java/lang/invoke/MethodHandle" ∧ yX3_takesFrom.cls ≠ "java/lang/invoke/VarHandle" ∧ (parseMethodDescriptor yX3_takesFrom.desc).map (fun d => d.parameters.length) = some 1 := by decide +kernel
theorem dd_X3_isLike : yX3_isLike.cls ≠ "java/lang/invoke/MethodHandle" ∧ yX3_isLike.cls ≠ "java/lang/invoke/VarHandle" ∧ (parseMethodDescriptor yX3_isLike.desc).map (fun d => d.parameters.length) = some 1 := by decide +kernel
theorem dd_X4_init : yX4_init.cls ≠ "java/lang/invoke/MethodHandle" ∧ yX4_init.cls ≠ "java/lang/invoke/VarHandle" ∧ (parseMethodDescriptor yX4_init.desc).map (fun d => d.parameters.length) = some 0 := by decide +kernel
theorem dd_X4_game : yX4_game.cls ≠ "java/lang/invoke/MethodHandle" ∧ yX4_game.cls ≠ "java/lang/invoke/VarHandle" ∧ (parseMethodDescriptor yX4_game.desc).map (fun d => d.parameters.length) = some 2 := by decide +kernel
theorem dd_X4_pay : yX4_pay.cls ≠ "java/lang/invoke/MethodHandle" ∧ yX4_pay.cls ≠ "java/lang/invoke/VarHandle" ∧ (parseMethodDescriptor yX4_pay.desc).map (fun d => d.parameters.length) = some 4 := by decide +kernel
theorem dd_X4_paid : yX4_paid.cls ≠ "java/lang/invoke/MethodHandle" ∧ yX4_paid.cls ≠ "java/lang/invoke/VarHandle" ∧ (parseMethodDescriptor yX4_paid.desc).map (fun d => d.parameters.length) = some 3 := by decide +kernel
theorem dd_X4_weight : yX4_weight.cls ≠ "java/lang/invoke/MethodHandle" ∧ yX4_weight.cls ≠ "java/lang/invoke/VarHandle" ∧ (parseMethodDescriptor yX4_weight.desc).map (fun d => d.parameters.length) = some 3 := by decide +kernel
theorem dd_X4_mean : yX4_mean.cls ≠ "java/lang/invoke/MethodHandle" ∧ yX4_mean.cls ≠ "java/lang/invoke/VarHandle" ∧ (parseMethodDescriptor yX4_mean.desc).map (fun d => d.parameters.length) = some 2 := by decide +kernel
theorem dd_X4_answers : yX4_answers.cls ≠ "java/lang/invoke/MethodHandle" ∧ yX4_answers.cls ≠ "java/lang/invoke/VarHandle" ∧ (parseMethodDescriptor yX4_answers.desc).map (fun d => d.parameters.length) = some 1 := by decide +kernel
theorem dd_X4_is : yX4_is.cls ≠ "java/lang/invoke/MethodHandle" ∧ yX4_is.cls ≠ "java/lang/invoke/VarHandle" ∧ (parseMethodDescriptor yX4_is.desc).map (fun d => d.parameters.length) = some 0 := by decide +kernel
theorem dd_X4_why : yX4_why.cls ≠ "java/lang/invoke/MethodHandle" ∧ yX4_why.cls ≠ "java/lang/invoke/VarHandle" ∧ (parseMethodDescriptor yX4_why.desc).map (fun d => d.parameters.length) = some 0 := by decide +kernel
theorem dd_X4_worse : yX4_worse.cls ≠ "java/lang/invoke/MethodHandle" ∧ yX4_worse.cls ≠ "java/lang/invoke/VarHandle" ∧ (parseMethodDescriptor yX4_worse.desc).map (fun d => d.parameters.length) = some 2 := by decide +kernel
theorem dd_X4_left : yX4_left.cls ≠ "java/lang/invoke/MethodHandle" ∧ yX4_left.cls ≠ "java/lang/invoke/VarHandle" ∧ (parseMethodDescriptor yX4_left.desc).map (fun d => d.parameters.length) = some 1 := by decide +kernel
theorem dd_X4_times : yX4_times.cls ≠ "java/lang/invoke/MethodHandle" ∧ yX4_times.cls ≠ "java/lang/invoke/VarHandle" ∧ (parseMethodDescriptor yX4_times.desc).map (fun d => d.parameters.length) = some 0 := by decide +kernel
theorem dd_X4_sure : yX4_sure.cls ≠ "java/lang/invoke/MethodHandle" ∧ yX4_sure.cls ≠ "java/lang/invoke/VarHandle" ∧ (parseMethodDescriptor yX4_sure.desc).map (fun d => d.parameters.length) = some 1 := by decide +kernel
theorem dd_X4_hold : yX4_hold.cls ≠ "java/lang/invoke/MethodHandle" ∧ yX4_hold.cls ≠ "java/lang/invoke/VarHandle" ∧ (parseMethodDescriptor yX4_hold.desc).map (fun d => d.parameters.length) = some 1 := by decide +kernel
theorem dd_X4_corners : yX4_corners.cls ≠ "java/lang/invoke/MethodHandle" ∧ yX4_corners.cls ≠ "java/lang/invoke/VarHandle" ∧ (parseMethodDescriptor yX4_corners.desc).map (fun d => d.parameters.length) = some 1 := by decide +kernel
theorem dd_X4_corner : yX4_corner.cls ≠ "java/lang/invoke/MethodHandle" ∧ yX4_corner.cls ≠ "java/lang/invoke/VarHandle" ∧ (parseMethodDescriptor yX4_corner.desc).map (fun d => d.parameters.length) = some 4 := by decide +kernel
theorem dd_X4_balances : yX4_balances.cls ≠ "java/lang/invoke/MethodHandle" ∧ yX4_balances.cls ≠ "java/lang/invoke/VarHandle" ∧ (parseMethodDescriptor yX4_balances.desc).map (fun d => d.parameters.length) = some 0 := by decide +kernel
theorem dd_X4_balance : yX4_balance.cls ≠ "java/lang/invoke/MethodHandle" ∧ yX4_balance.cls ≠ "java/lang/invoke/VarHandle" ∧ (parseMethodDescriptor yX4_balance.desc).map (fun d => d.parameters.length) = some 2 := by decide +kernel
theorem dd_X4_find : yX4_find.cls ≠ "java/lang/invoke/MethodHandle" ∧ yX4_find.cls ≠ "java/lang/invoke/VarHandle" ∧ (parseMethodDescriptor yX4_find.desc).map (fun d => d.parameters.length) = some 0 := by decide +kernel
theorem dd_X4_turn : yX4_turn.cls ≠ "java/lang/invoke/MethodHandle" ∧ yX4_turn.cls ≠ "java/lang/invoke/VarHandle" ∧ (parseMethodDescriptor yX4_turn.desc).map (fun d => d.parameters.length) = some 0 := by decide +kernel
theorem dd_X4_raise : yX4_raise.cls ≠ "java/lang/invoke/MethodHandle" ∧ yX4_raise.cls ≠ "java/lang/invoke/VarHandle" ∧ (parseMethodDescriptor yX4_raise.desc).map (fun d => d.parameters.length) = some 3 := by decide +kernel
theorem dd_X4_scale : yX4_scale.cls ≠ "java/lang/invoke/MethodHandle" ∧ yX4_scale.cls ≠ "java/lang/invoke/VarHandle" ∧ (parseMethodDescriptor yX4_scale.desc).map (fun d => d.parameters.length) = some 2 := by decide +kernel
theorem dd_X4_status : yX4_status.cls ≠ "java/lang/invoke/MethodHandle" ∧ yX4_status.cls ≠ "java/lang/invoke/VarHandle" ∧ (parseMethodDescriptor yX4_status.desc).map (fun d => d.parameters.length) = some 1 := by decide +kernel
theorem dd_X4_refusalsCounted : yX4_refusalsCounted.cls ≠ "java/lang/invoke/MethodHandle" ∧ yX4_refusalsCounted.cls ≠ "java/lang/invoke/VarHandle" ∧ (parseMethodDescriptor yX4_refusalsCounted.desc).map (fun d => d.parameters.length) = some 1 := by decide +kernel
theorem dd_X4_refuse : yX4_refuse.cls ≠ "java/lang/invoke/MethodHandle" ∧ yX4_refuse.cls ≠ "java/lang/invoke/VarHandle" ∧ (parseMethodDescriptor yX4_refuse.desc).map (fun d => d.parameters.length) = some 1 := by decide +kernel
theorem dd_X4_refuseAmongPays : yX4_refuseAmongPays.cls ≠ "java/lang/invoke/MethodHandle" ∧ yX4_refuseAmongPays.cls ≠ "java/lang/invoke/VarHandle" ∧ (parseMethodDescriptor yX4_refuseAmongPays.desc).map (fun d => d.parameters.length) = some 1 := by decide +kernel
theorem dd_X4_refuseAmongLongs : yX4_refuseAmongLongs.cls ≠ "java/lang/invoke/MethodHandle" ∧ yX4_refuseAmongLongs.cls ≠ "java/lang/invoke/VarHandle" ∧ (parseMethodDescriptor yX4_refuseAmongLongs.desc).map (fun d => d.parameters.length) = some 1 := by decide +kernel
theorem dd_X4_isWho : yX4_isWho.cls ≠ "java/lang/invoke/MethodHandle" ∧ yX4_isWho.cls ≠ "java/lang/invoke/VarHandle" ∧ (parseMethodDescriptor yX4_isWho.desc).map (fun d => d.parameters.length) = some 1 := by decide +kernel
theorem dd_X4_isPlace : yX4_isPlace.cls ≠ "java/lang/invoke/MethodHandle" ∧ yX4_isPlace.cls ≠ "java/lang/invoke/VarHandle" ∧ (parseMethodDescriptor yX4_isPlace.desc).map (fun d => d.parameters.length) = some 3 := by decide +kernel
theorem dd_X4_player : yX4_player.cls ≠ "java/lang/invoke/MethodHandle" ∧ yX4_player.cls ≠ "java/lang/invoke/VarHandle" ∧ (parseMethodDescriptor yX4_player.desc).map (fun d => d.parameters.length) = some 1 := by decide +kernel
theorem dd_X4_trayOf : yX4_trayOf.cls ≠ "java/lang/invoke/MethodHandle" ∧ yX4_trayOf.cls ≠ "java/lang/invoke/VarHandle" ∧ (parseMethodDescriptor yX4_trayOf.desc).map (fun d => d.parameters.length) = some 1 := by decide +kernel
theorem dd_X4_knowCorners : yX4_knowCorners.cls ≠ "java/lang/invoke/MethodHandle" ∧ yX4_knowCorners.cls ≠ "java/lang/invoke/VarHandle" ∧ (parseMethodDescriptor yX4_knowCorners.desc).map (fun d => d.parameters.length) = some 0 := by decide +kernel
theorem dd_X4_balancesBefore : yX4_balancesBefore.cls ≠ "java/lang/invoke/MethodHandle" ∧ yX4_balancesBefore.cls ≠ "java/lang/invoke/VarHandle" ∧ (parseMethodDescriptor yX4_balancesBefore.desc).map (fun d => d.parameters.length) = some 2 := by decide +kernel
theorem dd_X4_balancesOf : yX4_balancesOf.cls ≠ "java/lang/invoke/MethodHandle" ∧ yX4_balancesOf.cls ≠ "java/lang/invoke/VarHandle" ∧ (parseMethodDescriptor yX4_balancesOf.desc).map (fun d => d.parameters.length) = some 2 := by decide +kernel
theorem dd_X4_pairOf : yX4_pairOf.cls ≠ "java/lang/invoke/MethodHandle" ∧ yX4_pairOf.cls ≠ "java/lang/invoke/VarHandle" ∧ (parseMethodDescriptor yX4_pairOf.desc).map (fun d => d.parameters.length) = some 1 := by decide +kernel
theorem dd_X4_kindOf : yX4_kindOf.cls ≠ "java/lang/invoke/MethodHandle" ∧ yX4_kindOf.cls ≠ "java/lang/invoke/VarHandle" ∧ (parseMethodDescriptor yX4_kindOf.desc).map (fun d => d.parameters.length) = some 2 := by decide +kernel
theorem dd_X4_hasBit : yX4_hasBit.cls ≠ "java/lang/invoke/MethodHandle" ∧ yX4_hasBit.cls ≠ "java/lang/invoke/VarHandle" ∧ (parseMethodDescriptor yX4_hasBit.desc).map (fun d => d.parameters.length) = some 2 := by decide +kernel
theorem dd_X4_firstOf : yX4_firstOf.cls ≠ "java/lang/invoke/MethodHandle" ∧ yX4_firstOf.cls ≠ "java/lang/invoke/VarHandle" ∧ (parseMethodDescriptor yX4_firstOf.desc).map (fun d => d.parameters.length) = some 1 := by decide +kernel
theorem dd_X4_lowest : yX4_lowest.cls ≠ "java/lang/invoke/MethodHandle" ∧ yX4_lowest.cls ≠ "java/lang/invoke/VarHandle" ∧ (parseMethodDescriptor yX4_lowest.desc).map (fun d => d.parameters.length) = some 3 := by decide +kernel
theorem dd_X4_commonFactor : yX4_commonFactor.cls ≠ "java/lang/invoke/MethodHandle" ∧ yX4_commonFactor.cls ≠ "java/lang/invoke/VarHandle" ∧ (parseMethodDescriptor yX4_commonFactor.desc).map (fun d => d.parameters.length) = some 2 := by decide +kernel
theorem dd_X5_init : yX5_init.cls ≠ "java/lang/invoke/MethodHandle" ∧ yX5_init.cls ≠ "java/lang/invoke/VarHandle" ∧ (parseMethodDescriptor yX5_init.desc).map (fun d => d.parameters.length) = some 0 := by decide +kernel
theorem dd_X5_in : yX5_in.cls ≠ "java/lang/invoke/MethodHandle" ∧ yX5_in.cls ≠ "java/lang/invoke/VarHandle" ∧ (parseMethodDescriptor yX5_in.desc).map (fun d => d.parameters.length) = some 3 := by decide +kernel
theorem dd_X5_refuse : yX5_refuse.cls ≠ "java/lang/invoke/MethodHandle" ∧ yX5_refuse.cls ≠ "java/lang/invoke/VarHandle" ∧ (parseMethodDescriptor yX5_refuse.desc).map (fun d => d.parameters.length) = some 1 := by decide +kernel
theorem dd_X5_refuseBig : yX5_refuseBig.cls ≠ "java/lang/invoke/MethodHandle" ∧ yX5_refuseBig.cls ≠ "java/lang/invoke/VarHandle" ∧ (parseMethodDescriptor yX5_refuseBig.desc).map (fun d => d.parameters.length) = some 1 := by decide +kernel
theorem dd_X5_refuseGreat : yX5_refuseGreat.cls ≠ "java/lang/invoke/MethodHandle" ∧ yX5_refuseGreat.cls ≠ "java/lang/invoke/VarHandle" ∧ (parseMethodDescriptor yX5_refuseGreat.desc).map (fun d => d.parameters.length) = some 1 := by decide +kernel
theorem dd_X5_isWho : yX5_isWho.cls ≠ "java/lang/invoke/MethodHandle" ∧ yX5_isWho.cls ≠ "java/lang/invoke/VarHandle" ∧ (parseMethodDescriptor yX5_isWho.desc).map (fun d => d.parameters.length) = some 1 := by decide +kernel
theorem dd_X5_isChoice : yX5_isChoice.cls ≠ "java/lang/invoke/MethodHandle" ∧ yX5_isChoice.cls ≠ "java/lang/invoke/VarHandle" ∧ (parseMethodDescriptor yX5_isChoice.desc).map (fun d => d.parameters.length) = some 2 := by decide +kernel
theorem dd_X5_get : yX5_get.cls ≠ "java/lang/invoke/MethodHandle" ∧ yX5_get.cls ≠ "java/lang/invoke/VarHandle" ∧ (parseMethodDescriptor yX5_get.desc).map (fun d => d.parameters.length) = some 3 := by decide +kernel
theorem dd_X5_game : yX5_game.cls ≠ "java/lang/invoke/MethodHandle" ∧ yX5_game.cls ≠ "java/lang/invoke/VarHandle" ∧ (parseMethodDescriptor yX5_game.desc).map (fun d => d.parameters.length) = some 2 := by decide +kernel
theorem dd_X5_pay : yX5_pay.cls ≠ "java/lang/invoke/MethodHandle" ∧ yX5_pay.cls ≠ "java/lang/invoke/VarHandle" ∧ (parseMethodDescriptor yX5_pay.desc).map (fun d => d.parameters.length) = some 4 := by decide +kernel
theorem dd_X5_paid : yX5_paid.cls ≠ "java/lang/invoke/MethodHandle" ∧ yX5_paid.cls ≠ "java/lang/invoke/VarHandle" ∧ (parseMethodDescriptor yX5_paid.desc).map (fun d => d.parameters.length) = some 3 := by decide +kernel
theorem dd_X5_weight : yX5_weight.cls ≠ "java/lang/invoke/MethodHandle" ∧ yX5_weight.cls ≠ "java/lang/invoke/VarHandle" ∧ (parseMethodDescriptor yX5_weight.desc).map (fun d => d.parameters.length) = some 3 := by decide +kernel
theorem dd_X5_sumOf : yX5_sumOf.cls ≠ "java/lang/invoke/MethodHandle" ∧ yX5_sumOf.cls ≠ "java/lang/invoke/VarHandle" ∧ (parseMethodDescriptor yX5_sumOf.desc).map (fun d => d.parameters.length) = some 1 := by decide +kernel
theorem dd_X5_common : yX5_common.cls ≠ "java/lang/invoke/MethodHandle" ∧ yX5_common.cls ≠ "java/lang/invoke/VarHandle" ∧ (parseMethodDescriptor yX5_common.desc).map (fun d => d.parameters.length) = some 2 := by decide +kernel
theorem dd_X5_meanOf : yX5_meanOf.cls ≠ "java/lang/invoke/MethodHandle" ∧ yX5_meanOf.cls ≠ "java/lang/invoke/VarHandle" ∧ (parseMethodDescriptor yX5_meanOf.desc).map (fun d => d.parameters.length) = some 5 := by decide +kernel
theorem dd_X5_showTray : yX5_showTray.cls ≠ "java/lang/invoke/MethodHandle" ∧ yX5_showTray.cls ≠ "java/lang/invoke/VarHandle" ∧ (parseMethodDescriptor yX5_showTray.desc).map (fun d => d.parameters.length) = some 0 := by decide +kernel
theorem dd_X5_mean : yX5_mean.cls ≠ "java/lang/invoke/MethodHandle" ∧ yX5_mean.cls ≠ "java/lang/invoke/VarHandle" ∧ (parseMethodDescriptor yX5_mean.desc).map (fun d => d.parameters.length) = some 2 := by decide +kernel
theorem dd_X5_answersTo : yX5_answersTo.cls ≠ "java/lang/invoke/MethodHandle" ∧ yX5_answersTo.cls ≠ "java/lang/invoke/VarHandle" ∧ (parseMethodDescriptor yX5_answersTo.desc).map (fun d => d.parameters.length) = some 3 := by decide +kernel
theorem dd_X5_trayAnswers : yX5_trayAnswers.cls ≠ "java/lang/invoke/MethodHandle" ∧ yX5_trayAnswers.cls ≠ "java/lang/invoke/VarHandle" ∧ (parseMethodDescriptor yX5_trayAnswers.desc).map (fun d => d.parameters.length) = some 1 := by decide +kernel
theorem dd_X5_answers : yX5_answers.cls ≠ "java/lang/invoke/MethodHandle" ∧ yX5_answers.cls ≠ "java/lang/invoke/VarHandle" ∧ (parseMethodDescriptor yX5_answers.desc).map (fun d => d.parameters.length) = some 1 := by decide +kernel
theorem dd_X5_whyNot : yX5_whyNot.cls ≠ "java/lang/invoke/MethodHandle" ∧ yX5_whyNot.cls ≠ "java/lang/invoke/VarHandle" ∧ (parseMethodDescriptor yX5_whyNot.desc).map (fun d => d.parameters.length) = some 0 := by decide +kernel
theorem dd_X5_is : yX5_is.cls ≠ "java/lang/invoke/MethodHandle" ∧ yX5_is.cls ≠ "java/lang/invoke/VarHandle" ∧ (parseMethodDescriptor yX5_is.desc).map (fun d => d.parameters.length) = some 0 := by decide +kernel
theorem dd_X5_why : yX5_why.cls ≠ "java/lang/invoke/MethodHandle" ∧ yX5_why.cls ≠ "java/lang/invoke/VarHandle" ∧ (parseMethodDescriptor yX5_why.desc).map (fun d => d.parameters.length) = some 0 := by decide +kernel
theorem dd_X5_worseBy : yX5_worseBy.cls ≠ "java/lang/invoke/MethodHandle" ∧ yX5_worseBy.cls ≠ "java/lang/invoke/VarHandle" ∧ (parseMethodDescriptor yX5_worseBy.desc).map (fun d => d.parameters.length) = some 4 := by decide +kernel
theorem dd_X5_worse : yX5_worse.cls ≠ "java/lang/invoke/MethodHandle" ∧ yX5_worse.cls ≠ "java/lang/invoke/VarHandle" ∧ (parseMethodDescriptor yX5_worse.desc).map (fun d => d.parameters.length) = some 2 := by decide +kernel
theorem dd_X5_drop : yX5_drop.cls ≠ "java/lang/invoke/MethodHandle" ∧ yX5_drop.cls ≠ "java/lang/invoke/VarHandle" ∧ (parseMethodDescriptor yX5_drop.desc).map (fun d => d.parameters.length) = some 0 := by decide +kernel
theorem dd_X5_left : yX5_left.cls ≠ "java/lang/invoke/MethodHandle" ∧ yX5_left.cls ≠ "java/lang/invoke/VarHandle" ∧ (parseMethodDescriptor yX5_left.desc).map (fun d => d.parameters.length) = some 1 := by decide +kernel
theorem dd_X5_times : yX5_times.cls ≠ "java/lang/invoke/MethodHandle" ∧ yX5_times.cls ≠ "java/lang/invoke/VarHandle" ∧ (parseMethodDescriptor yX5_times.desc).map (fun d => d.parameters.length) = some 0 := by decide +kernel
theorem dd_X5_sure : yX5_sure.cls ≠ "java/lang/invoke/MethodHandle" ∧ yX5_sure.cls ≠ "java/lang/invoke/VarHandle" ∧ (parseMethodDescriptor yX5_sure.desc).map (fun d => d.parameters.length) = some 1 := by decide +kernel
theorem dd_X5_hold : yX5_hold.cls ≠ "java/lang/invoke/MethodHandle" ∧ yX5_hold.cls ≠ "java/lang/invoke/VarHandle" ∧ (parseMethodDescriptor yX5_hold.desc).map (fun d => d.parameters.length) = some 1 := by decide +kernel
theorem dd_X5_manyIn : yX5_manyIn.cls ≠ "java/lang/invoke/MethodHandle" ∧ yX5_manyIn.cls ≠ "java/lang/invoke/VarHandle" ∧ (parseMethodDescriptor yX5_manyIn.desc).map (fun d => d.parameters.length) = some 1 := by decide +kernel
theorem dd_X5_listed : yX5_listed.cls ≠ "java/lang/invoke/MethodHandle" ∧ yX5_listed.cls ≠ "java/lang/invoke/VarHandle" ∧ (parseMethodDescriptor yX5_listed.desc).map (fun d => d.parameters.length) = some 2 := by decide +kernel
theorem dd_X5_without : yX5_without.cls ≠ "java/lang/invoke/MethodHandle" ∧ yX5_without.cls ≠ "java/lang/invoke/VarHandle" ∧ (parseMethodDescriptor yX5_without.desc).map (fun d => d.parameters.length) = some 3 := by decide +kernel
theorem dd_X5_solve : yX5_solve.cls ≠ "java/lang/invoke/MethodHandle" ∧ yX5_solve.cls ≠ "java/lang/invoke/VarHandle" ∧ (parseMethodDescriptor yX5_solve.desc).map (fun d => d.parameters.length) = some 2 := by decide +kernel
theorem dd_X5_ahead : yX5_ahead.cls ≠ "java/lang/invoke/MethodHandle" ∧ yX5_ahead.cls ≠ "java/lang/invoke/VarHandle" ∧ (parseMethodDescriptor yX5_ahead.desc).map (fun d => d.parameters.length) = some 1 := by decide +kernel
theorem dd_X5_put : yX5_put.cls ≠ "java/lang/invoke/MethodHandle" ∧ yX5_put.cls ≠ "java/lang/invoke/VarHandle" ∧ (parseMethodDescriptor yX5_put.desc).map (fun d => d.parameters.length) = some 3 := by decide +kernel
theorem dd_X5_findCorners : yX5_findCorners.cls ≠ "java/lang/invoke/MethodHandle" ∧ yX5_findCorners.cls ≠ "java/lang/invoke/VarHandle" ∧ (parseMethodDescriptor yX5_findCorners.desc).map (fun d => d.parameters.length) = some 1 := by decide +kernel
theorem dd_X5_corners : yX5_corners.cls ≠ "java/lang/invoke/MethodHandle" ∧ yX5_corners.cls ≠ "java/lang/invoke/VarHandle" ∧ (parseMethodDescriptor yX5_corners.desc).map (fun d => d.parameters.length) = some 1 := by decide +kernel
theorem dd_X5_corner : yX5_corner.cls ≠ "java/lang/invoke/MethodHandle" ∧ yX5_corner.cls ≠ "java/lang/invoke/VarHandle" ∧ (parseMethodDescriptor yX5_corner.desc).map (fun d => d.parameters.length) = some 4 := by decide +kernel
theorem dd_X5_isBalance : yX5_isBalance.cls ≠ "java/lang/invoke/MethodHandle" ∧ yX5_isBalance.cls ≠ "java/lang/invoke/VarHandle" ∧ (parseMethodDescriptor yX5_isBalance.desc).map (fun d => d.parameters.length) = some 2 := by decide +kernel
theorem dd_X5_balances : yX5_balances.cls ≠ "java/lang/invoke/MethodHandle" ∧ yX5_balances.cls ≠ "java/lang/invoke/VarHandle" ∧ (parseMethodDescriptor yX5_balances.desc).map (fun d => d.parameters.length) = some 0 := by decide +kernel
theorem dd_X5_kindOf : yX5_kindOf.cls ≠ "java/lang/invoke/MethodHandle" ∧ yX5_kindOf.cls ≠ "java/lang/invoke/VarHandle" ∧ (parseMethodDescriptor yX5_kindOf.desc).map (fun d => d.parameters.length) = some 2 := by decide +kernel
theorem dd_X5_told : yX5_told.cls ≠ "java/lang/invoke/MethodHandle" ∧ yX5_told.cls ≠ "java/lang/invoke/VarHandle" ∧ (parseMethodDescriptor yX5_told.desc).map (fun d => d.parameters.length) = some 3 := by decide +kernel
theorem dd_X5_balance : yX5_balance.cls ≠ "java/lang/invoke/MethodHandle" ∧ yX5_balance.cls ≠ "java/lang/invoke/VarHandle" ∧ (parseMethodDescriptor yX5_balance.desc).map (fun d => d.parameters.length) = some 2 := by decide +kernel
theorem dd_X5_cornerOfTray : yX5_cornerOfTray.cls ≠ "java/lang/invoke/MethodHandle" ∧ yX5_cornerOfTray.cls ≠ "java/lang/invoke/VarHandle" ∧ (parseMethodDescriptor yX5_cornerOfTray.desc).map (fun d => d.parameters.length) = some 1 := by decide +kernel
theorem dd_X5_find : yX5_find.cls ≠ "java/lang/invoke/MethodHandle" ∧ yX5_find.cls ≠ "java/lang/invoke/VarHandle" ∧ (parseMethodDescriptor yX5_find.desc).map (fun d => d.parameters.length) = some 0 := by decide +kernel
theorem dd_X5_turn : yX5_turn.cls ≠ "java/lang/invoke/MethodHandle" ∧ yX5_turn.cls ≠ "java/lang/invoke/VarHandle" ∧ (parseMethodDescriptor yX5_turn.desc).map (fun d => d.parameters.length) = some 0 := by decide +kernel
theorem dd_X5_placeOf : yX5_placeOf.cls ≠ "java/lang/invoke/MethodHandle" ∧ yX5_placeOf.cls ≠ "java/lang/invoke/VarHandle" ∧ (parseMethodDescriptor yX5_placeOf.desc).map (fun d => d.parameters.length) = some 3 := by decide +kernel
theorem dd_X5_raise : yX5_raise.cls ≠ "java/lang/invoke/MethodHandle" ∧ yX5_raise.cls ≠ "java/lang/invoke/VarHandle" ∧ (parseMethodDescriptor yX5_raise.desc).map (fun d => d.parameters.length) = some 3 := by decide +kernel
theorem dd_X5_scale : yX5_scale.cls ≠ "java/lang/invoke/MethodHandle" ∧ yX5_scale.cls ≠ "java/lang/invoke/VarHandle" ∧ (parseMethodDescriptor yX5_scale.desc).map (fun d => d.parameters.length) = some 2 := by decide +kernel
theorem dd_X5_status : yX5_status.cls ≠ "java/lang/invoke/MethodHandle" ∧ yX5_status.cls ≠ "java/lang/invoke/VarHandle" ∧ (parseMethodDescriptor yX5_status.desc).map (fun d => d.parameters.length) = some 1 := by decide +kernel
theorem dd_L_law : yL_law.cls ≠ "java/lang/invoke/MethodHandle" ∧ yL_law.cls ≠ "java/lang/invoke/VarHandle" ∧ (parseMethodDescriptor yL_law.desc).map (fun d => d.parameters.length) = some 1 := by decide +kernel
end
section
/-! ===== players and mixes in the memory ===== -/
/-- the cells that a method may change: those of its memory, and new ones -/
def gF (T : gTy) (H : Heap) : Nat → Prop := fun q => (T q).1 ≠ 0 ∨ H.size ≤ q
/-- a Player at b with ch choices: corners at b + 1, pays at b + 9, weights at b + 10, tray at b + 11 -/
def isPl (T : gTy) (O : gO) (b ch : Nat) : Prop := T b = (1, 3) ∧ O b 0 = .int (nI ch) ∧ O b 1 = .ref (b + 1) ∧ O b 2 = .ref (b + 9) ∧ O b 3 = .ref (b + 10) ∧ O b 4 = .ref (b + 11) ∧ T (b + 9) = (2, 16) ∧ T (b + 10) = (2, 4) ∧ 1 ≤ ch ∧ ch ≤ 4
/-- a Mix at a, its parts behind it -/
def isMx (T : gTy) (O : gO) (a : Nat) : Prop := T a = (1, 2) ∧ O a 0 = .ref (a + 1) ∧ T (a + 1) = (3, 4)
/-- its total, used bits, answers -/
def mxV (O : gO) (a : Nat) (t : Int64) (u n : Nat) : Prop := O a 1 = .long t ∧ O a 2 = .int (nI u) ∧ O a 3 = .int (nI n)
/-- what a choice is worth against a mix: sums over the other's choices -/
def wsum (P : Nat → Int32) (X : Nat → Int64) (own : Nat) : Nat → Int64
  | 0 => 0
  | k + 1 => wsum P X own k + X k * (P (own * 4 + k)).toInt64
/-- the greatest worth so far, and the choices that have it -/
def ansS (w mo : Int64) (be i : Nat) : Int64 × Nat := if mo < w then (w, 2 ^ i) else if w = mo then (mo, be ||| 2 ^ i) else (mo, be)
def ansL (f : Nat → Int64) : Nat → Int64 × Nat
  | 0 => (f 0, 1)
  | k + 1 => ansS (f (k + 1)) (ansL f k).1 (ansL f k).2 (k + 1)
theorem ansS_lt {w mo : Int64} {be i : Nat} (h : be < 2 ^ i) : (ansS w mo be i).2 < 2 ^ (i + 1) := by
  have h1 : 2 ^ i < 2 ^ (i + 1) := Nat.pow_lt_pow_right (by decide) (Nat.lt_succ_self i)
  unfold ansS
  split
  · exact h1
  · split
    · exact Nat.or_lt_two_pow (Nat.lt_trans h h1) h1
    · exact Nat.lt_trans h h1
theorem ansL_lt (f : Nat → Int64) : ∀ k, (ansL f k).2 < 2 ^ (k + 1)
  | 0 => by show 1 < 2; decide
  | k + 1 => ansS_lt (ansL_lt f k)
theorem ansL_lt16 (f : Nat → Int64) {k : Nat} (h : k < 4) : (ansL f k).2 < 16 := Nat.lt_of_lt_of_le (ansL_lt f k) (by
  have : ∀ k, k < 4 → 2 ^ (k + 1) ≤ 16 := by decide
  exact this k h)
/-- the choices' answers to a mix -/
def ansB (P : Nat → Int32) (X : Nat → Int64) (ch : Nat) : Nat := (ansL (fun o => wsum P X o 4) (ch - 1)).2
theorem ansB_lt {P : Nat → Int32} {X : Nat → Int64} {ch : Nat} (h : ch ≤ 4) : ansB P X ch < 16 := ansL_lt16 _ (by omega)
/-- a pays more than c against each of the others' B -/
def pMore (P : Nat → Int32) (a c B : Nat) : Bool := (List.range 4).all (fun k => !B.testBit k || decide (P (c * 4 + k) < P (a * 4 + k)))
theorem pMore_iff {P : Nat → Int32} {a c B : Nat} : pMore P a c B = true ↔ ∀ k, k < 4 → B.testBit k = true → P (c * 4 + k) < P (a * 4 + k) := by
  simp only [pMore, List.all_eq_true, List.mem_range, Bool.or_eq_true, Bool.not_eq_true', decide_eq_true_eq]
  constructor
  · intro h k hk hb
    rcases h k hk with h | h
    · rw [hb] at h; cases h
    · exact h
  · intro h k hk
    by_cases hb : B.testBit k = true
    · exact Or.inr (h k hk hb)
    · exact Or.inl (by simpa using hb)
/-- a choice that is there -/
def inR (x : Int32) (n : Nat) : Bool := decide (0 ≤ x) && decide (x < nI n)
theorem inR_f1 {x : Int32} {n : Nat} (h : x < 0) : inR x n = false := by
  simp only [inR, Bool.and_eq_false_iff, decide_eq_false_iff_not, Int32.le_iff_toInt_le, Int32.lt_iff_toInt_lt] at *
  omega
theorem inR_f2 {x : Int32} {n : Nat} (h : nI n ≤ x) : inR x n = false := by
  simp only [inR, Bool.and_eq_false_iff, decide_eq_false_iff_not, Int32.le_iff_toInt_le, Int32.lt_iff_toInt_lt] at *
  omega
theorem inR_t {x : Int32} {n : Nat} (h : ¬ x < 0) (h2 : ¬ nI n ≤ x) : inR x n = true := by
  simp only [inR, Bool.and_eq_true, decide_eq_true_eq, Int32.le_iff_toInt_le, Int32.lt_iff_toInt_lt] at *
  omega
theorem inR_nI {x : Int32} {n : Nat} (hn : n < 2 ^ 31) (h : inR x n = true) : ∃ j : Nat, j < n ∧ x = nI j := by
  simp only [inR, Bool.and_eq_true, decide_eq_true_eq] at h
  obtain ⟨j, h1, rfl⟩ := nI_of (x := x) (by have := h.1; simp only [Int32.le_iff_toInt_le, Int32.lt_iff_toInt_lt] at *; omega)
  exact ⟨j, (nI_ltI h1 hn).mp h.2, rfl⟩
/-- the first of 0 .. 3 with p -/
def fst4 (p : Nat → Bool) : Option Nat := (List.range 4).find? p
theorem fst4_some {p : Nat → Bool} {i : Nat} (h4 : i < 4) (h : p i = true) (hb : ∀ k, k < i → p k = false) : fst4 p = some i := by
  have e : fst4 p = if p 0 then some 0 else if p 1 then some 1 else if p 2 then some 2 else if p 3 then some 3 else none := by
    simp [fst4, List.range, List.range.loop, List.find?]
    split <;> simp_all
    split <;> simp_all
    split <;> simp_all
    split <;> simp_all
  rw [e]
  rcases (show i = 0 ∨ i = 1 ∨ i = 2 ∨ i = 3 by omega) with rfl | rfl | rfl | rfl
  · simp [h]
  · simp [h, hb 0]
  · simp [h, hb 0, hb 1]
  · simp [h, hb 0, hb 1, hb 2]
theorem fst4_none {p : Nat → Bool} (hb : ∀ k, k < 4 → p k = false) : fst4 p = none := by
  unfold fst4
  rw [List.find?_eq_none]
  intro x hx
  rw [hb x (List.mem_range.mp hx)]
  decide
theorem fst4_lt {p : Nat → Bool} {i : Nat} (h : fst4 p = some i) : i < 4 ∧ p i = true := by
  have h1 := List.mem_of_find?_eq_some h
  exact ⟨List.mem_range.mp h1, List.find?_some h⟩
/-- a number, or -9 -/
def oI (o : Option Nat) : Int32 := match o with
  | some k => nI k
  | none => -9
theorem oI_none {o : Option Nat} (h : ∀ k, o = some k → k < 2 ^ 31) : oI o = -9 ↔ o = none := by
  cases o with
  | none => simp [oI]
  | some k =>
    simp only [oI, reduceCtorEq, iff_false]
    intro e
    have h1 := nI_pos (h k rfl)
    rw [e] at h1
    exact h1 (by decide)
def fBet (P : Nat → Int32) (c A B : Nat) : Option Nat := fst4 (fun a => A.testBit a && pMore P a c B)
/-- the choices below k with p, as bits -/
def msk (p : Nat → Bool) : Nat → Nat
  | 0 => 0
  | k + 1 => if p k then msk p k ||| 2 ^ k else msk p k
theorem msk_lt (p : Nat → Bool) : ∀ k, msk p k < 2 ^ k
  | 0 => by show 0 < 1; decide
  | k + 1 => by
    have h := msk_lt p k
    have h1 : 2 ^ k < 2 ^ (k + 1) := Nat.pow_lt_pow_right (by decide) (Nat.lt_succ_self k)
    unfold msk
    split
    · exact Nat.or_lt_two_pow (Nat.lt_trans h h1) h1
    · exact Nat.lt_trans h h1
theorem pow_lt16 {k : Nat} (h : k < 4) : 2 ^ k < 16 := by
  have : ∀ k, k < 4 → 2 ^ k < 16 := by decide
  exact this k h
theorem msk_lt16 (p : Nat → Bool) {k : Nat} (h : k ≤ 4) : msk p k < 16 := Nat.lt_of_lt_of_le (msk_lt p k) (by
  have : ∀ k, k ≤ 4 → 2 ^ k ≤ 16 := by decide
  exact this k h)
def nWor (P : Nat → Int32) (A B : Nat) : Nat := msk (fun c => A.testBit c && (fBet P c A B).isNone) 4
theorem nWor_lt {P : Nat → Int32} {A B : Nat} : nWor P A B < 16 := msk_lt16 _ (Nat.le_refl 4)
set_option maxHeartbeats 4000000 in
set_option maxRecDepth 100000 in
theorem c_X3_payFor (l : Launch) {G : gG} {T : gTy} {I : gI} {J : gJ} {Q : gR} {O : gO} {H : Heap} (hP : gP G T I J Q O H) {b ch i k : Nat} (hpl : isPl T O b ch) (hi : i < 4) (hk : k < 4) : Met l yX3_payFor (gw yX3_payFor cX3_payFor 3 (some (.int))) ({ frames := 0, cells := 0, slots := 0, locals := 0 } : Room) (gPc G H [.ref b, .int (nI i), .int (nI k)]) (gQp (some (.int (I (b + 9) (i * 4 + k))))) 0 0 (fun _ => False) := by
  refine g_met [(0, .ref b), (1, .int (nI i)), (2, .int (nI k))] (by decide) rfl (by exact Nat.le_of_ble_eq_true rfl) ?_
  intro p e s m below meth c hC hs ls hl
  have hx := hC.1.1
  have hb := hC.1.2.1
  have hpl_lo := hpl.2.2.2.2.2.2.2.2.1
  have hpl_hi := hpl.2.2.2.2.2.2.2.2.2
  refine lv_aload_n hx hb dX3_payFor_0 rfl (lv_at hl 0 rfl) ?_
  refine g_get hC hP hpl.1 rfl inX3 2 (by decide) q1_81 hpl.2.2.2.1 dX3_payFor_1 ?_
  refine lv_iload_n hx hb dX3_payFor_4 rfl (lv_at hl 1 rfl) ?_
  refine lv_iconst (v := nI 4) hx hb dX3_payFor_5 (by decide) ?_
  refine lv_imul hx hb dX3_payFor_6 ?_
  refine g_topi (y := nI (i * 4)) (nI_mul _ _) ?_
  refine lv_iload_n hx hb dX3_payFor_7 rfl (lv_at hl 2 rfl) ?_
  refine lv_iadd hx hb dX3_payFor_8 ?_
  refine g_topi (y := nI (i * 4 + k)) (nI_add _ _) ?_
  refine g_iald hC hP hpl.2.2.2.2.2.2.1 (vp_in_nI (by omega) (by decide)) dX3_payFor_9 ?_
  refine g_topi (y := I (b + 9) (i * 4 + k)) (congrArg (I (b + 9)) (nI_clamp (by omega))) ?_
  exact g_reti hC hs rfl dX3_payFor_10
set_option maxHeartbeats 4000000 in
set_option maxRecDepth 100000 in
theorem c_X3_allBits (l : Launch) {G : gG} {T : gTy} {I : gI} {J : gJ} {Q : gR} {O : gO} {H : Heap} (hP : gP G T I J Q O H) {b ch : Nat} (hpl : isPl T O b ch) : Met l yX3_allBits (gw yX3_allBits cX3_allBits 1 (some (.int))) ({ frames := 0, cells := 0, slots := 0, locals := 0 } : Room) (gPc G H [.ref b]) (gQp (some (.int (nI (2 ^ ch - 1))))) 0 0 (fun _ => False) := by
  refine g_met [(0, .ref b)] (by decide) rfl (by exact Nat.le_of_ble_eq_true rfl) ?_
  intro p e s m below meth c hC hs ls hl
  have hx := hC.1.1
  have hb := hC.1.2.1
  have hpl_lo := hpl.2.2.2.2.2.2.2.2.1
  have hpl_hi := hpl.2.2.2.2.2.2.2.2.2
  refine lv_iconst (v := nI 1) hx hb dX3_allBits_0 (by decide) ?_
  refine lv_aload_n hx hb dX3_allBits_1 rfl (lv_at hl 0 rfl) ?_
  refine g_get hC hP hpl.1 rfl inX3 0 (by decide) q1_77 hpl.2.1 dX3_allBits_2 ?_
  refine lv_ishl hx hb dX3_allBits_5 ?_
  refine g_topi (y := nI (2 ^ ch)) (g_shl (by omega)) ?_
  refine lv_iconst (v := nI 1) hx hb dX3_allBits_6 (by decide) ?_
  refine lv_isub hx hb dX3_allBits_7 ?_
  refine g_topi (y := nI (2 ^ ch - 1)) (nI_subn Nat.one_le_two_pow) ?_
  exact g_reti hC hs rfl dX3_allBits_8
set_option maxHeartbeats 4000000 in
set_option maxRecDepth 100000 in
theorem c_X3_hasChoice (l : Launch) {G : gG} {T : gTy} {I : gI} {J : gJ} {Q : gR} {O : gO} {H : Heap} (hP : gP G T I J Q O H) {b ch : Nat} {q : Int32} (hpl : isPl T O b ch) : Met l yX3_hasChoice (gw yX3_hasChoice cX3_hasChoice 2 (some (.boolean))) ({ frames := 0, cells := 0, slots := 0, locals := 0 } : Room) (gPc G H [.ref b, .int q]) (gQp (some (.int (gb (inR q ch))))) 0 0 (fun _ => False) := by
  refine g_met [(0, .ref b), (1, .int q)] (by decide) rfl (by exact Nat.le_of_ble_eq_true rfl) ?_
  intro p e s m below meth c hC hs ls hl
  have hx := hC.1.1
  have hb := hC.1.2.1
  have hpl_lo := hpl.2.2.2.2.2.2.2.2.1
  have hpl_hi := hpl.2.2.2.2.2.2.2.2.2
  refine lv_iload_n hx hb dX3_hasChoice_0 rfl (lv_at hl 1 rfl) ?_
  refine lv_if_lt (tgt := 16) hx hb dX3_hasChoice_1 (by decide) (fun c1 => ?_) (fun c1 => ?_)
  · have hr := inR_f1 (n := ch) c1
    refine lv_iconst (v := nI 0) hx hb dX3_hasChoice_16 (by decide) ?_
    refine g_retz hC hs ?_ dX3_hasChoice_17
    rw [hr]; rfl
  · refine lv_iload_n hx hb dX3_hasChoice_4 rfl (lv_at hl 1 rfl) ?_
    refine lv_aload_n hx hb dX3_hasChoice_5 rfl (lv_at hl 0 rfl) ?_
    refine g_get hC hP hpl.1 rfl inX3 0 (by decide) q1_77 hpl.2.1 dX3_hasChoice_6 ?_
    refine lv_icmp_ge (tgt := 16) hx hb dX3_hasChoice_9 (by decide) (fun c9 => ?_) (fun c9 => ?_)
    · have hr := inR_f2 c9
      refine lv_iconst (v := nI 0) hx hb dX3_hasChoice_16 (by decide) ?_
      refine g_retz hC hs ?_ dX3_hasChoice_17
      rw [hr]; rfl
    · have hr := inR_t c1 c9
      refine lv_iconst (v := nI 1) hx hb dX3_hasChoice_12 (by decide) ?_
      refine lv_goto (tgt := 17) hx hb dX3_hasChoice_13 (by decide) ?_
      refine g_retz hC hs ?_ dX3_hasChoice_17
      rw [hr]; rfl
set_option maxHeartbeats 4000000 in
set_option maxRecDepth 100000 in
theorem c_X4_hasBit (l : Launch) {G : gG} {H : Heap} {B k : Nat} (hB : B < 16) (hk : k < 4) : Met l yX4_hasBit (gw yX4_hasBit cX4_hasBit 2 (some (.boolean))) ({ frames := 0, cells := 0, slots := 0, locals := 0 } : Room) (gPc G H [.int (nI B), .int (nI k)]) (gQp (some (.int (gb (B.testBit k))))) 0 0 (fun _ => False) := by
  refine g_met [(0, .int (nI B)), (1, .int (nI k))] (by decide) rfl (by exact Nat.le_of_ble_eq_true rfl) ?_
  intro p e s m below meth c hC hs ls hl
  have hx := hC.1.1
  have hb := hC.1.2.1
  refine lv_iload_n hx hb dX4_hasBit_0 rfl (lv_at hl 0 rfl) ?_
  refine lv_iload_n hx hb dX4_hasBit_1 rfl (lv_at hl 1 rfl) ?_
  refine lv_ishr hx hb dX4_hasBit_2 ?_
  refine lv_iconst (v := nI 1) hx hb dX4_hasBit_3 (by decide) ?_
  refine lv_iand hx hb dX4_hasBit_4 ?_
  refine g_topi (y := nI (if B.testBit k then 1 else 0)) (g_bit hB hk) ?_
  refine lv_iconst (v := nI 1) hx hb dX4_hasBit_5 (by decide) ?_
  refine lv_icmp_ne (tgt := 13) hx hb dX4_hasBit_6 (by decide) (fun c6 => ?_) (fun c6 => ?_)
  · have c6 : B.testBit k = false := by by_cases h : B.testBit k = true <;> simp_all
    refine lv_iconst (v := nI 0) hx hb dX4_hasBit_13 (by decide) ?_
    refine g_retz hC hs ?_ dX4_hasBit_14
    simp_all [gb, nI]
  · have c6 : B.testBit k = true := by by_cases h : B.testBit k = true <;> simp_all [nI]
    refine lv_iconst (v := nI 1) hx hb dX4_hasBit_9 (by decide) ?_
    refine lv_goto (tgt := 14) hx hb dX4_hasBit_10 (by decide) ?_
    refine g_retz hC hs ?_ dX4_hasBit_14
    simp_all [gb, nI]
set_option maxHeartbeats 4000000 in
set_option maxRecDepth 100000 in
theorem c_X3_worthOf (l : Launch) {G : gG} {T : gTy} {I : gI} {J : gJ} {Q : gR} {O : gO} {H : Heap} (hP : gP G T I J Q O H) {b ch own x : Nat} (hpl : isPl T O b ch) (hmx : isMx T O x) (ho : own < 4) : Met l yX3_worthOf (gw yX3_worthOf cX3_worthOf 6 (some (.long))) ({ frames := 1, cells := 0, slots := 0, locals := 22 } : Room) (gPc G H [.ref b, .int (nI own), .ref x]) (gQp (some (.long (wsum (I (b + 9)) (J (x + 1)) own 4)))) 0 0 (fun _ => False) := by
  refine g_met [(0, .ref b), (1, .int (nI own)), (2, .ref x)] (by decide) rfl (by exact Nat.le_of_ble_eq_true rfl) ?_
  intro p e s m below meth c hC hs ls hl
  have hx := hC.1.1
  have hb := hC.1.2.1
  have hpl_lo := hpl.2.2.2.2.2.2.2.2.1
  have hpl_hi := hpl.2.2.2.2.2.2.2.2.2
  refine lv_lconst (v := 0) hx hb dX3_worthOf_0 (by decide) ?_
  refine lv_lstore_n (lv' := [(3, .long (0 : Int64)), (0, .ref b), (1, .int (nI own)), (2, .ref x)]) hx hb dX3_worthOf_1 rfl hl (by decide) rfl (fun ls hl => ?_)
  refine lv_iconst (v := nI 0) hx hb dX3_worthOf_2 (by decide) ?_
  refine lv_istore (lv' := [(5, .int (nI 0)), (3, .long (0 : Int64)), (0, .ref b), (1, .int (nI own)), (2, .ref x)]) hx hb dX3_worthOf_3 hl (by decide) rfl (fun ls hl => ?_)
  have L5 : ∀ (n5 : Nat) (i : Nat), 5 ≤ n5 + i → (i ≤ 4) → ∀ ls : Array Slot, lv_has ls 6 [(0, .ref b), (1, .int (nI own)), (2, .ref x), (3, .long (wsum (I (b + 9)) (J (x + 1)) own i)), (5, .int (nI i))] → W p l e ({ frames := 1, cells := 0, slots := 0, locals := 22 } : Room) s m [.ref b, .int (nI own), .ref x].toArray below meth c H [] 0 0 (MQ below (gQp (some (.long (wsum (I (b + 9)) (J (x + 1)) own 4)))) [.ref b, .int (nI own), .ref x].toArray s 0 0 (fun _ => False)) (F0 m 5 ls []) := by
    intro n5
    induction n5 with
    | zero => intro i hn5 hi; exact absurd hn5 (by omega)
    | succ n5 ih5 =>
      intro i hn5 hi ls hl
      refine lv_iload hx hb dX3_worthOf_5 (lv_at hl 4 rfl) ?_
      refine lv_iconst (v := nI 4) hx hb dX3_worthOf_7 (by decide) ?_
      refine lv_icmp_ge (tgt := 36) hx hb dX3_worthOf_8 (by decide) (fun c8 => ?_) (fun c8 => ?_)
      · have c8 := (nI_leI (by omega) (by omega)).mp c8
        refine lv_lload_n hx hb dX3_worthOf_36 rfl (lv_at hl 3 rfl) ?_
        refine g_retl hC hs ?_ dX3_worthOf_37
        have h4 : i = 4 := by omega
        subst h4; rfl
      · have c8 := mt (nI_leI (by omega) (by omega)).mpr c8
        refine lv_lload_n hx hb dX3_worthOf_11 rfl (lv_at hl 3 rfl) ?_
        refine lv_aload_n hx hb dX3_worthOf_12 rfl (lv_at hl 2 rfl) ?_
        refine g_get hC hP hmx.1 rfl inX2 0 (by decide) q1_37 hmx.2.1 dX3_worthOf_13 ?_
        refine lv_iload hx hb dX3_worthOf_16 (lv_at hl 4 rfl) ?_
        refine g_lald hC hP hmx.2.2 (vp_in_nI (by omega) (by decide)) dX3_worthOf_18 ?_
        refine g_topl (y := J (x + 1) i) (congrArg (J (x + 1)) (nI_clamp (by omega))) ?_
        refine lv_aload_n hx hb dX3_worthOf_19 rfl (lv_at hl 0 rfl) ?_
        refine lv_iload_n hx hb dX3_worthOf_20 rfl (lv_at hl 1 rfl) ?_
        refine lv_iload hx hb dX3_worthOf_21 (lv_at hl 4 rfl) ?_
        refine g_cp (g_rV (As := [.int (nI own), .int (nI i)]) hC hP (c_X3_payFor l hP (b := b) (ch := ch) (i := own) (k := i) (by first | assumption | omega) (by first | assumption | omega) (by first | assumption | omega)) hpl.1 rfl ⟨q1_170, q1_216, q1_168, q1_169, q1_2⟩ dd_X3_payFor ⟨Nat.le_of_ble_eq_true rfl, Nat.le_of_ble_eq_true rfl, rfl, rfl⟩ hl.1 rfl (Nat.le_of_ble_eq_true rfl) dX3_worthOf_23 ⟨Nat.le_of_ble_eq_true rfl, Nat.le_of_ble_eq_true rfl⟩) ?_
        refine W.eq (g2 := F0 m 26 ls [.int (I (b + 9) (own * 4 + i)), .long (J (x + 1) i), .long (wsum (I (b + 9)) (J (x + 1)) own i)]) rfl ?_
        refine lv_i2l hx hb dX3_worthOf_26 rfl ?_
        refine lv_lmul hx hb dX3_worthOf_27 ?_
        refine lv_ladd hx hb dX3_worthOf_28 ?_
        refine lv_lstore_n (lv' := [(3, .long ((wsum (I (b + 9)) (J (x + 1)) own i) + ((J (x + 1) i) * ((I (b + 9) (own * 4 + i)).toInt64)))), (0, .ref b), (1, .int (nI own)), (2, .ref x), (5, .int (nI i))]) hx hb dX3_worthOf_29 rfl hl (by decide) rfl (fun ls hl => ?_)
        refine lv_iinc (v := nI (i + 1)) (lv' := [(5, .int (nI (i + 1))), (3, .long ((wsum (I (b + 9)) (J (x + 1)) own i) + ((J (x + 1) i) * ((I (b + 9) (own * 4 + i)).toInt64)))), (0, .ref b), (1, .int (nI own)), (2, .ref x)]) hx hb dX3_worthOf_30 hl (k := 4) rfl (nI_inc _) (by decide) rfl (fun ls hl => ?_)
        refine lv_goto (tgt := 5) hx hb dX3_worthOf_33 (by decide) ?_
        exact ih5 (i + 1) (by omega) (by omega) ls (lv_sub hl [2, 3, 4, 1, 0] rfl)
  exact L5 5 0 (by omega) (by omega) ls (lv_sub hl [2, 3, 4, 1, 0] rfl)
set_option maxHeartbeats 4000000 in
set_option maxRecDepth 100000 in
theorem c_X3_answersTo (l : Launch) {G : gG} {T : gTy} {I : gI} {J : gJ} {Q : gR} {O : gO} {H : Heap} (hP : gP G T I J Q O H) {b ch x : Nat} (hpl : isPl T O b ch) (hmx : isMx T O x) : Met l yX3_answersTo (gw yX3_answersTo cX3_answersTo 8 (some (.int))) ({ frames := 2, cells := 0, slots := 0, locals := 47 } : Room) (gPc G H [.ref b, .ref x]) (gQp (some (.int (nI (ansB (I (b + 9)) (J (x + 1)) ch))))) 0 0 (fun _ => False) := by
  refine g_met [(0, .ref b), (1, .ref x)] (by decide) rfl (by exact Nat.le_of_ble_eq_true rfl) ?_
  intro p e s m below meth c hC hs ls hl
  have hx := hC.1.1
  have hb := hC.1.2.1
  have hpl_lo := hpl.2.2.2.2.2.2.2.2.1
  have hpl_hi := hpl.2.2.2.2.2.2.2.2.2
  refine lv_aload_n hx hb dX3_answersTo_0 rfl (lv_at hl 0 rfl) ?_
  refine lv_iconst (v := nI 0) hx hb dX3_answersTo_1 (by decide) ?_
  refine lv_aload_n hx hb dX3_answersTo_2 rfl (lv_at hl 1 rfl) ?_
  refine g_cp (g_rV (As := [.int (nI 0), .ref x]) hC hP (c_X3_worthOf l hP (b := b) (ch := ch) (own := 0) (x := x) (by first | assumption | omega) (by first | assumption | omega) (by first | assumption | omega)) hpl.1 rfl ⟨q1_215, q1_212, q1_214, qs_6, q1_2⟩ dd_X3_worthOf ⟨Nat.le_of_ble_eq_true rfl, Nat.le_of_ble_eq_true rfl, rfl, rfl⟩ hl.1 rfl (Nat.le_of_ble_eq_true rfl) dX3_answersTo_3 ⟨Nat.le_of_ble_eq_true rfl, Nat.le_of_ble_eq_true rfl⟩) ?_
  refine W.eq (g2 := F0 m 6 ls [.long (wsum (I (b + 9)) (J (x + 1)) 0 4)]) rfl ?_
  refine lv_lstore_n (lv' := [(2, .long (wsum (I (b + 9)) (J (x + 1)) 0 4)), (0, .ref b), (1, .ref x)]) hx hb dX3_answersTo_6 rfl hl (by decide) rfl (fun ls hl => ?_)
  refine lv_iconst (v := nI 1) hx hb dX3_answersTo_7 (by decide) ?_
  refine lv_istore (lv' := [(4, .int (nI 1)), (2, .long (wsum (I (b + 9)) (J (x + 1)) 0 4)), (0, .ref b), (1, .ref x)]) hx hb dX3_answersTo_8 hl (by decide) rfl (fun ls hl => ?_)
  refine lv_iconst (v := nI 1) hx hb dX3_answersTo_10 (by decide) ?_
  refine lv_istore (lv' := [(5, .int (nI 1)), (4, .int (nI 1)), (2, .long (wsum (I (b + 9)) (J (x + 1)) 0 4)), (0, .ref b), (1, .ref x)]) hx hb dX3_answersTo_11 hl (by decide) rfl (fun ls hl => ?_)
  have L13 : ∀ (n13 : Nat) (i : Nat) (mo : Int64) (be : Nat), 5 ≤ n13 + i → (1 ≤ i ∧ i ≤ ch) → ((mo, be) = ansL (fun o => wsum (I (b + 9)) (J (x + 1)) o 4) (i - 1)) → ∀ ls : Array Slot, lv_has ls 8 [(0, .ref b), (1, .ref x), (2, .long mo), (4, .int (nI be)), (5, .int (nI i))] → W p l e ({ frames := 2, cells := 0, slots := 0, locals := 47 } : Room) s m [.ref b, .ref x].toArray below meth c H [] 0 0 (MQ below (gQp (some (.int (nI (ansB (I (b + 9)) (J (x + 1)) ch))))) [.ref b, .ref x].toArray s 0 0 (fun _ => False)) (F0 m 13 ls []) := by
    intro n13
    induction n13 with
    | zero => intro i mo be hn13 hi h1; exact absurd hn13 (by omega)
    | succ n13 ih13 =>
      intro i mo be hn13 hi h1 ls hl
      have hbe : be < 16 := by have := ansL_lt16 (fun o => wsum (I (b + 9)) (J (x + 1)) o 4) (k := i - 1) (by omega); rw [← h1] at this; exact this
      refine lv_iload hx hb dX3_answersTo_13 (lv_at hl 4 rfl) ?_
      refine lv_aload_n hx hb dX3_answersTo_15 rfl (lv_at hl 0 rfl) ?_
      refine g_get hC hP hpl.1 rfl inX3 0 (by decide) q1_77 hpl.2.1 dX3_answersTo_16 ?_
      refine lv_icmp_ge (tgt := 66) hx hb dX3_answersTo_19 (by decide) (fun c19 => ?_) (fun c19 => ?_)
      · have c19 := (nI_leI (by omega) (by omega)).mp c19
        refine lv_iload hx hb dX3_answersTo_66 (lv_at hl 3 rfl) ?_
        refine g_reti hC hs ?_ dX3_answersTo_68
        rw [show ansB (I (b + 9)) (J (x + 1)) ch = be from by unfold ansB; rw [show ch - 1 = i - 1 from by omega, ← h1]]
      · have c19 := mt (nI_leI (by omega) (by omega)).mpr c19
        have hp2 := pow_lt16 (k := i) (by omega)
        refine lv_aload_n hx hb dX3_answersTo_22 rfl (lv_at hl 0 rfl) ?_
        refine lv_iload hx hb dX3_answersTo_23 (lv_at hl 4 rfl) ?_
        refine lv_aload_n hx hb dX3_answersTo_25 rfl (lv_at hl 1 rfl) ?_
        refine g_cp (g_rV (As := [.int (nI i), .ref x]) hC hP (c_X3_worthOf l hP (b := b) (ch := ch) (own := i) (x := x) (by first | assumption | omega) (by first | assumption | omega) (by first | assumption | omega)) hpl.1 rfl ⟨q1_215, q1_212, q1_214, qs_6, q1_2⟩ dd_X3_worthOf ⟨Nat.le_of_ble_eq_true rfl, Nat.le_of_ble_eq_true rfl, rfl, rfl⟩ hl.1 rfl (Nat.le_of_ble_eq_true rfl) dX3_answersTo_26 ⟨Nat.le_of_ble_eq_true rfl, Nat.le_of_ble_eq_true rfl⟩) ?_
        refine W.eq (g2 := F0 m 29 ls [.long (wsum (I (b + 9)) (J (x + 1)) i 4)]) rfl ?_
        refine lv_lstore (lv' := [(6, .long (wsum (I (b + 9)) (J (x + 1)) i 4)), (0, .ref b), (1, .ref x), (2, .long mo), (4, .int (nI be)), (5, .int (nI i))]) hx hb dX3_answersTo_29 hl (by decide) rfl (fun ls hl => ?_)
        refine lv_lload hx hb dX3_answersTo_31 (lv_at hl 0 rfl) ?_
        refine lv_lload_n hx hb dX3_answersTo_33 rfl (lv_at hl 3 rfl) ?_
        refine W.lcmp hx hb dX3_answersTo_34 ?_
        refine lv_if_le (tgt := 44) hx hb dX3_answersTo_35 (by decide) (fun c35 => ?_) (fun c35 => ?_)
        · have c35 := (lg_cmp_le _ _).mp c35
          have d35 := Int64.not_lt.mpr c35
          refine lv_lload hx hb dX3_answersTo_44 (lv_at hl 0 rfl) ?_
          refine lv_lload_n hx hb dX3_answersTo_46 rfl (lv_at hl 3 rfl) ?_
          refine W.lcmp hx hb dX3_answersTo_47 ?_
          refine lv_if_ne (tgt := 60) hx hb dX3_answersTo_48 (by decide) (fun c48 => ?_) (fun c48 => ?_)
          · have c48 := mt (lg_cmp_eq _ _).mpr c48
            refine lv_iinc (v := nI (i + 1)) (lv' := [(5, .int (nI (i + 1))), (6, .long (wsum (I (b + 9)) (J (x + 1)) i 4)), (0, .ref b), (1, .ref x), (2, .long mo), (4, .int (nI be))]) hx hb dX3_answersTo_60 hl (k := 5) rfl (nI_inc _) (by decide) rfl (fun ls hl => ?_)
            refine lv_goto (tgt := 13) hx hb dX3_answersTo_63 (by decide) ?_
            exact ih13 (i + 1) mo be (by omega) (by omega) (by rw [Nat.add_sub_cancel, show i = (i - 1) + 1 from by omega, ansL, ← h1, show (i - 1) + 1 = i from by omega]; first | exact absurd rfl c48 | (unfold ansS; simp [d35, c48])) ls (lv_sub hl [2, 3, 4, 5, 0] rfl)
          · have c48 := (lg_cmp_eq _ _).mp c48
            refine lv_iload hx hb dX3_answersTo_51 (lv_at hl 4 rfl) ?_
            refine lv_iconst (v := nI 1) hx hb dX3_answersTo_53 (by decide) ?_
            refine lv_iload hx hb dX3_answersTo_54 (lv_at hl 5 rfl) ?_
            refine lv_ishl hx hb dX3_answersTo_56 ?_
            refine g_topi (y := nI (2 ^ i)) (g_shl (by omega)) ?_
            refine lv_ior hx hb dX3_answersTo_57 ?_
            refine g_topi (y := nI (be ||| (2 ^ i))) (g_or (by omega) (by omega)) ?_
            refine lv_istore (lv' := [(4, .int (nI (be ||| (2 ^ i)))), (6, .long (wsum (I (b + 9)) (J (x + 1)) i 4)), (0, .ref b), (1, .ref x), (2, .long mo), (5, .int (nI i))]) hx hb dX3_answersTo_58 hl (by decide) rfl (fun ls hl => ?_)
            refine lv_iinc (v := nI (i + 1)) (lv' := [(5, .int (nI (i + 1))), (4, .int (nI (be ||| (2 ^ i)))), (6, .long (wsum (I (b + 9)) (J (x + 1)) i 4)), (0, .ref b), (1, .ref x), (2, .long mo)]) hx hb dX3_answersTo_60 hl (k := 5) rfl (nI_inc _) (by decide) rfl (fun ls hl => ?_)
            refine lv_goto (tgt := 13) hx hb dX3_answersTo_63 (by decide) ?_
            exact ih13 (i + 1) mo (be ||| (2 ^ i)) (by omega) (by omega) (by rw [Nat.add_sub_cancel, show i = (i - 1) + 1 from by omega, ansL, ← h1, show (i - 1) + 1 = i from by omega]; first | exact absurd rfl c48 | (unfold ansS; simp [d35, c48])) ls (lv_sub hl [3, 4, 5, 1, 0] rfl)
        · have c35 := mt (lg_cmp_le _ _).mpr c35
          have d35 := Int64.not_le.mp c35
          refine lv_lload hx hb dX3_answersTo_38 (lv_at hl 0 rfl) ?_
          refine lv_lstore_n (lv' := [(2, .long (wsum (I (b + 9)) (J (x + 1)) i 4)), (6, .long (wsum (I (b + 9)) (J (x + 1)) i 4)), (0, .ref b), (1, .ref x), (4, .int (nI be)), (5, .int (nI i))]) hx hb dX3_answersTo_40 rfl hl (by decide) rfl (fun ls hl => ?_)
          refine lv_iconst (v := nI 0) hx hb dX3_answersTo_41 (by decide) ?_
          refine lv_istore (lv' := [(4, .int (nI 0)), (2, .long (wsum (I (b + 9)) (J (x + 1)) i 4)), (6, .long (wsum (I (b + 9)) (J (x + 1)) i 4)), (0, .ref b), (1, .ref x), (5, .int (nI i))]) hx hb dX3_answersTo_42 hl (by decide) rfl (fun ls hl => ?_)
          refine lv_lload hx hb dX3_answersTo_44 (lv_at hl 2 rfl) ?_
          refine lv_lload_n hx hb dX3_answersTo_46 rfl (lv_at hl 1 rfl) ?_
          refine W.lcmp hx hb dX3_answersTo_47 ?_
          refine lv_if_ne (tgt := 60) hx hb dX3_answersTo_48 (by decide) (fun c48 => ?_) (fun c48 => ?_)
          · have c48 := mt (lg_cmp_eq _ _).mpr c48
            refine lv_iinc (v := nI (i + 1)) (lv' := [(5, .int (nI (i + 1))), (4, .int (nI 0)), (2, .long (wsum (I (b + 9)) (J (x + 1)) i 4)), (6, .long (wsum (I (b + 9)) (J (x + 1)) i 4)), (0, .ref b), (1, .ref x)]) hx hb dX3_answersTo_60 hl (k := 5) rfl (nI_inc _) (by decide) rfl (fun ls hl => ?_)
            refine lv_goto (tgt := 13) hx hb dX3_answersTo_63 (by decide) ?_
            exact ih13 (i + 1) (wsum (I (b + 9)) (J (x + 1)) i 4) 0 (by omega) (by omega) (by rw [Nat.add_sub_cancel, show i = (i - 1) + 1 from by omega, ansL, ← h1, show (i - 1) + 1 = i from by omega]; first | exact absurd rfl c48 | (unfold ansS; simp [d35, c48])) ls (lv_sub hl [4, 5, 2, 1, 0] rfl)
          · have c48 := (lg_cmp_eq _ _).mp c48
            refine lv_iload hx hb dX3_answersTo_51 (lv_at hl 0 rfl) ?_
            refine lv_iconst (v := nI 1) hx hb dX3_answersTo_53 (by decide) ?_
            refine lv_iload hx hb dX3_answersTo_54 (lv_at hl 5 rfl) ?_
            refine lv_ishl hx hb dX3_answersTo_56 ?_
            refine g_topi (y := nI (2 ^ i)) (g_shl (by omega)) ?_
            refine lv_ior hx hb dX3_answersTo_57 ?_
            refine g_topi (y := nI (0 ||| (2 ^ i))) (g_or (by omega) (by omega)) ?_
            refine lv_istore (lv' := [(4, .int (nI (0 ||| (2 ^ i)))), (2, .long (wsum (I (b + 9)) (J (x + 1)) i 4)), (6, .long (wsum (I (b + 9)) (J (x + 1)) i 4)), (0, .ref b), (1, .ref x), (5, .int (nI i))]) hx hb dX3_answersTo_58 hl (by decide) rfl (fun ls hl => ?_)
            refine lv_iinc (v := nI (i + 1)) (lv' := [(5, .int (nI (i + 1))), (4, .int (nI (0 ||| (2 ^ i)))), (2, .long (wsum (I (b + 9)) (J (x + 1)) i 4)), (6, .long (wsum (I (b + 9)) (J (x + 1)) i 4)), (0, .ref b), (1, .ref x)]) hx hb dX3_answersTo_60 hl (k := 5) rfl (nI_inc _) (by decide) rfl (fun ls hl => ?_)
            refine lv_goto (tgt := 13) hx hb dX3_answersTo_63 (by decide) ?_
            exact ih13 (i + 1) (wsum (I (b + 9)) (J (x + 1)) i 4) (0 ||| (2 ^ i)) (by omega) (by omega) (by rw [Nat.add_sub_cancel, show i = (i - 1) + 1 from by omega, ansL, ← h1, show (i - 1) + 1 = i from by omega]; first | exact absurd rfl c48 | (unfold ansS; simp [d35, c48])) ls (lv_sub hl [4, 5, 2, 1, 0] rfl)
  exact L13 5 1 (wsum (I (b + 9)) (J (x + 1)) 0 4) 1 (by omega) (by omega) rfl ls (lv_sub hl [3, 4, 2, 1, 0] rfl)
set_option maxHeartbeats 4000000 in
set_option maxRecDepth 100000 in
theorem c_X3_paysMore (l : Launch) {G : gG} {T : gTy} {I : gI} {J : gJ} {Q : gR} {O : gO} {H : Heap} (hP : gP G T I J Q O H) {b ch a q B : Nat} (hpl : isPl T O b ch) (ha : a < 4) (hc : q < 4) (hB : B < 16) : Met l yX3_paysMore (gw yX3_paysMore cX3_paysMore 5 (some (.boolean))) ({ frames := 1, cells := 0, slots := 0, locals := 22 } : Room) (gPc G H [.ref b, .int (nI a), .int (nI q), .int (nI B)]) (gQp (some (.int (gb (pMore (I (b + 9)) a q B))))) 0 0 (fun _ => False) := by
  refine g_met [(0, .ref b), (1, .int (nI a)), (2, .int (nI q)), (3, .int (nI B))] (by decide) rfl (by exact Nat.le_of_ble_eq_true rfl) ?_
  intro p e s m below meth c hC hs ls hl
  have hx := hC.1.1
  have hb := hC.1.2.1
  have hpl_lo := hpl.2.2.2.2.2.2.2.2.1
  have hpl_hi := hpl.2.2.2.2.2.2.2.2.2
  refine lv_iconst (v := nI 0) hx hb dX3_paysMore_0 (by decide) ?_
  refine lv_istore (lv' := [(4, .int (nI 0)), (0, .ref b), (1, .int (nI a)), (2, .int (nI q)), (3, .int (nI B))]) hx hb dX3_paysMore_1 hl (by decide) rfl (fun ls hl => ?_)
  have L3 : ∀ (n3 : Nat) (i : Nat), 5 ≤ n3 + i → (i ≤ 4) → (∀ k, k < i → B.testBit k = true → I (b + 9) (q * 4 + k) < I (b + 9) (a * 4 + k)) → ∀ ls : Array Slot, lv_has ls 5 [(0, .ref b), (1, .int (nI a)), (2, .int (nI q)), (3, .int (nI B)), (4, .int (nI i))] → W p l e ({ frames := 1, cells := 0, slots := 0, locals := 22 } : Room) s m [.ref b, .int (nI a), .int (nI q), .int (nI B)].toArray below meth c H [] 0 0 (MQ below (gQp (some (.int (gb (pMore (I (b + 9)) a q B))))) [.ref b, .int (nI a), .int (nI q), .int (nI B)].toArray s 0 0 (fun _ => False)) (F0 m 3 ls []) := by
    intro n3
    induction n3 with
    | zero => intro i hn3 hi h1; exact absurd hn3 (by omega)
    | succ n3 ih3 =>
      intro i hn3 hi h1 ls hl
      refine lv_iload hx hb dX3_paysMore_3 (lv_at hl 4 rfl) ?_
      refine lv_iconst (v := nI 4) hx hb dX3_paysMore_5 (by decide) ?_
      refine lv_icmp_ge (tgt := 43) hx hb dX3_paysMore_6 (by decide) (fun c6 => ?_) (fun c6 => ?_)
      · have c6 := (nI_leI (by omega) (by omega)).mp c6
        refine lv_iconst (v := nI 1) hx hb dX3_paysMore_43 (by decide) ?_
        refine g_retz hC hs ?_ dX3_paysMore_44
        rw [show pMore (I (b + 9)) a q B = true from pMore_iff.mpr (fun k h hk => h1 k (by omega) hk)]; rfl
      · have c6 := mt (nI_leI (by omega) (by omega)).mpr c6
        refine lv_iload_n hx hb dX3_paysMore_9 rfl (lv_at hl 3 rfl) ?_
        refine lv_iload hx hb dX3_paysMore_10 (lv_at hl 4 rfl) ?_
        refine g_cp (g_rSN (As := [.int (nI B), .int (nI i)]) hC (c_X4_hasBit l (B := B) (k := i) (by first | assumption | omega) (by first | assumption | omega)) ⟨q2_11, List.mem_of_getElem? (i := 6) rfl, q2_10, q1_1⟩ dd_X4_hasBit ⟨Nat.le_of_ble_eq_true rfl, Nat.le_of_ble_eq_true rfl, rfl, rfl⟩ hl.1 rfl (Nat.le_of_ble_eq_true rfl) dX3_paysMore_12 ⟨Nat.le_of_ble_eq_true rfl, Nat.le_of_ble_eq_true rfl⟩) ?_
        refine W.eq (g2 := F0 m 15 ls [.int (gb (B.testBit i))]) rfl ?_
        refine lv_if_eq (tgt := 37) hx hb dX3_paysMore_15 (by decide) (fun c15 => ?_) (fun c15 => ?_)
        · have c15 := gb_f c15
          refine lv_iinc (v := nI (i + 1)) (lv' := [(4, .int (nI (i + 1))), (0, .ref b), (1, .int (nI a)), (2, .int (nI q)), (3, .int (nI B))]) hx hb dX3_paysMore_37 hl (k := 4) rfl (nI_inc _) (by decide) rfl (fun ls hl => ?_)
          refine lv_goto (tgt := 3) hx hb dX3_paysMore_40 (by decide) ?_
          exact ih3 (i + 1) (by omega) (by omega) (fun k h hk => by rcases Nat.lt_succ_iff_lt_or_eq.mp h with h | rfl <;> first | exact h1 k h hk | simp_all) ls (lv_sub hl [1, 2, 3, 4, 0] rfl)
        · have c15 := gb_t c15
          refine lv_aload_n hx hb dX3_paysMore_18 rfl (lv_at hl 0 rfl) ?_
          refine lv_iload_n hx hb dX3_paysMore_19 rfl (lv_at hl 1 rfl) ?_
          refine lv_iload hx hb dX3_paysMore_20 (lv_at hl 4 rfl) ?_
          refine g_cp (g_rV (As := [.int (nI a), .int (nI i)]) hC hP (c_X3_payFor l hP (b := b) (ch := ch) (i := a) (k := i) (by first | assumption | omega) (by first | assumption | omega) (by first | assumption | omega)) hpl.1 rfl ⟨q1_170, q1_216, q1_168, q1_169, q1_2⟩ dd_X3_payFor ⟨Nat.le_of_ble_eq_true rfl, Nat.le_of_ble_eq_true rfl, rfl, rfl⟩ hl.1 rfl (Nat.le_of_ble_eq_true rfl) dX3_paysMore_22 ⟨Nat.le_of_ble_eq_true rfl, Nat.le_of_ble_eq_true rfl⟩) ?_
          refine W.eq (g2 := F0 m 25 ls [.int (I (b + 9) (a * 4 + i))]) rfl ?_
          refine lv_aload_n hx hb dX3_paysMore_25 rfl (lv_at hl 0 rfl) ?_
          refine lv_iload_n hx hb dX3_paysMore_26 rfl (lv_at hl 2 rfl) ?_
          refine lv_iload hx hb dX3_paysMore_27 (lv_at hl 4 rfl) ?_
          refine g_cp (g_rV (As := [.int (nI q), .int (nI i)]) hC hP (c_X3_payFor l hP (b := b) (ch := ch) (i := q) (k := i) (by first | assumption | omega) (by first | assumption | omega) (by first | assumption | omega)) hpl.1 rfl ⟨q1_170, q1_216, q1_168, q1_169, q1_2⟩ dd_X3_payFor ⟨Nat.le_of_ble_eq_true rfl, Nat.le_of_ble_eq_true rfl, rfl, rfl⟩ hl.1 rfl (Nat.le_of_ble_eq_true rfl) dX3_paysMore_29 ⟨Nat.le_of_ble_eq_true rfl, Nat.le_of_ble_eq_true rfl⟩) ?_
          refine W.eq (g2 := F0 m 32 ls [.int (I (b + 9) (q * 4 + i)), .int (I (b + 9) (a * 4 + i))]) rfl ?_
          refine lv_icmp_gt (tgt := 37) hx hb dX3_paysMore_32 (by decide) (fun c32 => ?_) (fun c32 => ?_)
          · refine lv_iinc (v := nI (i + 1)) (lv' := [(4, .int (nI (i + 1))), (0, .ref b), (1, .int (nI a)), (2, .int (nI q)), (3, .int (nI B))]) hx hb dX3_paysMore_37 hl (k := 4) rfl (nI_inc _) (by decide) rfl (fun ls hl => ?_)
            refine lv_goto (tgt := 3) hx hb dX3_paysMore_40 (by decide) ?_
            exact ih3 (i + 1) (by omega) (by omega) (fun k h hk => by rcases Nat.lt_succ_iff_lt_or_eq.mp h with h | rfl <;> first | exact h1 k h hk | simp_all) ls (lv_sub hl [1, 2, 3, 4, 0] rfl)
          · refine lv_iconst (v := nI 0) hx hb dX3_paysMore_35 (by decide) ?_
            refine g_retz hC hs ?_ dX3_paysMore_36
            rw [show pMore (I (b + 9)) a q B = false from by rw [Bool.eq_false_iff]; intro h; exact c32 (pMore_iff.mp h i (by omega) c15)]; rfl
  exact L3 5 0 (by omega) (by omega) (fun k h => absurd h (by omega)) ls (lv_sub hl [1, 2, 3, 4, 0] rfl)
set_option maxHeartbeats 4000000 in
set_option maxRecDepth 100000 in
theorem c_X3_firstBetter (l : Launch) {G : gG} {T : gTy} {I : gI} {J : gJ} {Q : gR} {O : gO} {H : Heap} (hP : gP G T I J Q O H) {b ch q A B : Nat} (hpl : isPl T O b ch) (hc : q < 4) (hA : A < 16) (hB : B < 16) : Met l yX3_firstBetter (gw yX3_firstBetter cX3_firstBetter 5 (some (.int))) ({ frames := 2, cells := 0, slots := 0, locals := 46 } : Room) (gPc G H [.ref b, .int (nI q), .int (nI A), .int (nI B)]) (gQp (some (.int (oI (fBet (I (b + 9)) q A B))))) 0 0 (fun _ => False) := by
  refine g_met [(0, .ref b), (1, .int (nI q)), (2, .int (nI A)), (3, .int (nI B))] (by decide) rfl (by exact Nat.le_of_ble_eq_true rfl) ?_
  intro p e s m below meth c hC hs ls hl
  have hx := hC.1.1
  have hb := hC.1.2.1
  have hpl_lo := hpl.2.2.2.2.2.2.2.2.1
  have hpl_hi := hpl.2.2.2.2.2.2.2.2.2
  refine lv_iconst (v := nI 0) hx hb dX3_firstBetter_0 (by decide) ?_
  refine lv_istore (lv' := [(4, .int (nI 0)), (0, .ref b), (1, .int (nI q)), (2, .int (nI A)), (3, .int (nI B))]) hx hb dX3_firstBetter_1 hl (by decide) rfl (fun ls hl => ?_)
  have L3 : ∀ (n3 : Nat) (i : Nat), 5 ≤ n3 + i → (i ≤ 4) → (∀ k, k < i → (A.testBit k && pMore (I (b + 9)) k q B) = false) → ∀ ls : Array Slot, lv_has ls 5 [(0, .ref b), (1, .int (nI q)), (2, .int (nI A)), (3, .int (nI B)), (4, .int (nI i))] → W p l e ({ frames := 2, cells := 0, slots := 0, locals := 46 } : Room) s m [.ref b, .int (nI q), .int (nI A), .int (nI B)].toArray below meth c H [] 0 0 (MQ below (gQp (some (.int (oI (fBet (I (b + 9)) q A B))))) [.ref b, .int (nI q), .int (nI A), .int (nI B)].toArray s 0 0 (fun _ => False)) (F0 m 3 ls []) := by
    intro n3
    induction n3 with
    | zero => intro i hn3 hi h1; exact absurd hn3 (by omega)
    | succ n3 ih3 =>
      intro i hn3 hi h1 ls hl
      refine lv_iload hx hb dX3_firstBetter_3 (lv_at hl 4 rfl) ?_
      refine lv_iconst (v := nI 4) hx hb dX3_firstBetter_5 (by decide) ?_
      refine lv_icmp_ge (tgt := 38) hx hb dX3_firstBetter_6 (by decide) (fun c6 => ?_) (fun c6 => ?_)
      · have c6 := (nI_leI (by omega) (by omega)).mp c6
        refine lv_bipush (v := (-9)) hx hb dX3_firstBetter_38 (by decide) ?_
        refine g_reti hC hs ?_ dX3_firstBetter_40
        unfold fBet; rw [fst4_none (fun k h => h1 k (by omega))]; rfl
      · have c6 := mt (nI_leI (by omega) (by omega)).mpr c6
        refine lv_iload_n hx hb dX3_firstBetter_9 rfl (lv_at hl 2 rfl) ?_
        refine lv_iload hx hb dX3_firstBetter_10 (lv_at hl 4 rfl) ?_
        refine g_cp (g_rSN (As := [.int (nI A), .int (nI i)]) hC (c_X4_hasBit l (B := A) (k := i) (by first | assumption | omega) (by first | assumption | omega)) ⟨q2_11, List.mem_of_getElem? (i := 6) rfl, q2_10, q1_1⟩ dd_X4_hasBit ⟨Nat.le_of_ble_eq_true rfl, Nat.le_of_ble_eq_true rfl, rfl, rfl⟩ hl.1 rfl (Nat.le_of_ble_eq_true rfl) dX3_firstBetter_12 ⟨Nat.le_of_ble_eq_true rfl, Nat.le_of_ble_eq_true rfl⟩) ?_
        refine W.eq (g2 := F0 m 15 ls [.int (gb (A.testBit i))]) rfl ?_
        refine lv_if_eq (tgt := 32) hx hb dX3_firstBetter_15 (by decide) (fun c15 => ?_) (fun c15 => ?_)
        · have c15 := gb_f c15
          refine lv_iinc (v := nI (i + 1)) (lv' := [(4, .int (nI (i + 1))), (0, .ref b), (1, .int (nI q)), (2, .int (nI A)), (3, .int (nI B))]) hx hb dX3_firstBetter_32 hl (k := 4) rfl (nI_inc _) (by decide) rfl (fun ls hl => ?_)
          refine lv_goto (tgt := 3) hx hb dX3_firstBetter_35 (by decide) ?_
          exact ih3 (i + 1) (by omega) (by omega) (fun k h => by rcases Nat.lt_succ_iff_lt_or_eq.mp h with h | rfl <;> first | exact h1 k h | simp_all) ls (lv_sub hl [1, 2, 3, 4, 0] rfl)
        · have c15 := gb_t c15
          refine lv_aload_n hx hb dX3_firstBetter_18 rfl (lv_at hl 0 rfl) ?_
          refine lv_iload hx hb dX3_firstBetter_19 (lv_at hl 4 rfl) ?_
          refine lv_iload_n hx hb dX3_firstBetter_21 rfl (lv_at hl 1 rfl) ?_
          refine lv_iload_n hx hb dX3_firstBetter_22 rfl (lv_at hl 3 rfl) ?_
          refine g_cp (g_rV (As := [.int (nI i), .int (nI q), .int (nI B)]) hC hP (c_X3_paysMore l hP (b := b) (ch := ch) (a := i) (q := q) (B := B) (by first | assumption | omega) (by first | assumption | omega) (by first | assumption | omega) (by first | assumption | omega)) hpl.1 rfl ⟨q2_28, q2_25, q2_27, qs_7, q1_2⟩ dd_X3_paysMore ⟨Nat.le_of_ble_eq_true rfl, Nat.le_of_ble_eq_true rfl, rfl, rfl⟩ hl.1 rfl (Nat.le_of_ble_eq_true rfl) dX3_firstBetter_23 ⟨Nat.le_of_ble_eq_true rfl, Nat.le_of_ble_eq_true rfl⟩) ?_
          refine W.eq (g2 := F0 m 26 ls [.int (gb (pMore (I (b + 9)) i q B))]) rfl ?_
          refine lv_if_eq (tgt := 32) hx hb dX3_firstBetter_26 (by decide) (fun c26 => ?_) (fun c26 => ?_)
          · have c26 := gb_f c26
            refine lv_iinc (v := nI (i + 1)) (lv' := [(4, .int (nI (i + 1))), (0, .ref b), (1, .int (nI q)), (2, .int (nI A)), (3, .int (nI B))]) hx hb dX3_firstBetter_32 hl (k := 4) rfl (nI_inc _) (by decide) rfl (fun ls hl => ?_)
            refine lv_goto (tgt := 3) hx hb dX3_firstBetter_35 (by decide) ?_
            exact ih3 (i + 1) (by omega) (by omega) (fun k h => by rcases Nat.lt_succ_iff_lt_or_eq.mp h with h | rfl <;> first | exact h1 k h | simp_all) ls (lv_sub hl [1, 2, 3, 4, 0] rfl)
          · have c26 := gb_t c26
            refine lv_iload hx hb dX3_firstBetter_29 (lv_at hl 4 rfl) ?_
            refine g_reti hC hs ?_ dX3_firstBetter_31
            unfold fBet; rw [fst4_some (i := i) (by omega) (by simp_all) h1]; rfl
  exact L3 5 0 (by omega) (by omega) (fun k h => absurd h (by omega)) ls (lv_sub hl [1, 2, 3, 4, 0] rfl)
set_option maxHeartbeats 4000000 in
set_option maxRecDepth 100000 in
theorem c_X3_notWorse (l : Launch) {G : gG} {T : gTy} {I : gI} {J : gJ} {Q : gR} {O : gO} {H : Heap} (hP : gP G T I J Q O H) {b ch A B : Nat} (hpl : isPl T O b ch) (hA : A < 16) (hB : B < 16) : Met l yX3_notWorse (gw yX3_notWorse cX3_notWorse 5 (some (.int))) ({ frames := 3, cells := 0, slots := 0, locals := 70 } : Room) (gPc G H [.ref b, .int (nI A), .int (nI B)]) (gQp (some (.int (nI (nWor (I (b + 9)) A B))))) 0 0 (fun _ => False) := by
  refine g_met [(0, .ref b), (1, .int (nI A)), (2, .int (nI B))] (by decide) rfl (by exact Nat.le_of_ble_eq_true rfl) ?_
  intro p e s m below meth c hC hs ls hl
  have hx := hC.1.1
  have hb := hC.1.2.1
  have hpl_lo := hpl.2.2.2.2.2.2.2.2.1
  have hpl_hi := hpl.2.2.2.2.2.2.2.2.2
  refine lv_iconst (v := nI 0) hx hb dX3_notWorse_0 (by decide) ?_
  refine lv_istore_n (lv' := [(3, .int (nI 0)), (0, .ref b), (1, .int (nI A)), (2, .int (nI B))]) hx hb dX3_notWorse_1 rfl hl (by decide) rfl (fun ls hl => ?_)
  refine lv_iconst (v := nI 0) hx hb dX3_notWorse_2 (by decide) ?_
  refine lv_istore (lv' := [(4, .int (nI 0)), (3, .int (nI 0)), (0, .ref b), (1, .int (nI A)), (2, .int (nI B))]) hx hb dX3_notWorse_3 hl (by decide) rfl (fun ls hl => ?_)
  have L5 : ∀ (n5 : Nat) (i : Nat) (ke : Nat), 5 ≤ n5 + i → (i ≤ 4) → (ke = msk (fun c => A.testBit c && (fBet (I (b + 9)) c A B).isNone) i) → ∀ ls : Array Slot, lv_has ls 5 [(0, .ref b), (1, .int (nI A)), (2, .int (nI B)), (3, .int (nI ke)), (4, .int (nI i))] → W p l e ({ frames := 3, cells := 0, slots := 0, locals := 70 } : Room) s m [.ref b, .int (nI A), .int (nI B)].toArray below meth c H [] 0 0 (MQ below (gQp (some (.int (nI (nWor (I (b + 9)) A B))))) [.ref b, .int (nI A), .int (nI B)].toArray s 0 0 (fun _ => False)) (F0 m 5 ls []) := by
    intro n5
    induction n5 with
    | zero => intro i ke hn5 hi h1; exact absurd hn5 (by omega)
    | succ n5 ih5 =>
      intro i ke hn5 hi h1 ls hl
      have hke : ke < 16 := by rw [h1]; exact msk_lt16 _ hi
      refine lv_iload hx hb dX3_notWorse_5 (lv_at hl 4 rfl) ?_
      refine lv_iconst (v := nI 4) hx hb dX3_notWorse_7 (by decide) ?_
      refine lv_icmp_ge (tgt := 46) hx hb dX3_notWorse_8 (by decide) (fun c8 => ?_) (fun c8 => ?_)
      · have c8 := (nI_leI (by omega) (by omega)).mp c8
        refine lv_iload_n hx hb dX3_notWorse_46 rfl (lv_at hl 3 rfl) ?_
        refine g_reti hC hs ?_ dX3_notWorse_47
        rw [h1, show i = 4 from by omega]; rfl
      · have c8 := mt (nI_leI (by omega) (by omega)).mpr c8
        have hp2 := pow_lt16 (k := i) (by omega)
        refine lv_iload_n hx hb dX3_notWorse_11 rfl (lv_at hl 1 rfl) ?_
        refine lv_iload hx hb dX3_notWorse_12 (lv_at hl 4 rfl) ?_
        refine g_cp (g_rSN (As := [.int (nI A), .int (nI i)]) hC (c_X4_hasBit l (B := A) (k := i) (by first | assumption | omega) (by first | assumption | omega)) ⟨q2_11, List.mem_of_getElem? (i := 6) rfl, q2_10, q1_1⟩ dd_X4_hasBit ⟨Nat.le_of_ble_eq_true rfl, Nat.le_of_ble_eq_true rfl, rfl, rfl⟩ hl.1 rfl (Nat.le_of_ble_eq_true rfl) dX3_notWorse_14 ⟨Nat.le_of_ble_eq_true rfl, Nat.le_of_ble_eq_true rfl⟩) ?_
        refine W.eq (g2 := F0 m 17 ls [.int (gb (A.testBit i))]) rfl ?_
        refine lv_if_eq (tgt := 40) hx hb dX3_notWorse_17 (by decide) (fun c17 => ?_) (fun c17 => ?_)
        · have c17 := gb_f c17
          refine lv_iinc (v := nI (i + 1)) (lv' := [(4, .int (nI (i + 1))), (0, .ref b), (1, .int (nI A)), (2, .int (nI B)), (3, .int (nI ke))]) hx hb dX3_notWorse_40 hl (k := 4) rfl (nI_inc _) (by decide) rfl (fun ls hl => ?_)
          refine lv_goto (tgt := 5) hx hb dX3_notWorse_43 (by decide) ?_
          exact ih5 (i + 1) ke (by omega) (by omega) (by rw [h1, msk]; simp_all) ls (lv_sub hl [1, 2, 3, 4, 0] rfl)
        · have c17 := gb_t c17
          refine lv_aload_n hx hb dX3_notWorse_20 rfl (lv_at hl 0 rfl) ?_
          refine lv_iload hx hb dX3_notWorse_21 (lv_at hl 4 rfl) ?_
          refine lv_iload_n hx hb dX3_notWorse_23 rfl (lv_at hl 1 rfl) ?_
          refine lv_iload_n hx hb dX3_notWorse_24 rfl (lv_at hl 2 rfl) ?_
          refine g_cp (g_rV (As := [.int (nI i), .int (nI A), .int (nI B)]) hC hP (c_X3_firstBetter l hP (b := b) (ch := ch) (q := i) (A := A) (B := B) (by first | assumption | omega) (by first | assumption | omega) (by first | assumption | omega) (by first | assumption | omega)) hpl.1 rfl ⟨q2_23, q2_42, q2_21, q2_22, q1_2⟩ dd_X3_firstBetter ⟨Nat.le_of_ble_eq_true rfl, Nat.le_of_ble_eq_true rfl, rfl, rfl⟩ hl.1 rfl (Nat.le_of_ble_eq_true rfl) dX3_notWorse_25 ⟨Nat.le_of_ble_eq_true rfl, Nat.le_of_ble_eq_true rfl⟩) ?_
          refine W.eq (g2 := F0 m 28 ls [.int (oI (fBet (I (b + 9)) i A B))]) rfl ?_
          refine lv_bipush (v := (-9)) hx hb dX3_notWorse_28 (by decide) ?_
          refine lv_icmp_ne (tgt := 40) hx hb dX3_notWorse_30 (by decide) (fun c30 => ?_) (fun c30 => ?_)
          · have c30 : ¬ fBet (I (b + 9)) i A B = none := mt (oI_none (fun k h => Nat.lt_trans (fst4_lt h).1 (by decide))).mpr c30
            refine lv_iinc (v := nI (i + 1)) (lv' := [(4, .int (nI (i + 1))), (0, .ref b), (1, .int (nI A)), (2, .int (nI B)), (3, .int (nI ke))]) hx hb dX3_notWorse_40 hl (k := 4) rfl (nI_inc _) (by decide) rfl (fun ls hl => ?_)
            refine lv_goto (tgt := 5) hx hb dX3_notWorse_43 (by decide) ?_
            exact ih5 (i + 1) ke (by omega) (by omega) (by rw [h1, msk]; simp_all) ls (lv_sub hl [1, 2, 3, 4, 0] rfl)
          · have c30 : fBet (I (b + 9)) i A B = none := (oI_none (fun k h => Nat.lt_trans (fst4_lt h).1 (by decide))).mp c30
            refine lv_iload_n hx hb dX3_notWorse_33 rfl (lv_at hl 3 rfl) ?_
            refine lv_iconst (v := nI 1) hx hb dX3_notWorse_34 (by decide) ?_
            refine lv_iload hx hb dX3_notWorse_35 (lv_at hl 4 rfl) ?_
            refine lv_ishl hx hb dX3_notWorse_37 ?_
            refine g_topi (y := nI (2 ^ i)) (g_shl (by omega)) ?_
            refine lv_ior hx hb dX3_notWorse_38 ?_
            refine g_topi (y := nI (ke ||| (2 ^ i))) (g_or (by omega) (by omega)) ?_
            refine lv_istore_n (lv' := [(3, .int (nI (ke ||| (2 ^ i)))), (0, .ref b), (1, .int (nI A)), (2, .int (nI B)), (4, .int (nI i))]) hx hb dX3_notWorse_39 rfl hl (by decide) rfl (fun ls hl => ?_)
            refine lv_iinc (v := nI (i + 1)) (lv' := [(4, .int (nI (i + 1))), (3, .int (nI (ke ||| (2 ^ i)))), (0, .ref b), (1, .int (nI A)), (2, .int (nI B))]) hx hb dX3_notWorse_40 hl (k := 4) rfl (nI_inc _) (by decide) rfl (fun ls hl => ?_)
            refine lv_goto (tgt := 5) hx hb dX3_notWorse_43 (by decide) ?_
            exact ih5 (i + 1) (ke ||| (2 ^ i)) (by omega) (by omega) (by rw [h1, msk]; simp_all) ls (lv_sub hl [2, 3, 4, 1, 0] rfl)
  exact L5 5 0 0 (by omega) (by omega) rfl ls (lv_sub hl [2, 3, 4, 1, 0] rfl)
end
section
/-! ===== greatest and least, orders, common factors ===== -/
/-- the least, the greatest of f 0 .. f k -/
def mnF (f : Nat → Int32) : Nat → Int32
  | 0 => f 0
  | k + 1 => if f (k + 1) < mnF f k then f (k + 1) else mnF f k
def mxF (f : Nat → Int32) : Nat → Int32
  | 0 => f 0
  | k + 1 => if mxF f k < f (k + 1) then f (k + 1) else mxF f k
def leastF (P : Nat → Int32) (n own : Nat) : Int32 := mnF (fun k => P (own * 4 + k)) (n - 1)
def leastA (P : Nat → Int32) (ch k : Nat) : Int32 := mnF (fun o => P (o * 4 + k)) (ch - 1)
def mostA (P : Nat → Int32) (ch k : Nat) : Int32 := mxF (fun o => P (o * 4 + k)) (ch - 1)
def sureP (P : Nat → Int32) (ch n : Nat) : Int32 := mxF (leastF P n) (ch - 1)
def holdP (P : Nat → Int32) (ch n : Nat) : Int32 := mnF (mostA P ch) (n - 1)
/-- the farthest of the first k pays from 0 -/
def farL (P : Nat → Int32) : Nat → Int32
  | 0 => 0
  | k + 1 => if farL P k < (if 0 ≤ P k then P k else 0 - P k) then (if 0 ≤ P k then P k else 0 - P k) else farL P k
def zeroB (P P' : Nat → Int32) (a b : Nat) : Bool := (List.range a).all fun i => (List.range b).all fun k => decide (P (i * 4 + k) + P' (k * 4 + i) = 0)
theorem zeroB_iff {P P' : Nat → Int32} {a b : Nat} : zeroB P P' a b = true ↔ ∀ i, i < a → ∀ k, k < b → P (i * 4 + k) + P' (k * 4 + i) = 0 := by
  simp [zeroB, List.all_eq_true]
def likeB (P P' : Nat → Int32) (a b : Nat) : Bool := decide (a = b) && (List.range 16).all fun j => decide (P j = P' j)
theorem likeB_iff {P P' : Nat → Int32} {a b : Nat} : likeB P P' a b = true ↔ a = b ∧ ∀ j, j < 16 → P j = P' j := by
  simp [likeB, List.all_eq_true]
/-- below 0 if the shares X by t stand ahead of Y by u -/
def ordM (X : Nat → Int64) (t : Int64) (Y : Nat → Int64) (u : Int64) : Int32 := match fst4 (fun k => !decide (X k * u = Y k * t)) with
  | none => 0
  | some k => if Y k * t < X k * u then -1 else 1
def fitB (u1 n1 u2 n2 : Nat) : Bool := decide (u1 &&& (15 ^^^ n2) = 0) && decide (u2 &&& (15 ^^^ n1) = 0)
def isW (q : Int32) : Bool := decide (q = 0) || decide (q = 1)
/-- the common factor, by k steps -/
def cfL : Nat → Int64 → Int64 → Int64
  | 0, a, _ => a
  | k + 1, a, b => if b = 0 then a else cfL k b (a - a / b * b)
def absL (x : Int64) : Int64 := if 0 < x then x else -x
def lowS (t b : Int64) (w : Int32) : Int64 := if 0 < cfL 100 (absL t) b then (if w = 0 then t / cfL 100 (absL t) b else b / cfL 100 (absL t) b) else 0
def popc (u : Nat) : Nat := u % 2 + u / 2 % 2 + u / 4 % 2 + u / 8 % 2
set_option maxHeartbeats 4000000 in
set_option maxRecDepth 100000 in
theorem c_X3_leastFor (l : Launch) {G : gG} {T : gTy} {I : gI} {J : gJ} {Q : gR} {O : gO} {H : Heap} (hP : gP G T I J Q O H) {b ch own nn : Nat} (hpl : isPl T O b ch) (ho : own < 4) (hn : 1 ≤ nn ∧ nn ≤ 4) : Met l yX3_leastFor (gw yX3_leastFor cX3_leastFor 5 (some (.int))) ({ frames := 1, cells := 0, slots := 0, locals := 24 } : Room) (gPc G H [.ref b, .int (nI own), .int (nI nn)]) (gQp (some (.int (leastF (I (b + 9)) nn own)))) 0 0 (fun _ => False) := by
  refine g_met [(0, .ref b), (1, .int (nI own)), (2, .int (nI nn))] (by decide) rfl (by exact Nat.le_of_ble_eq_true rfl) ?_
  intro p e s m below meth c hC hs ls hl
  have hx := hC.1.1
  have hb := hC.1.2.1
  have hpl_lo := hpl.2.2.2.2.2.2.2.2.1
  have hpl_hi := hpl.2.2.2.2.2.2.2.2.2
  refine lv_aload_n hx hb dX3_leastFor_0 rfl (lv_at hl 0 rfl) ?_
  refine lv_iload_n hx hb dX3_leastFor_1 rfl (lv_at hl 1 rfl) ?_
  refine lv_iconst (v := nI 0) hx hb dX3_leastFor_2 (by decide) ?_
  refine g_cp (g_rV (As := [.int (nI own), .int (nI 0)]) hC hP (c_X3_payFor l hP (b := b) (ch := ch) (i := own) (k := 0) (by first | assumption | omega) (by first | assumption | omega) (by first | assumption | omega)) hpl.1 rfl ⟨q1_170, q1_216, q1_168, q1_169, q1_2⟩ dd_X3_payFor ⟨Nat.le_of_ble_eq_true rfl, Nat.le_of_ble_eq_true rfl, rfl, rfl⟩ hl.1 rfl (Nat.le_of_ble_eq_true rfl) dX3_leastFor_3 ⟨Nat.le_of_ble_eq_true rfl, Nat.le_of_ble_eq_true rfl⟩) ?_
  refine W.eq (g2 := F0 m 6 ls [.int (I (b + 9) (own * 4 + 0))]) rfl ?_
  refine lv_istore_n (lv' := [(3, .int (I (b + 9) (own * 4 + 0))), (0, .ref b), (1, .int (nI own)), (2, .int (nI nn))]) hx hb dX3_leastFor_6 rfl hl (by decide) rfl (fun ls hl => ?_)
  refine lv_iconst (v := nI 1) hx hb dX3_leastFor_7 (by decide) ?_
  refine lv_istore (lv' := [(4, .int (nI 1)), (3, .int (I (b + 9) (own * 4 + 0))), (0, .ref b), (1, .int (nI own)), (2, .int (nI nn))]) hx hb dX3_leastFor_8 hl (by decide) rfl (fun ls hl => ?_)
  have L10 : ∀ (n10 : Nat) (i : Nat) (v : Int32), 5 ≤ n10 + i → (1 ≤ i ∧ i ≤ nn) → (v = mnF (fun k => I (b + 9) (own * 4 + k)) (i - 1)) → ∀ ls : Array Slot, lv_has ls 5 [(0, .ref b), (1, .int (nI own)), (2, .int (nI nn)), (3, .int v), (4, .int (nI i))] → W p l e ({ frames := 1, cells := 0, slots := 0, locals := 24 } : Room) s m [.ref b, .int (nI own), .int (nI nn)].toArray below meth c H [] 0 0 (MQ below (gQp (some (.int (leastF (I (b + 9)) nn own)))) [.ref b, .int (nI own), .int (nI nn)].toArray s 0 0 (fun _ => False)) (F0 m 10 ls []) := by
    intro n10
    induction n10 with
    | zero => intro i v hn10 hi h1; exact absurd hn10 (by omega)
    | succ n10 ih10 =>
      intro i v hn10 hi h1 ls hl
      refine lv_iload hx hb dX3_leastFor_10 (lv_at hl 4 rfl) ?_
      refine lv_iload_n hx hb dX3_leastFor_12 rfl (lv_at hl 2 rfl) ?_
      refine lv_icmp_ge (tgt := 34) hx hb dX3_leastFor_13 (by decide) (fun c13 => ?_) (fun c13 => ?_)
      · have c13 := (nI_leI (by omega) (by omega)).mp c13
        refine lv_iload_n hx hb dX3_leastFor_34 rfl (lv_at hl 3 rfl) ?_
        refine g_reti hC hs ?_ dX3_leastFor_35
        rw [h1, show i = nn from by omega]; rfl
      · have c13 := mt (nI_leI (by omega) (by omega)).mpr c13
        refine lv_iload_n hx hb dX3_leastFor_16 rfl (lv_at hl 3 rfl) ?_
        refine lv_aload_n hx hb dX3_leastFor_17 rfl (lv_at hl 0 rfl) ?_
        refine lv_iload_n hx hb dX3_leastFor_18 rfl (lv_at hl 1 rfl) ?_
        refine lv_iload hx hb dX3_leastFor_19 (lv_at hl 4 rfl) ?_
        refine g_cp (g_rV (As := [.int (nI own), .int (nI i)]) hC hP (c_X3_payFor l hP (b := b) (ch := ch) (i := own) (k := i) (by first | assumption | omega) (by first | assumption | omega) (by first | assumption | omega)) hpl.1 rfl ⟨q1_170, q1_216, q1_168, q1_169, q1_2⟩ dd_X3_payFor ⟨Nat.le_of_ble_eq_true rfl, Nat.le_of_ble_eq_true rfl, rfl, rfl⟩ hl.1 rfl (Nat.le_of_ble_eq_true rfl) dX3_leastFor_21 ⟨Nat.le_of_ble_eq_true rfl, Nat.le_of_ble_eq_true rfl⟩) ?_
        refine W.eq (g2 := F0 m 24 ls [.int (I (b + 9) (own * 4 + i)), .int v]) rfl ?_
        refine va_mmin hx hb (hC.1.2.2.1.trans hl.1.symm) hC.1.2.2.2.1 (hC.1.2.2.2.2 _ q2_59) (hC.1.2.2.2.2 _ q2_60) (hC.1.2.2.2.2 _ q1_7) (hC.1.2.2.2.2 _ q2_61) (Nat.le_of_ble_eq_true rfl) (Nat.le_of_ble_eq_true rfl) (Nat.le_of_ble_eq_true rfl) (Nat.le_of_ble_eq_true rfl) dX3_leastFor_24 ?_
        refine lv_istore_n (lv' := [(3, .int (if (I (b + 9) (own * 4 + i)) < v then I (b + 9) (own * 4 + i) else v)), (0, .ref b), (1, .int (nI own)), (2, .int (nI nn)), (4, .int (nI i))]) hx hb dX3_leastFor_27 rfl hl (by decide) rfl (fun ls hl => ?_)
        refine lv_iinc (v := nI (i + 1)) (lv' := [(4, .int (nI (i + 1))), (3, .int (if (I (b + 9) (own * 4 + i)) < v then I (b + 9) (own * 4 + i) else v)), (0, .ref b), (1, .int (nI own)), (2, .int (nI nn))]) hx hb dX3_leastFor_28 hl (k := 4) rfl (nI_inc _) (by decide) rfl (fun ls hl => ?_)
        refine lv_goto (tgt := 10) hx hb dX3_leastFor_31 (by decide) ?_
        exact ih10 (i + 1) (if (I (b + 9) (own * 4 + i)) < v then I (b + 9) (own * 4 + i) else v) (by omega) (by omega) (by rw [Nat.add_sub_cancel, show i = (i - 1) + 1 from by omega, mnF, ← h1, show (i - 1) + 1 = i from by omega]) ls (lv_sub hl [2, 3, 4, 1, 0] rfl)
  exact L10 5 1 (I (b + 9) (own * 4 + 0)) (by omega) (by omega) rfl ls (lv_sub hl [2, 3, 4, 1, 0] rfl)
set_option maxHeartbeats 4000000 in
set_option maxRecDepth 100000 in
theorem c_X3_leastAgainst (l : Launch) {G : gG} {T : gTy} {I : gI} {J : gJ} {Q : gR} {O : gO} {H : Heap} (hP : gP G T I J Q O H) {b ch k : Nat} (hpl : isPl T O b ch) (hk : k < 4) : Met l yX3_leastAgainst (gw yX3_leastAgainst cX3_leastAgainst 4 (some (.int))) ({ frames := 1, cells := 0, slots := 0, locals := 24 } : Room) (gPc G H [.ref b, .int (nI k)]) (gQp (some (.int (leastA (I (b + 9)) ch k)))) 0 0 (fun _ => False) := by
  refine g_met [(0, .ref b), (1, .int (nI k))] (by decide) rfl (by exact Nat.le_of_ble_eq_true rfl) ?_
  intro p e s m below meth c hC hs ls hl
  have hx := hC.1.1
  have hb := hC.1.2.1
  have hpl_lo := hpl.2.2.2.2.2.2.2.2.1
  have hpl_hi := hpl.2.2.2.2.2.2.2.2.2
  refine lv_aload_n hx hb dX3_leastAgainst_0 rfl (lv_at hl 0 rfl) ?_
  refine lv_iconst (v := nI 0) hx hb dX3_leastAgainst_1 (by decide) ?_
  refine lv_iload_n hx hb dX3_leastAgainst_2 rfl (lv_at hl 1 rfl) ?_
  refine g_cp (g_rV (As := [.int (nI 0), .int (nI k)]) hC hP (c_X3_payFor l hP (b := b) (ch := ch) (i := 0) (k := k) (by first | assumption | omega) (by first | assumption | omega) (by first | assumption | omega)) hpl.1 rfl ⟨q1_170, q1_216, q1_168, q1_169, q1_2⟩ dd_X3_payFor ⟨Nat.le_of_ble_eq_true rfl, Nat.le_of_ble_eq_true rfl, rfl, rfl⟩ hl.1 rfl (Nat.le_of_ble_eq_true rfl) dX3_leastAgainst_3 ⟨Nat.le_of_ble_eq_true rfl, Nat.le_of_ble_eq_true rfl⟩) ?_
  refine W.eq (g2 := F0 m 6 ls [.int (I (b + 9) (0 * 4 + k))]) rfl ?_
  refine lv_istore_n (lv' := [(2, .int (I (b + 9) (0 * 4 + k))), (0, .ref b), (1, .int (nI k))]) hx hb dX3_leastAgainst_6 rfl hl (by decide) rfl (fun ls hl => ?_)
  refine lv_iconst (v := nI 1) hx hb dX3_leastAgainst_7 (by decide) ?_
  refine lv_istore_n (lv' := [(3, .int (nI 1)), (2, .int (I (b + 9) (0 * 4 + k))), (0, .ref b), (1, .int (nI k))]) hx hb dX3_leastAgainst_8 rfl hl (by decide) rfl (fun ls hl => ?_)
  have L9 : ∀ (n9 : Nat) (i : Nat) (v : Int32), 5 ≤ n9 + i → (1 ≤ i ∧ i ≤ ch) → (v = mnF (fun o => I (b + 9) (o * 4 + k)) (i - 1)) → ∀ ls : Array Slot, lv_has ls 4 [(0, .ref b), (1, .int (nI k)), (2, .int v), (3, .int (nI i))] → W p l e ({ frames := 1, cells := 0, slots := 0, locals := 24 } : Room) s m [.ref b, .int (nI k)].toArray below meth c H [] 0 0 (MQ below (gQp (some (.int (leastA (I (b + 9)) ch k)))) [.ref b, .int (nI k)].toArray s 0 0 (fun _ => False)) (F0 m 9 ls []) := by
    intro n9
    induction n9 with
    | zero => intro i v hn9 hi h1; exact absurd hn9 (by omega)
    | succ n9 ih9 =>
      intro i v hn9 hi h1 ls hl
      refine lv_iload_n hx hb dX3_leastAgainst_9 rfl (lv_at hl 3 rfl) ?_
      refine lv_aload_n hx hb dX3_leastAgainst_10 rfl (lv_at hl 0 rfl) ?_
      refine g_get hC hP hpl.1 rfl inX3 0 (by decide) q1_77 hpl.2.1 dX3_leastAgainst_11 ?_
      refine lv_icmp_ge (tgt := 34) hx hb dX3_leastAgainst_14 (by decide) (fun c14 => ?_) (fun c14 => ?_)
      · have c14 := (nI_leI (by omega) (by omega)).mp c14
        refine lv_iload_n hx hb dX3_leastAgainst_34 rfl (lv_at hl 2 rfl) ?_
        refine g_reti hC hs ?_ dX3_leastAgainst_35
        rw [h1, show i = ch from by omega]; rfl
      · have c14 := mt (nI_leI (by omega) (by omega)).mpr c14
        refine lv_iload_n hx hb dX3_leastAgainst_17 rfl (lv_at hl 2 rfl) ?_
        refine lv_aload_n hx hb dX3_leastAgainst_18 rfl (lv_at hl 0 rfl) ?_
        refine lv_iload_n hx hb dX3_leastAgainst_19 rfl (lv_at hl 3 rfl) ?_
        refine lv_iload_n hx hb dX3_leastAgainst_20 rfl (lv_at hl 1 rfl) ?_
        refine g_cp (g_rV (As := [.int (nI i), .int (nI k)]) hC hP (c_X3_payFor l hP (b := b) (ch := ch) (i := i) (k := k) (by first | assumption | omega) (by first | assumption | omega) (by first | assumption | omega)) hpl.1 rfl ⟨q1_170, q1_216, q1_168, q1_169, q1_2⟩ dd_X3_payFor ⟨Nat.le_of_ble_eq_true rfl, Nat.le_of_ble_eq_true rfl, rfl, rfl⟩ hl.1 rfl (Nat.le_of_ble_eq_true rfl) dX3_leastAgainst_21 ⟨Nat.le_of_ble_eq_true rfl, Nat.le_of_ble_eq_true rfl⟩) ?_
        refine W.eq (g2 := F0 m 24 ls [.int (I (b + 9) (i * 4 + k)), .int v]) rfl ?_
        refine va_mmin hx hb (hC.1.2.2.1.trans hl.1.symm) hC.1.2.2.2.1 (hC.1.2.2.2.2 _ q2_59) (hC.1.2.2.2.2 _ q2_60) (hC.1.2.2.2.2 _ q1_7) (hC.1.2.2.2.2 _ q2_61) (Nat.le_of_ble_eq_true rfl) (Nat.le_of_ble_eq_true rfl) (Nat.le_of_ble_eq_true rfl) (Nat.le_of_ble_eq_true rfl) dX3_leastAgainst_24 ?_
        refine lv_istore_n (lv' := [(2, .int (if (I (b + 9) (i * 4 + k)) < v then I (b + 9) (i * 4 + k) else v)), (0, .ref b), (1, .int (nI k)), (3, .int (nI i))]) hx hb dX3_leastAgainst_27 rfl hl (by decide) rfl (fun ls hl => ?_)
        refine lv_iinc (v := nI (i + 1)) (lv' := [(3, .int (nI (i + 1))), (2, .int (if (I (b + 9) (i * 4 + k)) < v then I (b + 9) (i * 4 + k) else v)), (0, .ref b), (1, .int (nI k))]) hx hb dX3_leastAgainst_28 hl (k := 3) rfl (nI_inc _) (by decide) rfl (fun ls hl => ?_)
        refine lv_goto (tgt := 9) hx hb dX3_leastAgainst_31 (by decide) ?_
        exact ih9 (i + 1) (if (I (b + 9) (i * 4 + k)) < v then I (b + 9) (i * 4 + k) else v) (by omega) (by omega) (by rw [Nat.add_sub_cancel, show i = (i - 1) + 1 from by omega, mnF, ← h1, show (i - 1) + 1 = i from by omega]) ls (lv_sub hl [2, 3, 1, 0] rfl)
  exact L9 5 1 (I (b + 9) (0 * 4 + k)) (by omega) (by omega) rfl ls (lv_sub hl [2, 3, 1, 0] rfl)
set_option maxHeartbeats 4000000 in
set_option maxRecDepth 100000 in
theorem c_X3_mostAgainst (l : Launch) {G : gG} {T : gTy} {I : gI} {J : gJ} {Q : gR} {O : gO} {H : Heap} (hP : gP G T I J Q O H) {b ch k : Nat} (hpl : isPl T O b ch) (hk : k < 4) : Met l yX3_mostAgainst (gw yX3_mostAgainst cX3_mostAgainst 4 (some (.int))) ({ frames := 1, cells := 0, slots := 0, locals := 24 } : Room) (gPc G H [.ref b, .int (nI k)]) (gQp (some (.int (mostA (I (b + 9)) ch k)))) 0 0 (fun _ => False) := by
  refine g_met [(0, .ref b), (1, .int (nI k))] (by decide) rfl (by exact Nat.le_of_ble_eq_true rfl) ?_
  intro p e s m below meth c hC hs ls hl
  have hx := hC.1.1
  have hb := hC.1.2.1
  have hpl_lo := hpl.2.2.2.2.2.2.2.2.1
  have hpl_hi := hpl.2.2.2.2.2.2.2.2.2
  refine lv_aload_n hx hb dX3_mostAgainst_0 rfl (lv_at hl 0 rfl) ?_
  refine lv_iconst (v := nI 0) hx hb dX3_mostAgainst_1 (by decide) ?_
  refine lv_iload_n hx hb dX3_mostAgainst_2 rfl (lv_at hl 1 rfl) ?_
  refine g_cp (g_rV (As := [.int (nI 0), .int (nI k)]) hC hP (c_X3_payFor l hP (b := b) (ch := ch) (i := 0) (k := k) (by first | assumption | omega) (by first | assumption | omega) (by first | assumption | omega)) hpl.1 rfl ⟨q1_170, q1_216, q1_168, q1_169, q1_2⟩ dd_X3_payFor ⟨Nat.le_of_ble_eq_true rfl, Nat.le_of_ble_eq_true rfl, rfl, rfl⟩ hl.1 rfl (Nat.le_of_ble_eq_true rfl) dX3_mostAgainst_3 ⟨Nat.le_of_ble_eq_true rfl, Nat.le_of_ble_eq_true rfl⟩) ?_
  refine W.eq (g2 := F0 m 6 ls [.int (I (b + 9) (0 * 4 + k))]) rfl ?_
  refine lv_istore_n (lv' := [(2, .int (I (b + 9) (0 * 4 + k))), (0, .ref b), (1, .int (nI k))]) hx hb dX3_mostAgainst_6 rfl hl (by decide) rfl (fun ls hl => ?_)
  refine lv_iconst (v := nI 1) hx hb dX3_mostAgainst_7 (by decide) ?_
  refine lv_istore_n (lv' := [(3, .int (nI 1)), (2, .int (I (b + 9) (0 * 4 + k))), (0, .ref b), (1, .int (nI k))]) hx hb dX3_mostAgainst_8 rfl hl (by decide) rfl (fun ls hl => ?_)
  have L9 : ∀ (n9 : Nat) (i : Nat) (v : Int32), 5 ≤ n9 + i → (1 ≤ i ∧ i ≤ ch) → (v = mxF (fun o => I (b + 9) (o * 4 + k)) (i - 1)) → ∀ ls : Array Slot, lv_has ls 4 [(0, .ref b), (1, .int (nI k)), (2, .int v), (3, .int (nI i))] → W p l e ({ frames := 1, cells := 0, slots := 0, locals := 24 } : Room) s m [.ref b, .int (nI k)].toArray below meth c H [] 0 0 (MQ below (gQp (some (.int (mostA (I (b + 9)) ch k)))) [.ref b, .int (nI k)].toArray s 0 0 (fun _ => False)) (F0 m 9 ls []) := by
    intro n9
    induction n9 with
    | zero => intro i v hn9 hi h1; exact absurd hn9 (by omega)
    | succ n9 ih9 =>
      intro i v hn9 hi h1 ls hl
      refine lv_iload_n hx hb dX3_mostAgainst_9 rfl (lv_at hl 3 rfl) ?_
      refine lv_aload_n hx hb dX3_mostAgainst_10 rfl (lv_at hl 0 rfl) ?_
      refine g_get hC hP hpl.1 rfl inX3 0 (by decide) q1_77 hpl.2.1 dX3_mostAgainst_11 ?_
      refine lv_icmp_ge (tgt := 34) hx hb dX3_mostAgainst_14 (by decide) (fun c14 => ?_) (fun c14 => ?_)
      · have c14 := (nI_leI (by omega) (by omega)).mp c14
        refine lv_iload_n hx hb dX3_mostAgainst_34 rfl (lv_at hl 2 rfl) ?_
        refine g_reti hC hs ?_ dX3_mostAgainst_35
        rw [h1, show i = ch from by omega]; rfl
      · have c14 := mt (nI_leI (by omega) (by omega)).mpr c14
        refine lv_iload_n hx hb dX3_mostAgainst_17 rfl (lv_at hl 2 rfl) ?_
        refine lv_aload_n hx hb dX3_mostAgainst_18 rfl (lv_at hl 0 rfl) ?_
        refine lv_iload_n hx hb dX3_mostAgainst_19 rfl (lv_at hl 3 rfl) ?_
        refine lv_iload_n hx hb dX3_mostAgainst_20 rfl (lv_at hl 1 rfl) ?_
        refine g_cp (g_rV (As := [.int (nI i), .int (nI k)]) hC hP (c_X3_payFor l hP (b := b) (ch := ch) (i := i) (k := k) (by first | assumption | omega) (by first | assumption | omega) (by first | assumption | omega)) hpl.1 rfl ⟨q1_170, q1_216, q1_168, q1_169, q1_2⟩ dd_X3_payFor ⟨Nat.le_of_ble_eq_true rfl, Nat.le_of_ble_eq_true rfl, rfl, rfl⟩ hl.1 rfl (Nat.le_of_ble_eq_true rfl) dX3_mostAgainst_21 ⟨Nat.le_of_ble_eq_true rfl, Nat.le_of_ble_eq_true rfl⟩) ?_
        refine W.eq (g2 := F0 m 24 ls [.int (I (b + 9) (i * 4 + k)), .int v]) rfl ?_
        refine va_mmax hx hb (hC.1.2.2.1.trans hl.1.symm) hC.1.2.2.2.1 (hC.1.2.2.2.2 _ q2_62) (hC.1.2.2.2.2 _ q2_63) (hC.1.2.2.2.2 _ q1_7) (hC.1.2.2.2.2 _ q2_64) (Nat.le_of_ble_eq_true rfl) (Nat.le_of_ble_eq_true rfl) (Nat.le_of_ble_eq_true rfl) (Nat.le_of_ble_eq_true rfl) dX3_mostAgainst_24 ?_
        refine lv_istore_n (lv' := [(2, .int (if v < (I (b + 9) (i * 4 + k)) then I (b + 9) (i * 4 + k) else v)), (0, .ref b), (1, .int (nI k)), (3, .int (nI i))]) hx hb dX3_mostAgainst_27 rfl hl (by decide) rfl (fun ls hl => ?_)
        refine lv_iinc (v := nI (i + 1)) (lv' := [(3, .int (nI (i + 1))), (2, .int (if v < (I (b + 9) (i * 4 + k)) then I (b + 9) (i * 4 + k) else v)), (0, .ref b), (1, .int (nI k))]) hx hb dX3_mostAgainst_28 hl (k := 3) rfl (nI_inc _) (by decide) rfl (fun ls hl => ?_)
        refine lv_goto (tgt := 9) hx hb dX3_mostAgainst_31 (by decide) ?_
        exact ih9 (i + 1) (if v < (I (b + 9) (i * 4 + k)) then I (b + 9) (i * 4 + k) else v) (by omega) (by omega) (by rw [Nat.add_sub_cancel, show i = (i - 1) + 1 from by omega, mxF, ← h1, show (i - 1) + 1 = i from by omega]) ls (lv_sub hl [2, 3, 1, 0] rfl)
  exact L9 5 1 (I (b + 9) (0 * 4 + k)) (by omega) (by omega) rfl ls (lv_sub hl [2, 3, 1, 0] rfl)
set_option maxHeartbeats 4000000 in
set_option maxRecDepth 100000 in
theorem c_X3_surePay (l : Launch) {G : gG} {T : gTy} {I : gI} {J : gJ} {Q : gR} {O : gO} {H : Heap} (hP : gP G T I J Q O H) {b ch nn : Nat} (hpl : isPl T O b ch) (hn : 1 ≤ nn ∧ nn ≤ 4) : Met l yX3_surePay (gw yX3_surePay cX3_surePay 4 (some (.int))) ({ frames := 2, cells := 0, slots := 0, locals := 48 } : Room) (gPc G H [.ref b, .int (nI nn)]) (gQp (some (.int (sureP (I (b + 9)) ch nn)))) 0 0 (fun _ => False) := by
  refine g_met [(0, .ref b), (1, .int (nI nn))] (by decide) rfl (by exact Nat.le_of_ble_eq_true rfl) ?_
  intro p e s m below meth c hC hs ls hl
  have hx := hC.1.1
  have hb := hC.1.2.1
  have hpl_lo := hpl.2.2.2.2.2.2.2.2.1
  have hpl_hi := hpl.2.2.2.2.2.2.2.2.2
  refine lv_aload_n hx hb dX3_surePay_0 rfl (lv_at hl 0 rfl) ?_
  refine lv_iconst (v := nI 0) hx hb dX3_surePay_1 (by decide) ?_
  refine lv_iload_n hx hb dX3_surePay_2 rfl (lv_at hl 1 rfl) ?_
  refine g_cp (g_rV (As := [.int (nI 0), .int (nI nn)]) hC hP (c_X3_leastFor l hP (b := b) (ch := ch) (own := 0) (nn := nn) (by first | assumption | omega) (by first | assumption | omega) (by first | assumption | omega)) hpl.1 rfl ⟨q2_58, q2_55, q2_57, qs_8, q1_2⟩ dd_X3_leastFor ⟨Nat.le_of_ble_eq_true rfl, Nat.le_of_ble_eq_true rfl, rfl, rfl⟩ hl.1 rfl (Nat.le_of_ble_eq_true rfl) dX3_surePay_3 ⟨Nat.le_of_ble_eq_true rfl, Nat.le_of_ble_eq_true rfl⟩) ?_
  refine W.eq (g2 := F0 m 6 ls [.int (leastF (I (b + 9)) nn 0)]) rfl ?_
  refine lv_istore_n (lv' := [(2, .int (leastF (I (b + 9)) nn 0)), (0, .ref b), (1, .int (nI nn))]) hx hb dX3_surePay_6 rfl hl (by decide) rfl (fun ls hl => ?_)
  refine lv_iconst (v := nI 1) hx hb dX3_surePay_7 (by decide) ?_
  refine lv_istore_n (lv' := [(3, .int (nI 1)), (2, .int (leastF (I (b + 9)) nn 0)), (0, .ref b), (1, .int (nI nn))]) hx hb dX3_surePay_8 rfl hl (by decide) rfl (fun ls hl => ?_)
  have L9 : ∀ (n9 : Nat) (i : Nat) (v : Int32), 5 ≤ n9 + i → (1 ≤ i ∧ i ≤ ch) → (v = mxF (leastF (I (b + 9)) nn) (i - 1)) → ∀ ls : Array Slot, lv_has ls 4 [(0, .ref b), (1, .int (nI nn)), (2, .int v), (3, .int (nI i))] → W p l e ({ frames := 2, cells := 0, slots := 0, locals := 48 } : Room) s m [.ref b, .int (nI nn)].toArray below meth c H [] 0 0 (MQ below (gQp (some (.int (sureP (I (b + 9)) ch nn)))) [.ref b, .int (nI nn)].toArray s 0 0 (fun _ => False)) (F0 m 9 ls []) := by
    intro n9
    induction n9 with
    | zero => intro i v hn9 hi h1; exact absurd hn9 (by omega)
    | succ n9 ih9 =>
      intro i v hn9 hi h1 ls hl
      refine lv_iload_n hx hb dX3_surePay_9 rfl (lv_at hl 3 rfl) ?_
      refine lv_aload_n hx hb dX3_surePay_10 rfl (lv_at hl 0 rfl) ?_
      refine g_get hC hP hpl.1 rfl inX3 0 (by decide) q1_77 hpl.2.1 dX3_surePay_11 ?_
      refine lv_icmp_ge (tgt := 34) hx hb dX3_surePay_14 (by decide) (fun c14 => ?_) (fun c14 => ?_)
      · have c14 := (nI_leI (by omega) (by omega)).mp c14
        refine lv_iload_n hx hb dX3_surePay_34 rfl (lv_at hl 2 rfl) ?_
        refine g_reti hC hs ?_ dX3_surePay_35
        rw [h1, show i = ch from by omega]; rfl
      · have c14 := mt (nI_leI (by omega) (by omega)).mpr c14
        refine lv_iload_n hx hb dX3_surePay_17 rfl (lv_at hl 2 rfl) ?_
        refine lv_aload_n hx hb dX3_surePay_18 rfl (lv_at hl 0 rfl) ?_
        refine lv_iload_n hx hb dX3_surePay_19 rfl (lv_at hl 3 rfl) ?_
        refine lv_iload_n hx hb dX3_surePay_20 rfl (lv_at hl 1 rfl) ?_
        refine g_cp (g_rV (As := [.int (nI i), .int (nI nn)]) hC hP (c_X3_leastFor l hP (b := b) (ch := ch) (own := i) (nn := nn) (by first | assumption | omega) (by first | assumption | omega) (by first | assumption | omega)) hpl.1 rfl ⟨q2_58, q2_55, q2_57, qs_8, q1_2⟩ dd_X3_leastFor ⟨Nat.le_of_ble_eq_true rfl, Nat.le_of_ble_eq_true rfl, rfl, rfl⟩ hl.1 rfl (Nat.le_of_ble_eq_true rfl) dX3_surePay_21 ⟨Nat.le_of_ble_eq_true rfl, Nat.le_of_ble_eq_true rfl⟩) ?_
        refine W.eq (g2 := F0 m 24 ls [.int (leastF (I (b + 9)) nn i), .int v]) rfl ?_
        refine va_mmax hx hb (hC.1.2.2.1.trans hl.1.symm) hC.1.2.2.2.1 (hC.1.2.2.2.2 _ q2_62) (hC.1.2.2.2.2 _ q2_63) (hC.1.2.2.2.2 _ q1_7) (hC.1.2.2.2.2 _ q2_64) (Nat.le_of_ble_eq_true rfl) (Nat.le_of_ble_eq_true rfl) (Nat.le_of_ble_eq_true rfl) (Nat.le_of_ble_eq_true rfl) dX3_surePay_24 ?_
        refine lv_istore_n (lv' := [(2, .int (if v < (leastF (I (b + 9)) nn i) then leastF (I (b + 9)) nn i else v)), (0, .ref b), (1, .int (nI nn)), (3, .int (nI i))]) hx hb dX3_surePay_27 rfl hl (by decide) rfl (fun ls hl => ?_)
        refine lv_iinc (v := nI (i + 1)) (lv' := [(3, .int (nI (i + 1))), (2, .int (if v < (leastF (I (b + 9)) nn i) then leastF (I (b + 9)) nn i else v)), (0, .ref b), (1, .int (nI nn))]) hx hb dX3_surePay_28 hl (k := 3) rfl (nI_inc _) (by decide) rfl (fun ls hl => ?_)
        refine lv_goto (tgt := 9) hx hb dX3_surePay_31 (by decide) ?_
        exact ih9 (i + 1) (if v < (leastF (I (b + 9)) nn i) then leastF (I (b + 9)) nn i else v) (by omega) (by omega) (by rw [Nat.add_sub_cancel, show i = (i - 1) + 1 from by omega, mxF, ← h1, show (i - 1) + 1 = i from by omega]) ls (lv_sub hl [2, 3, 1, 0] rfl)
  exact L9 5 1 (leastF (I (b + 9)) nn 0) (by omega) (by omega) rfl ls (lv_sub hl [2, 3, 1, 0] rfl)
set_option maxHeartbeats 4000000 in
set_option maxRecDepth 100000 in
theorem c_X3_holdPay (l : Launch) {G : gG} {T : gTy} {I : gI} {J : gJ} {Q : gR} {O : gO} {H : Heap} (hP : gP G T I J Q O H) {b ch nn : Nat} (hpl : isPl T O b ch) (hn : 1 ≤ nn ∧ nn ≤ 4) : Met l yX3_holdPay (gw yX3_holdPay cX3_holdPay 4 (some (.int))) ({ frames := 2, cells := 0, slots := 0, locals := 47 } : Room) (gPc G H [.ref b, .int (nI nn)]) (gQp (some (.int (holdP (I (b + 9)) ch nn)))) 0 0 (fun _ => False) := by
  refine g_met [(0, .ref b), (1, .int (nI nn))] (by decide) rfl (by exact Nat.le_of_ble_eq_true rfl) ?_
  intro p e s m below meth c hC hs ls hl
  have hx := hC.1.1
  have hb := hC.1.2.1
  have hpl_lo := hpl.2.2.2.2.2.2.2.2.1
  have hpl_hi := hpl.2.2.2.2.2.2.2.2.2
  refine lv_aload_n hx hb dX3_holdPay_0 rfl (lv_at hl 0 rfl) ?_
  refine lv_iconst (v := nI 0) hx hb dX3_holdPay_1 (by decide) ?_
  refine g_cp (g_rV (As := [.int (nI 0)]) hC hP (c_X3_mostAgainst l hP (b := b) (ch := ch) (k := 0) (by first | assumption | omega) (by first | assumption | omega)) hpl.1 rfl ⟨q2_76, q2_73, q2_74, q2_75, q1_2⟩ dd_X3_mostAgainst ⟨Nat.le_of_ble_eq_true rfl, Nat.le_of_ble_eq_true rfl, rfl, rfl⟩ hl.1 rfl (Nat.le_of_ble_eq_true rfl) dX3_holdPay_2 ⟨Nat.le_of_ble_eq_true rfl, Nat.le_of_ble_eq_true rfl⟩) ?_
  refine W.eq (g2 := F0 m 5 ls [.int (mostA (I (b + 9)) ch 0)]) rfl ?_
  refine lv_istore_n (lv' := [(2, .int (mostA (I (b + 9)) ch 0)), (0, .ref b), (1, .int (nI nn))]) hx hb dX3_holdPay_5 rfl hl (by decide) rfl (fun ls hl => ?_)
  refine lv_iconst (v := nI 1) hx hb dX3_holdPay_6 (by decide) ?_
  refine lv_istore_n (lv' := [(3, .int (nI 1)), (2, .int (mostA (I (b + 9)) ch 0)), (0, .ref b), (1, .int (nI nn))]) hx hb dX3_holdPay_7 rfl hl (by decide) rfl (fun ls hl => ?_)
  have L8 : ∀ (n8 : Nat) (i : Nat) (v : Int32), 5 ≤ n8 + i → (1 ≤ i ∧ i ≤ nn) → (v = mnF (mostA (I (b + 9)) ch) (i - 1)) → ∀ ls : Array Slot, lv_has ls 4 [(0, .ref b), (1, .int (nI nn)), (2, .int v), (3, .int (nI i))] → W p l e ({ frames := 2, cells := 0, slots := 0, locals := 47 } : Room) s m [.ref b, .int (nI nn)].toArray below meth c H [] 0 0 (MQ below (gQp (some (.int (holdP (I (b + 9)) ch nn)))) [.ref b, .int (nI nn)].toArray s 0 0 (fun _ => False)) (F0 m 8 ls []) := by
    intro n8
    induction n8 with
    | zero => intro i v hn8 hi h1; exact absurd hn8 (by omega)
    | succ n8 ih8 =>
      intro i v hn8 hi h1 ls hl
      refine lv_iload_n hx hb dX3_holdPay_8 rfl (lv_at hl 3 rfl) ?_
      refine lv_iload_n hx hb dX3_holdPay_9 rfl (lv_at hl 1 rfl) ?_
      refine lv_icmp_ge (tgt := 29) hx hb dX3_holdPay_10 (by decide) (fun c10 => ?_) (fun c10 => ?_)
      · have c10 := (nI_leI (by omega) (by omega)).mp c10
        refine lv_iload_n hx hb dX3_holdPay_29 rfl (lv_at hl 2 rfl) ?_
        refine g_reti hC hs ?_ dX3_holdPay_30
        rw [h1, show i = nn from by omega]; rfl
      · have c10 := mt (nI_leI (by omega) (by omega)).mpr c10
        refine lv_iload_n hx hb dX3_holdPay_13 rfl (lv_at hl 2 rfl) ?_
        refine lv_aload_n hx hb dX3_holdPay_14 rfl (lv_at hl 0 rfl) ?_
        refine lv_iload_n hx hb dX3_holdPay_15 rfl (lv_at hl 3 rfl) ?_
        refine g_cp (g_rV (As := [.int (nI i)]) hC hP (c_X3_mostAgainst l hP (b := b) (ch := ch) (k := i) (by first | assumption | omega) (by first | assumption | omega)) hpl.1 rfl ⟨q2_76, q2_73, q2_74, q2_75, q1_2⟩ dd_X3_mostAgainst ⟨Nat.le_of_ble_eq_true rfl, Nat.le_of_ble_eq_true rfl, rfl, rfl⟩ hl.1 rfl (Nat.le_of_ble_eq_true rfl) dX3_holdPay_16 ⟨Nat.le_of_ble_eq_true rfl, Nat.le_of_ble_eq_true rfl⟩) ?_
        refine W.eq (g2 := F0 m 19 ls [.int (mostA (I (b + 9)) ch i), .int v]) rfl ?_
        refine va_mmin hx hb (hC.1.2.2.1.trans hl.1.symm) hC.1.2.2.2.1 (hC.1.2.2.2.2 _ q2_59) (hC.1.2.2.2.2 _ q2_60) (hC.1.2.2.2.2 _ q1_7) (hC.1.2.2.2.2 _ q2_61) (Nat.le_of_ble_eq_true rfl) (Nat.le_of_ble_eq_true rfl) (Nat.le_of_ble_eq_true rfl) (Nat.le_of_ble_eq_true rfl) dX3_holdPay_19 ?_
        refine lv_istore_n (lv' := [(2, .int (if (mostA (I (b + 9)) ch i) < v then mostA (I (b + 9)) ch i else v)), (0, .ref b), (1, .int (nI nn)), (3, .int (nI i))]) hx hb dX3_holdPay_22 rfl hl (by decide) rfl (fun ls hl => ?_)
        refine lv_iinc (v := nI (i + 1)) (lv' := [(3, .int (nI (i + 1))), (2, .int (if (mostA (I (b + 9)) ch i) < v then mostA (I (b + 9)) ch i else v)), (0, .ref b), (1, .int (nI nn))]) hx hb dX3_holdPay_23 hl (k := 3) rfl (nI_inc _) (by decide) rfl (fun ls hl => ?_)
        refine lv_goto (tgt := 8) hx hb dX3_holdPay_26 (by decide) ?_
        exact ih8 (i + 1) (if (mostA (I (b + 9)) ch i) < v then mostA (I (b + 9)) ch i else v) (by omega) (by omega) (by rw [Nat.add_sub_cancel, show i = (i - 1) + 1 from by omega, mnF, ← h1, show (i - 1) + 1 = i from by omega]) ls (lv_sub hl [2, 3, 1, 0] rfl)
  exact L8 5 1 (mostA (I (b + 9)) ch 0) (by omega) (by omega) rfl ls (lv_sub hl [2, 3, 1, 0] rfl)
set_option maxHeartbeats 4000000 in
set_option maxRecDepth 100000 in
theorem c_X3_farthestPay (l : Launch) {G : gG} {T : gTy} {I : gI} {J : gJ} {Q : gR} {O : gO} {H : Heap} (hP : gP G T I J Q O H) {b ch : Nat} (hpl : isPl T O b ch) : Met l yX3_farthestPay (gw yX3_farthestPay cX3_farthestPay 3 (some (.int))) ({ frames := 1, cells := 0, slots := 0, locals := 24 } : Room) (gPc G H [.ref b]) (gQp (some (.int (farL (I (b + 9)) 16)))) 0 0 (fun _ => False) := by
  refine g_met [(0, .ref b)] (by decide) rfl (by exact Nat.le_of_ble_eq_true rfl) ?_
  intro p e s m below meth c hC hs ls hl
  have hx := hC.1.1
  have hb := hC.1.2.1
  have hpl_lo := hpl.2.2.2.2.2.2.2.2.1
  have hpl_hi := hpl.2.2.2.2.2.2.2.2.2
  refine lv_iconst (v := nI 0) hx hb dX3_farthestPay_0 (by decide) ?_
  refine lv_istore_n (lv' := [(1, .int (nI 0)), (0, .ref b)]) hx hb dX3_farthestPay_1 rfl hl (by decide) rfl (fun ls hl => ?_)
  refine lv_iconst (v := nI 0) hx hb dX3_farthestPay_2 (by decide) ?_
  refine lv_istore_n (lv' := [(2, .int (nI 0)), (1, .int (nI 0)), (0, .ref b)]) hx hb dX3_farthestPay_3 rfl hl (by decide) rfl (fun ls hl => ?_)
  have L4 : ∀ (n4 : Nat) (i : Nat) (v : Int32), 17 ≤ n4 + i → (i ≤ 16) → (v = farL (I (b + 9)) i) → ∀ ls : Array Slot, lv_has ls 3 [(0, .ref b), (1, .int v), (2, .int (nI i))] → W p l e ({ frames := 1, cells := 0, slots := 0, locals := 24 } : Room) s m [.ref b].toArray below meth c H [] 0 0 (MQ below (gQp (some (.int (farL (I (b + 9)) 16)))) [.ref b].toArray s 0 0 (fun _ => False)) (F0 m 4 ls []) := by
    intro n4
    induction n4 with
    | zero => intro i v hn4 hi h1; exact absurd hn4 (by omega)
    | succ n4 ih4 =>
      intro i v hn4 hi h1 ls hl
      refine lv_iload_n hx hb dX3_farthestPay_4 rfl (lv_at hl 2 rfl) ?_
      refine lv_aload_n hx hb dX3_farthestPay_5 rfl (lv_at hl 0 rfl) ?_
      refine g_get hC hP hpl.1 rfl inX3 2 (by decide) q1_81 hpl.2.2.2.1 dX3_farthestPay_6 ?_
      refine g_alenI hC hP hpl.2.2.2.2.2.2.1 dX3_farthestPay_9 ?_
      refine lv_icmp_ge (tgt := 33) hx hb dX3_farthestPay_10 (by decide) (fun c10 => ?_) (fun c10 => ?_)
      · have c10 := (nI_leI (by omega) (by omega)).mp c10
        refine lv_iload_n hx hb dX3_farthestPay_33 rfl (lv_at hl 1 rfl) ?_
        refine g_reti hC hs ?_ dX3_farthestPay_34
        rw [h1, show i = 16 from by omega]
      · have c10 := mt (nI_leI (by omega) (by omega)).mpr c10
        refine lv_iload_n hx hb dX3_farthestPay_13 rfl (lv_at hl 1 rfl) ?_
        refine lv_aload_n hx hb dX3_farthestPay_14 rfl (lv_at hl 0 rfl) ?_
        refine g_get hC hP hpl.1 rfl inX3 2 (by decide) q1_81 hpl.2.2.2.1 dX3_farthestPay_15 ?_
        refine lv_iload_n hx hb dX3_farthestPay_18 rfl (lv_at hl 2 rfl) ?_
        refine g_iald hC hP hpl.2.2.2.2.2.2.1 (vp_in_nI (by omega) (by decide)) dX3_farthestPay_19 ?_
        refine g_topi (y := I (b + 9) i) (congrArg (I (b + 9)) (nI_clamp (by omega))) ?_
        refine va_mabs hx hb (hC.1.2.2.1.trans hl.1.symm) hC.1.2.2.2.1 (hC.1.2.2.2.2 _ q2_217) (hC.1.2.2.2.2 _ q2_218) (hC.1.2.2.2.2 _ q1_7) (hC.1.2.2.2.2 _ q2_219) (Nat.le_of_ble_eq_true rfl) (Nat.le_of_ble_eq_true rfl) (Nat.le_of_ble_eq_true rfl) (Nat.le_of_ble_eq_true rfl) dX3_farthestPay_20 ?_
        refine va_mmax hx hb (hC.1.2.2.1.trans hl.1.symm) hC.1.2.2.2.1 (hC.1.2.2.2.2 _ q2_62) (hC.1.2.2.2.2 _ q2_63) (hC.1.2.2.2.2 _ q1_7) (hC.1.2.2.2.2 _ q2_64) (Nat.le_of_ble_eq_true rfl) (Nat.le_of_ble_eq_true rfl) (Nat.le_of_ble_eq_true rfl) (Nat.le_of_ble_eq_true rfl) dX3_farthestPay_23 ?_
        refine lv_istore_n (lv' := [(1, .int (if v < (if 0 ≤ I (b + 9) i then I (b + 9) i else 0 - (I (b + 9) i)) then if 0 ≤ I (b + 9) i then I (b + 9) i else 0 - (I (b + 9) i) else v)), (0, .ref b), (2, .int (nI i))]) hx hb dX3_farthestPay_26 rfl hl (by decide) rfl (fun ls hl => ?_)
        refine lv_iinc (v := nI (i + 1)) (lv' := [(2, .int (nI (i + 1))), (1, .int (if v < (if 0 ≤ I (b + 9) i then I (b + 9) i else 0 - (I (b + 9) i)) then if 0 ≤ I (b + 9) i then I (b + 9) i else 0 - (I (b + 9) i) else v)), (0, .ref b)]) hx hb dX3_farthestPay_27 hl (k := 2) rfl (nI_inc _) (by decide) rfl (fun ls hl => ?_)
        refine lv_goto (tgt := 4) hx hb dX3_farthestPay_30 (by decide) ?_
        exact ih4 (i + 1) (if v < (if 0 ≤ I (b + 9) i then I (b + 9) i else 0 - (I (b + 9) i)) then if 0 ≤ I (b + 9) i then I (b + 9) i else 0 - (I (b + 9) i) else v) (by omega) (by omega) (by rw [farL, ← h1]) ls (lv_sub hl [2, 1, 0] rfl)
  exact L4 17 0 (nI 0) (by omega) (by omega) rfl ls (lv_sub hl [2, 1, 0] rfl)
set_option maxHeartbeats 4000000 in
set_option maxRecDepth 100000 in
theorem c_X3_takesFrom (l : Launch) {G : gG} {T : gTy} {I : gI} {J : gJ} {Q : gR} {O : gO} {H : Heap} (hP : gP G T I J Q O H) {b ch d dh : Nat} (hpl : isPl T O b ch) (hpk : isPl T O d dh) : Met l yX3_takesFrom (gw yX3_takesFrom cX3_takesFrom 4 (some (.boolean))) ({ frames := 1, cells := 0, slots := 0, locals := 22 } : Room) (gPc G H [.ref b, .ref d]) (gQp (some (.int (gb (zeroB (I (b + 9)) (I (d + 9)) ch dh))))) 0 0 (fun _ => False) := by
  refine g_met [(0, .ref b), (1, .ref d)] (by decide) rfl (by exact Nat.le_of_ble_eq_true rfl) ?_
  intro p e s m below meth c hC hs ls hl
  have hx := hC.1.1
  have hb := hC.1.2.1
  have hpl_lo := hpl.2.2.2.2.2.2.2.2.1
  have hpl_hi := hpl.2.2.2.2.2.2.2.2.2
  have hpk_lo := hpk.2.2.2.2.2.2.2.2.1
  have hpk_hi := hpk.2.2.2.2.2.2.2.2.2
  refine lv_iconst (v := nI 0) hx hb dX3_takesFrom_0 (by decide) ?_
  refine lv_istore_n (lv' := [(2, .int (nI 0)), (0, .ref b), (1, .ref d)]) hx hb dX3_takesFrom_1 rfl hl (by decide) rfl (fun ls hl => ?_)
  have L2 : ∀ (n2 : Nat) (i : Nat), 5 ≤ n2 + i → (i ≤ ch) → (∀ a, a < i → ∀ k, k < dh → I (b + 9) (a * 4 + k) + I (d + 9) (k * 4 + a) = 0) → ∀ ls : Array Slot, lv_has ls 4 [(0, .ref b), (1, .ref d), (2, .int (nI i))] → W p l e ({ frames := 1, cells := 0, slots := 0, locals := 22 } : Room) s m [.ref b, .ref d].toArray below meth c H [] 0 0 (MQ below (gQp (some (.int (gb (zeroB (I (b + 9)) (I (d + 9)) ch dh))))) [.ref b, .ref d].toArray s 0 0 (fun _ => False)) (F0 m 2 ls []) := by
    intro n2
    induction n2 with
    | zero => intro i hn2 hi h1; exact absurd hn2 (by omega)
    | succ n2 ih2 =>
      intro i hn2 hi h1 ls hl
      refine lv_iload_n hx hb dX3_takesFrom_2 rfl (lv_at hl 2 rfl) ?_
      refine lv_aload_n hx hb dX3_takesFrom_3 rfl (lv_at hl 0 rfl) ?_
      refine g_get hC hP hpl.1 rfl inX3 0 (by decide) q1_77 hpl.2.1 dX3_takesFrom_4 ?_
      refine lv_icmp_ge (tgt := 50) hx hb dX3_takesFrom_7 (by decide) (fun c7 => ?_) (fun c7 => ?_)
      · have c7 := (nI_leI (by omega) (by omega)).mp c7
        refine lv_iconst (v := nI 1) hx hb dX3_takesFrom_50 (by decide) ?_
        refine g_retz hC hs ?_ dX3_takesFrom_51
        rw [show zeroB (I (b + 9)) (I (d + 9)) ch dh = true from zeroB_iff.mpr (fun a h k hk => h1 a (by omega) k hk)]; rfl
      · have c7 := mt (nI_leI (by omega) (by omega)).mpr c7
        refine lv_iconst (v := nI 0) hx hb dX3_takesFrom_10 (by decide) ?_
        refine lv_istore_n (lv' := [(3, .int (nI 0)), (0, .ref b), (1, .ref d), (2, .int (nI i))]) hx hb dX3_takesFrom_11 rfl hl (by decide) rfl (fun ls hl => ?_)
        have L12 : ∀ (n12 : Nat) (j : Nat), 5 ≤ n12 + j → (j ≤ dh) → (∀ k, k < j → I (b + 9) (i * 4 + k) + I (d + 9) (k * 4 + i) = 0) → ∀ ls : Array Slot, lv_has ls 4 [(0, .ref b), (1, .ref d), (2, .int (nI i)), (3, .int (nI j))] → W p l e ({ frames := 1, cells := 0, slots := 0, locals := 22 } : Room) s m [.ref b, .ref d].toArray below meth c H [] 0 0 (MQ below (gQp (some (.int (gb (zeroB (I (b + 9)) (I (d + 9)) ch dh))))) [.ref b, .ref d].toArray s 0 0 (fun _ => False)) (F0 m 12 ls []) := by
          intro n12
          induction n12 with
          | zero => intro j hn12 hj h2; exact absurd hn12 (by omega)
          | succ n12 ih12 =>
            intro j hn12 hj h2 ls hl
            refine lv_iload_n hx hb dX3_takesFrom_12 rfl (lv_at hl 3 rfl) ?_
            refine lv_aload_n hx hb dX3_takesFrom_13 rfl (lv_at hl 1 rfl) ?_
            refine g_get hC hP hpk.1 rfl inX3 0 (by decide) q1_77 hpk.2.1 dX3_takesFrom_14 ?_
            refine lv_icmp_ge (tgt := 44) hx hb dX3_takesFrom_17 (by decide) (fun c17 => ?_) (fun c17 => ?_)
            · have c17 := (nI_leI (by omega) (by omega)).mp c17
              refine lv_iinc (v := nI (i + 1)) (lv' := [(2, .int (nI (i + 1))), (0, .ref b), (1, .ref d), (3, .int (nI j))]) hx hb dX3_takesFrom_44 hl (k := 2) rfl (nI_inc _) (by decide) rfl (fun ls hl => ?_)
              refine lv_goto (tgt := 2) hx hb dX3_takesFrom_47 (by decide) ?_
              exact ih2 (i + 1) (by omega) (by omega) (fun a h k hk => by rcases Nat.lt_succ_iff_lt_or_eq.mp h with h | rfl <;> first | exact h1 a h k hk | exact h2 k (by omega)) ls (lv_sub hl [1, 2, 0] rfl)
            · have c17 := mt (nI_leI (by omega) (by omega)).mpr c17
              refine lv_aload_n hx hb dX3_takesFrom_20 rfl (lv_at hl 0 rfl) ?_
              refine lv_iload_n hx hb dX3_takesFrom_21 rfl (lv_at hl 2 rfl) ?_
              refine lv_iload_n hx hb dX3_takesFrom_22 rfl (lv_at hl 3 rfl) ?_
              refine g_cp (g_rV (As := [.int (nI i), .int (nI j)]) hC hP (c_X3_payFor l hP (b := b) (ch := ch) (i := i) (k := j) (by first | assumption | omega) (by first | assumption | omega) (by first | assumption | omega)) hpl.1 rfl ⟨q1_170, q1_216, q1_168, q1_169, q1_2⟩ dd_X3_payFor ⟨Nat.le_of_ble_eq_true rfl, Nat.le_of_ble_eq_true rfl, rfl, rfl⟩ hl.1 rfl (Nat.le_of_ble_eq_true rfl) dX3_takesFrom_23 ⟨Nat.le_of_ble_eq_true rfl, Nat.le_of_ble_eq_true rfl⟩) ?_
              refine W.eq (g2 := F0 m 26 ls [.int (I (b + 9) (i * 4 + j))]) rfl ?_
              refine lv_aload_n hx hb dX3_takesFrom_26 rfl (lv_at hl 1 rfl) ?_
              refine lv_iload_n hx hb dX3_takesFrom_27 rfl (lv_at hl 3 rfl) ?_
              refine lv_iload_n hx hb dX3_takesFrom_28 rfl (lv_at hl 2 rfl) ?_
              refine g_cp (g_rV (As := [.int (nI j), .int (nI i)]) hC hP (c_X3_payFor l hP (b := d) (ch := dh) (i := j) (k := i) (by first | assumption | omega) (by first | assumption | omega) (by first | assumption | omega)) hpk.1 rfl ⟨q1_170, q1_216, q1_168, q1_169, q1_2⟩ dd_X3_payFor ⟨Nat.le_of_ble_eq_true rfl, Nat.le_of_ble_eq_true rfl, rfl, rfl⟩ hl.1 rfl (Nat.le_of_ble_eq_true rfl) dX3_takesFrom_29 ⟨Nat.le_of_ble_eq_true rfl, Nat.le_of_ble_eq_true rfl⟩) ?_
              refine W.eq (g2 := F0 m 32 ls [.int (I (d + 9) (j * 4 + i)), .int (I (b + 9) (i * 4 + j))]) rfl ?_
              refine lv_iadd hx hb dX3_takesFrom_32 ?_
              refine lv_if_eq (tgt := 38) hx hb dX3_takesFrom_33 (by decide) (fun c33 => ?_) (fun c33 => ?_)
              · refine lv_iinc (v := nI (j + 1)) (lv' := [(3, .int (nI (j + 1))), (0, .ref b), (1, .ref d), (2, .int (nI i))]) hx hb dX3_takesFrom_38 hl (k := 3) rfl (nI_inc _) (by decide) rfl (fun ls hl => ?_)
                refine lv_goto (tgt := 12) hx hb dX3_takesFrom_41 (by decide) ?_
                exact ih12 (j + 1) (by omega) (by omega) (fun k h => by rcases Nat.lt_succ_iff_lt_or_eq.mp h with h | rfl <;> first | exact h2 k h | exact c33) ls (lv_sub hl [1, 2, 3, 0] rfl)
              · refine lv_iconst (v := nI 0) hx hb dX3_takesFrom_36 (by decide) ?_
                refine g_retz hC hs ?_ dX3_takesFrom_37
                rw [show zeroB (I (b + 9)) (I (d + 9)) ch dh = false from by rw [Bool.eq_false_iff]; intro h; exact c33 (zeroB_iff.mp h i (by omega) j (by omega))]; rfl
        exact L12 5 0 (by omega) (by omega) (fun a h => absurd h (by omega)) ls (lv_sub hl [1, 2, 3, 0] rfl)
  exact L2 5 0 (by omega) (by omega) (fun a h => absurd h (by omega)) ls (lv_sub hl [1, 2, 0] rfl)
set_option maxHeartbeats 4000000 in
set_option maxRecDepth 100000 in
theorem c_X3_isLike (l : Launch) {G : gG} {T : gTy} {I : gI} {J : gJ} {Q : gR} {O : gO} {H : Heap} (hP : gP G T I J Q O H) {b ch d dh : Nat} (hpl : isPl T O b ch) (hpk : isPl T O d dh) : Met l yX3_isLike (gw yX3_isLike cX3_isLike 3 (some (.boolean))) ({ frames := 0, cells := 0, slots := 0, locals := 0 } : Room) (gPc G H [.ref b, .ref d]) (gQp (some (.int (gb (likeB (I (b + 9)) (I (d + 9)) ch dh))))) 0 0 (fun _ => False) := by
  refine g_met [(0, .ref b), (1, .ref d)] (by decide) rfl (by exact Nat.le_of_ble_eq_true rfl) ?_
  intro p e s m below meth c hC hs ls hl
  have hx := hC.1.1
  have hb := hC.1.2.1
  have hpl_lo := hpl.2.2.2.2.2.2.2.2.1
  have hpl_hi := hpl.2.2.2.2.2.2.2.2.2
  have hpk_lo := hpk.2.2.2.2.2.2.2.2.1
  have hpk_hi := hpk.2.2.2.2.2.2.2.2.2
  refine lv_aload_n hx hb dX3_isLike_0 rfl (lv_at hl 0 rfl) ?_
  refine g_get hC hP hpl.1 rfl inX3 0 (by decide) q1_77 hpl.2.1 dX3_isLike_1 ?_
  refine lv_aload_n hx hb dX3_isLike_4 rfl (lv_at hl 1 rfl) ?_
  refine g_get hC hP hpk.1 rfl inX3 0 (by decide) q1_77 hpk.2.1 dX3_isLike_5 ?_
  refine lv_icmp_eq (tgt := 13) hx hb dX3_isLike_8 (by decide) (fun c8 => ?_) (fun c8 => ?_)
  · have c8 := (nI_eq (by omega) (by omega)).mp c8
    refine lv_iconst (v := nI 0) hx hb dX3_isLike_13 (by decide) ?_
    refine lv_istore_n (lv' := [(2, .int (nI 0)), (0, .ref b), (1, .ref d)]) hx hb dX3_isLike_14 rfl hl (by decide) rfl (fun ls hl => ?_)
    have L15 : ∀ (n15 : Nat) (i : Nat), 17 ≤ n15 + i → (i ≤ 16) → (∀ j, j < i → I (b + 9) j = I (d + 9) j) → ∀ ls : Array Slot, lv_has ls 3 [(0, .ref b), (1, .ref d), (2, .int (nI i))] → W p l e ({ frames := 0, cells := 0, slots := 0, locals := 0 } : Room) s m [.ref b, .ref d].toArray below meth c H [] 0 0 (MQ below (gQp (some (.int (gb (likeB (I (b + 9)) (I (d + 9)) ch dh))))) [.ref b, .ref d].toArray s 0 0 (fun _ => False)) (F0 m 15 ls []) := by
      intro n15
      induction n15 with
      | zero => intro i hn15 hi h1; exact absurd hn15 (by omega)
      | succ n15 ih15 =>
        intro i hn15 hi h1 ls hl
        refine lv_iload_n hx hb dX3_isLike_15 rfl (lv_at hl 2 rfl) ?_
        refine lv_aload_n hx hb dX3_isLike_16 rfl (lv_at hl 0 rfl) ?_
        refine g_get hC hP hpl.1 rfl inX3 2 (by decide) q1_81 hpl.2.2.2.1 dX3_isLike_17 ?_
        refine g_alenI hC hP hpl.2.2.2.2.2.2.1 dX3_isLike_20 ?_
        refine lv_icmp_ge (tgt := 47) hx hb dX3_isLike_21 (by decide) (fun c21 => ?_) (fun c21 => ?_)
        · have c21 := (nI_leI (by omega) (by omega)).mp c21
          refine lv_iconst (v := nI 1) hx hb dX3_isLike_47 (by decide) ?_
          refine g_retz hC hs ?_ dX3_isLike_48
          rw [show likeB (I (b + 9)) (I (d + 9)) ch dh = true from likeB_iff.mpr ⟨c8, fun a h => h1 a (by omega)⟩]; rfl
        · have c21 := mt (nI_leI (by omega) (by omega)).mpr c21
          refine lv_aload_n hx hb dX3_isLike_24 rfl (lv_at hl 0 rfl) ?_
          refine g_get hC hP hpl.1 rfl inX3 2 (by decide) q1_81 hpl.2.2.2.1 dX3_isLike_25 ?_
          refine lv_iload_n hx hb dX3_isLike_28 rfl (lv_at hl 2 rfl) ?_
          refine g_iald hC hP hpl.2.2.2.2.2.2.1 (vp_in_nI (by omega) (by decide)) dX3_isLike_29 ?_
          refine g_topi (y := I (b + 9) i) (congrArg (I (b + 9)) (nI_clamp (by omega))) ?_
          refine lv_aload_n hx hb dX3_isLike_30 rfl (lv_at hl 1 rfl) ?_
          refine g_get hC hP hpk.1 rfl inX3 2 (by decide) q1_81 hpk.2.2.2.1 dX3_isLike_31 ?_
          refine lv_iload_n hx hb dX3_isLike_34 rfl (lv_at hl 2 rfl) ?_
          refine g_iald hC hP hpk.2.2.2.2.2.2.1 (vp_in_nI (by omega) (by decide)) dX3_isLike_35 ?_
          refine g_topi (y := I (d + 9) i) (congrArg (I (d + 9)) (nI_clamp (by omega))) ?_
          refine lv_icmp_eq (tgt := 41) hx hb dX3_isLike_36 (by decide) (fun c36 => ?_) (fun c36 => ?_)
          · refine lv_iinc (v := nI (i + 1)) (lv' := [(2, .int (nI (i + 1))), (0, .ref b), (1, .ref d)]) hx hb dX3_isLike_41 hl (k := 2) rfl (nI_inc _) (by decide) rfl (fun ls hl => ?_)
            refine lv_goto (tgt := 15) hx hb dX3_isLike_44 (by decide) ?_
            exact ih15 (i + 1) (by omega) (by omega) (fun k h => by rcases Nat.lt_succ_iff_lt_or_eq.mp h with h | rfl <;> first | exact h1 k h | exact c36) ls (lv_sub hl [1, 2, 0] rfl)
          · refine lv_iconst (v := nI 0) hx hb dX3_isLike_39 (by decide) ?_
            refine g_retz hC hs ?_ dX3_isLike_40
            rw [show likeB (I (b + 9)) (I (d + 9)) ch dh = false from by rw [Bool.eq_false_iff]; intro h; exact c36 ((likeB_iff.mp h).2 i (by omega))]; rfl
    exact L15 17 0 (by omega) (by omega) (fun a h => absurd h (by omega)) ls (lv_sub hl [1, 2, 0] rfl)
  · have c8 := mt (nI_eq (by omega) (by omega)).mpr c8
    refine lv_iconst (v := nI 0) hx hb dX3_isLike_11 (by decide) ?_
    refine g_retz hC hs ?_ dX3_isLike_12
    rw [show likeB (I (b + 9)) (I (d + 9)) ch dh = false from by rw [Bool.eq_false_iff]; intro h; exact c8 (likeB_iff.mp h).1]; rfl
set_option maxHeartbeats 4000000 in
set_option maxRecDepth 100000 in
theorem c_X2_orderTo (l : Launch) {G : gG} {T : gTy} {I : gI} {J : gJ} {Q : gR} {O : gO} {H : Heap} (hP : gP G T I J Q O H) {x y u n u2 n2 : Nat} {t t2 : Int64} (hmx : isMx T O x) (hmv : mxV O x t u n) (hmy : isMx T O y) (hmw : mxV O y t2 u2 n2) : Met l yX2_orderTo (gw yX2_orderTo cX2_orderTo 7 (some (.int))) ({ frames := 0, cells := 0, slots := 0, locals := 0 } : Room) (gPc G H [.ref x, .ref y]) (gQp (some (.int (ordM (J (x + 1)) t (J (y + 1)) t2)))) 0 0 (fun _ => False) := by
  refine g_met [(0, .ref x), (1, .ref y)] (by decide) rfl (by exact Nat.le_of_ble_eq_true rfl) ?_
  intro p e s m below meth c hC hs ls hl
  have hx := hC.1.1
  have hb := hC.1.2.1
  refine lv_iconst (v := nI 0) hx hb dX2_orderTo_0 (by decide) ?_
  refine lv_istore_n (lv' := [(2, .int (nI 0)), (0, .ref x), (1, .ref y)]) hx hb dX2_orderTo_1 rfl hl (by decide) rfl (fun ls hl => ?_)
  have L2 : ∀ (n2 : Nat) (i : Nat), 5 ≤ n2 + i → (i ≤ 4) → (∀ k, k < i → (!decide (J (x + 1) k * t2 = J (y + 1) k * t)) = false) → ∀ ls : Array Slot, lv_has ls 7 [(0, .ref x), (1, .ref y), (2, .int (nI i))] → W p l e ({ frames := 0, cells := 0, slots := 0, locals := 0 } : Room) s m [.ref x, .ref y].toArray below meth c H [] 0 0 (MQ below (gQp (some (.int (ordM (J (x + 1)) t (J (y + 1)) t2)))) [.ref x, .ref y].toArray s 0 0 (fun _ => False)) (F0 m 2 ls []) := by
    intro n2
    induction n2 with
    | zero => intro i hn2 hi h1; exact absurd hn2 (by omega)
    | succ n2 ih2 =>
      intro i hn2 hi h1 ls hl
      refine lv_iload_n hx hb dX2_orderTo_2 rfl (lv_at hl 2 rfl) ?_
      refine lv_iconst (v := nI 4) hx hb dX2_orderTo_3 (by decide) ?_
      refine lv_icmp_ge (tgt := 58) hx hb dX2_orderTo_4 (by decide) (fun c4 => ?_) (fun c4 => ?_)
      · have c4 := (nI_leI (by omega) (by omega)).mp c4
        refine lv_iconst (v := nI 0) hx hb dX2_orderTo_58 (by decide) ?_
        refine g_reti hC hs ?_ dX2_orderTo_59
        unfold ordM; rw [fst4_none (fun k h => h1 k (by omega))]; rfl
      · have c4 := mt (nI_leI (by omega) (by omega)).mpr c4
        refine lv_aload_n hx hb dX2_orderTo_7 rfl (lv_at hl 0 rfl) ?_
        refine g_get hC hP hmx.1 rfl inX2 0 (by decide) q1_36 hmx.2.1 dX2_orderTo_8 ?_
        refine lv_iload_n hx hb dX2_orderTo_11 rfl (lv_at hl 2 rfl) ?_
        refine g_lald hC hP hmx.2.2 (vp_in_nI (by omega) (by decide)) dX2_orderTo_12 ?_
        refine g_topl (y := J (x + 1) i) (congrArg (J (x + 1)) (nI_clamp (by omega))) ?_
        refine lv_aload_n hx hb dX2_orderTo_13 rfl (lv_at hl 1 rfl) ?_
        refine g_get hC hP hmy.1 rfl inX2 1 (by decide) q1_40 hmw.1 dX2_orderTo_14 ?_
        refine lv_lmul hx hb dX2_orderTo_17 ?_
        refine lv_lstore_n (lv' := [(3, .long ((J (x + 1) i) * t2)), (0, .ref x), (1, .ref y), (2, .int (nI i))]) hx hb dX2_orderTo_18 rfl hl (by decide) rfl (fun ls hl => ?_)
        refine lv_aload_n hx hb dX2_orderTo_19 rfl (lv_at hl 2 rfl) ?_
        refine g_get hC hP hmy.1 rfl inX2 0 (by decide) q1_36 hmy.2.1 dX2_orderTo_20 ?_
        refine lv_iload_n hx hb dX2_orderTo_23 rfl (lv_at hl 3 rfl) ?_
        refine g_lald hC hP hmy.2.2 (vp_in_nI (by omega) (by decide)) dX2_orderTo_24 ?_
        refine g_topl (y := J (y + 1) i) (congrArg (J (y + 1)) (nI_clamp (by omega))) ?_
        refine lv_aload_n hx hb dX2_orderTo_25 rfl (lv_at hl 1 rfl) ?_
        refine g_get hC hP hmx.1 rfl inX2 1 (by decide) q1_40 hmv.1 dX2_orderTo_26 ?_
        refine lv_lmul hx hb dX2_orderTo_29 ?_
        refine lv_lstore (lv' := [(5, .long ((J (y + 1) i) * t)), (3, .long ((J (x + 1) i) * t2)), (0, .ref x), (1, .ref y), (2, .int (nI i))]) hx hb dX2_orderTo_30 hl (by decide) rfl (fun ls hl => ?_)
        refine lv_lload_n hx hb dX2_orderTo_32 rfl (lv_at hl 1 rfl) ?_
        refine lv_lload hx hb dX2_orderTo_33 (lv_at hl 0 rfl) ?_
        refine W.lcmp hx hb dX2_orderTo_35 ?_
        refine lv_if_eq (tgt := 52) hx hb dX2_orderTo_36 (by decide) (fun c36 => ?_) (fun c36 => ?_)
        · have c36 := (lg_cmp_eq _ _).mp c36
          refine lv_iinc (v := nI (i + 1)) (lv' := [(2, .int (nI (i + 1))), (5, .long ((J (y + 1) i) * t)), (3, .long ((J (x + 1) i) * t2)), (0, .ref x), (1, .ref y)]) hx hb dX2_orderTo_52 hl (k := 4) rfl (nI_inc _) (by decide) rfl (fun ls hl => ?_)
          refine lv_goto (tgt := 2) hx hb dX2_orderTo_55 (by decide) ?_
          exact ih2 (i + 1) (by omega) (by omega) (fun k h => by rcases Nat.lt_succ_iff_lt_or_eq.mp h with h | rfl <;> first | exact h1 k h | simp_all) ls (lv_sub hl [3, 4, 0] rfl)
        · have c36 := mt (lg_cmp_eq _ _).mpr c36
          refine lv_lload_n hx hb dX2_orderTo_39 rfl (lv_at hl 1 rfl) ?_
          refine lv_lload hx hb dX2_orderTo_40 (lv_at hl 0 rfl) ?_
          refine W.lcmp hx hb dX2_orderTo_42 ?_
          refine lv_if_le (tgt := 50) hx hb dX2_orderTo_43 (by decide) (fun c43 => ?_) (fun c43 => ?_)
          · have c43 := (lg_cmp_le _ _).mp c43
            have c43 := Int64.not_lt.mpr c43
            refine lv_iconst (v := nI 1) hx hb dX2_orderTo_50 (by decide) ?_
            refine g_reti hC hs ?_ dX2_orderTo_51
            unfold ordM; rw [fst4_some (i := i) (by omega) (by simp_all) h1]; first | (simp only [if_neg c43]; rfl) | simp only [if_pos c43]
          · have c43 := mt (lg_cmp_le _ _).mpr c43
            have c43 := Int64.not_le.mp c43
            refine lv_iconst (v := (-1)) hx hb dX2_orderTo_46 (by decide) ?_
            refine lv_goto (tgt := 51) hx hb dX2_orderTo_47 (by decide) ?_
            refine g_reti hC hs ?_ dX2_orderTo_51
            unfold ordM; rw [fst4_some (i := i) (by omega) (by simp_all) h1]; first | (simp only [if_neg c43]; rfl) | simp only [if_pos c43]
  exact L2 5 0 (by omega) (by omega) (fun a h => absurd h (by omega)) ls (lv_sub hl [1, 2, 0] rfl)
set_option maxHeartbeats 4000000 in
set_option maxRecDepth 100000 in
theorem c_X2_fits (l : Launch) {G : gG} {T : gTy} {I : gI} {J : gJ} {Q : gR} {O : gO} {H : Heap} (hP : gP G T I J Q O H) {x y u n u2 n2 : Nat} {t t2 : Int64} (hmx : isMx T O x) (hmv : mxV O x t u n) (hmy : isMx T O y) (hmw : mxV O y t2 u2 n2) (b1 : u < 16) (b2 : n < 16) (b3 : u2 < 16) (b4 : n2 < 16) : Met l yX2_fits (gw yX2_fits cX2_fits 2 (some (.boolean))) ({ frames := 0, cells := 0, slots := 0, locals := 0 } : Room) (gPc G H [.ref x, .ref y]) (gQp (some (.int (gb (fitB u n u2 n2))))) 0 0 (fun _ => False) := by
  refine g_met [(0, .ref x), (1, .ref y)] (by decide) rfl (by exact Nat.le_of_ble_eq_true rfl) ?_
  intro p e s m below meth c hC hs ls hl
  have hx := hC.1.1
  have hb := hC.1.2.1
  have a1 : u &&& (15 ^^^ n2) < 2 ^ 31 := Nat.lt_of_le_of_lt Nat.and_le_left (by omega)
  have a2 : u2 &&& (15 ^^^ n) < 2 ^ 31 := Nat.lt_of_le_of_lt Nat.and_le_left (by omega)
  refine lv_aload_n hx hb dX2_fits_0 rfl (lv_at hl 0 rfl) ?_
  refine g_get hC hP hmx.1 rfl inX2 2 (by decide) q1_43 hmv.2.1 dX2_fits_1 ?_
  refine lv_aload_n hx hb dX2_fits_4 rfl (lv_at hl 1 rfl) ?_
  refine g_get hC hP hmy.1 rfl inX2 3 (by decide) q1_45 hmw.2.2 dX2_fits_5 ?_
  refine lv_iconst (v := (-1)) hx hb dX2_fits_8 (by decide) ?_
  refine lv_ixor hx hb dX2_fits_9 ?_
  refine lv_iand hx hb dX2_fits_10 ?_
  refine g_topi (y := nI (u &&& (15 ^^^ n2))) (g_andn b1 b4) ?_
  refine lv_if_ne (tgt := 32) hx hb dX2_fits_11 (by decide) (fun c11 => ?_) (fun c11 => ?_)
  · have c11 := mt (fun q => ((nI_eq (b := 0) (by omega) (by decide)).mpr q).trans nI_0) c11
    refine lv_iconst (v := nI 0) hx hb dX2_fits_32 (by decide) ?_
    refine g_retz hC hs ?_ dX2_fits_33
    simp [fitB, gb, nI, *]
  · have c11 := (nI_eq (by omega) (by decide)).mp (c11.trans nI_0.symm)
    refine lv_aload_n hx hb dX2_fits_14 rfl (lv_at hl 1 rfl) ?_
    refine g_get hC hP hmy.1 rfl inX2 2 (by decide) q1_43 hmw.2.1 dX2_fits_15 ?_
    refine lv_aload_n hx hb dX2_fits_18 rfl (lv_at hl 0 rfl) ?_
    refine g_get hC hP hmx.1 rfl inX2 3 (by decide) q1_45 hmv.2.2 dX2_fits_19 ?_
    refine lv_iconst (v := (-1)) hx hb dX2_fits_22 (by decide) ?_
    refine lv_ixor hx hb dX2_fits_23 ?_
    refine lv_iand hx hb dX2_fits_24 ?_
    refine g_topi (y := nI (u2 &&& (15 ^^^ n))) (g_andn b3 b2) ?_
    refine lv_if_ne (tgt := 32) hx hb dX2_fits_25 (by decide) (fun c25 => ?_) (fun c25 => ?_)
    · have c25 := mt (fun q => ((nI_eq (b := 0) (by omega) (by decide)).mpr q).trans nI_0) c25
      refine lv_iconst (v := nI 0) hx hb dX2_fits_32 (by decide) ?_
      refine g_retz hC hs ?_ dX2_fits_33
      simp [fitB, gb, nI, *]
    · have c25 := (nI_eq (by omega) (by decide)).mp (c25.trans nI_0.symm)
      refine lv_iconst (v := nI 1) hx hb dX2_fits_28 (by decide) ?_
      refine lv_goto (tgt := 33) hx hb dX2_fits_29 (by decide) ?_
      refine g_retz hC hs ?_ dX2_fits_33
      simp [fitB, gb, nI, *]
set_option maxHeartbeats 4000000 in
set_option maxRecDepth 100000 in
theorem c_X4_isWho (l : Launch) {G : gG} {H : Heap} {q : Int32} : Met l yX4_isWho (gw yX4_isWho cX4_isWho 1 (some (.boolean))) ({ frames := 0, cells := 0, slots := 0, locals := 0 } : Room) (gPc G H [.int q]) (gQp (some (.int (gb (isW q))))) 0 0 (fun _ => False) := by
  refine g_met [(0, .int q)] (by decide) rfl (by exact Nat.le_of_ble_eq_true rfl) ?_
  intro p e s m below meth c hC hs ls hl
  have hx := hC.1.1
  have hb := hC.1.2.1
  refine lv_iload_n hx hb dX4_isWho_0 rfl (lv_at hl 0 rfl) ?_
  refine lv_if_eq (tgt := 9) hx hb dX4_isWho_1 (by decide) (fun c1 => ?_) (fun c1 => ?_)
  · refine lv_iconst (v := nI 1) hx hb dX4_isWho_9 (by decide) ?_
    refine lv_goto (tgt := 14) hx hb dX4_isWho_10 (by decide) ?_
    refine g_retz hC hs ?_ dX4_isWho_14
    simp_all [isW, gb, nI]
  · refine lv_iload_n hx hb dX4_isWho_4 rfl (lv_at hl 0 rfl) ?_
    refine lv_iconst (v := nI 1) hx hb dX4_isWho_5 (by decide) ?_
    refine lv_icmp_ne (tgt := 13) hx hb dX4_isWho_6 (by decide) (fun c6 => ?_) (fun c6 => ?_)
    · refine lv_iconst (v := nI 0) hx hb dX4_isWho_13 (by decide) ?_
      refine g_retz hC hs ?_ dX4_isWho_14
      simp_all [isW, gb, nI]
    · refine lv_iconst (v := nI 1) hx hb dX4_isWho_9 (by decide) ?_
      refine lv_goto (tgt := 14) hx hb dX4_isWho_10 (by decide) ?_
      refine g_retz hC hs ?_ dX4_isWho_14
      simp_all [isW, gb, nI]
set_option maxHeartbeats 4000000 in
set_option maxRecDepth 100000 in
theorem c_X4_firstOf (l : Launch) {G : gG} {H : Heap} {B : Nat} (hB : B < 16) : Met l yX4_firstOf (gw yX4_firstOf cX4_firstOf 2 (some (.int))) ({ frames := 1, cells := 0, slots := 0, locals := 21 } : Room) (gPc G H [.int (nI B)]) (gQp (some (.int (oI (fst4 B.testBit))))) 0 0 (fun _ => False) := by
  refine g_met [(0, .int (nI B))] (by decide) rfl (by exact Nat.le_of_ble_eq_true rfl) ?_
  intro p e s m below meth c hC hs ls hl
  have hx := hC.1.1
  have hb := hC.1.2.1
  refine lv_iconst (v := nI 0) hx hb dX4_firstOf_0 (by decide) ?_
  refine lv_istore_n (lv' := [(1, .int (nI 0)), (0, .int (nI B))]) hx hb dX4_firstOf_1 rfl hl (by decide) rfl (fun ls hl => ?_)
  have L2 : ∀ (n2 : Nat) (i : Nat), 5 ≤ n2 + i → (i ≤ 4) → (∀ k, k < i → B.testBit k = false) → ∀ ls : Array Slot, lv_has ls 2 [(0, .int (nI B)), (1, .int (nI i))] → W p l e ({ frames := 1, cells := 0, slots := 0, locals := 21 } : Room) s m [.int (nI B)].toArray below meth c H [] 0 0 (MQ below (gQp (some (.int (oI (fst4 B.testBit))))) [.int (nI B)].toArray s 0 0 (fun _ => False)) (F0 m 2 ls []) := by
    intro n2
    induction n2 with
    | zero => intro i hn2 hi h1; exact absurd hn2 (by omega)
    | succ n2 ih2 =>
      intro i hn2 hi h1 ls hl
      refine lv_iload_n hx hb dX4_firstOf_2 rfl (lv_at hl 1 rfl) ?_
      refine lv_iconst (v := nI 4) hx hb dX4_firstOf_3 (by decide) ?_
      refine lv_icmp_ge (tgt := 23) hx hb dX4_firstOf_4 (by decide) (fun c4 => ?_) (fun c4 => ?_)
      · have c4 := (nI_leI (by omega) (by omega)).mp c4
        refine lv_bipush (v := (-9)) hx hb dX4_firstOf_23 (by decide) ?_
        refine g_reti hC hs ?_ dX4_firstOf_25
        rw [fst4_none (fun k h => h1 k (by omega))]; rfl
      · have c4 := mt (nI_leI (by omega) (by omega)).mpr c4
        refine lv_iload_n hx hb dX4_firstOf_7 rfl (lv_at hl 0 rfl) ?_
        refine lv_iload_n hx hb dX4_firstOf_8 rfl (lv_at hl 1 rfl) ?_
        refine g_cp (g_rS (As := [.int (nI B), .int (nI i)]) hC (c_X4_hasBit l (B := B) (k := i) (by first | assumption | omega) (by first | assumption | omega)) ⟨q2_11, q2_9, q2_10, q1_1⟩ dd_X4_hasBit ⟨Nat.le_of_ble_eq_true rfl, Nat.le_of_ble_eq_true rfl, rfl, rfl⟩ hl.1 rfl (Nat.le_of_ble_eq_true rfl) dX4_firstOf_9 ⟨Nat.le_of_ble_eq_true rfl, Nat.le_of_ble_eq_true rfl⟩) ?_
        refine W.eq (g2 := F0 m 12 ls [.int (gb (B.testBit i))]) rfl ?_
        refine lv_if_eq (tgt := 17) hx hb dX4_firstOf_12 (by decide) (fun c12 => ?_) (fun c12 => ?_)
        · have c12 := gb_f c12
          refine lv_iinc (v := nI (i + 1)) (lv' := [(1, .int (nI (i + 1))), (0, .int (nI B))]) hx hb dX4_firstOf_17 hl (k := 1) rfl (nI_inc _) (by decide) rfl (fun ls hl => ?_)
          refine lv_goto (tgt := 2) hx hb dX4_firstOf_20 (by decide) ?_
          exact ih2 (i + 1) (by omega) (by omega) (fun k h => by rcases Nat.lt_succ_iff_lt_or_eq.mp h with h | rfl <;> first | exact h1 k h | exact c12) ls (lv_sub hl [1, 0] rfl)
        · have c12 := gb_t c12
          refine lv_iload_n hx hb dX4_firstOf_15 rfl (lv_at hl 1 rfl) ?_
          refine g_reti hC hs ?_ dX4_firstOf_16
          rw [fst4_some (i := i) (by omega) c12 h1]; rfl
  exact L2 5 0 (by omega) (by omega) (fun a h => absurd h (by omega)) ls (lv_sub hl [1, 0] rfl)
set_option maxHeartbeats 4000000 in
set_option maxRecDepth 100000 in
theorem c_X4_commonFactor (l : Launch) {G : gG} {H : Heap} {a d : Int64} : Met l yX4_commonFactor (gw yX4_commonFactor cX4_commonFactor 11 (some (.long))) ({ frames := 0, cells := 0, slots := 0, locals := 0 } : Room) (gPc G H [.long a, .long d]) (gQp (some (.long (cfL 100 a d)))) 0 0 (fun _ => False) := by
  refine g_met [(0, .long a), (2, .long d)] (by decide) rfl (by exact Nat.le_of_ble_eq_true rfl) ?_
  intro p e s m below meth c hC hs ls hl
  have hx := hC.1.1
  have hb := hC.1.2.1
  refine lv_lload_n hx hb dX4_commonFactor_0 rfl (lv_at hl 0 rfl) ?_
  refine lv_lstore (lv' := [(4, .long a), (0, .long a), (2, .long d)]) hx hb dX4_commonFactor_1 hl (by decide) rfl (fun ls hl => ?_)
  refine lv_lload_n hx hb dX4_commonFactor_3 rfl (lv_at hl 2 rfl) ?_
  refine lv_lstore (lv' := [(6, .long d), (4, .long a), (0, .long a), (2, .long d)]) hx hb dX4_commonFactor_4 hl (by decide) rfl (fun ls hl => ?_)
  refine lv_iconst (v := nI 0) hx hb dX4_commonFactor_6 (by decide) ?_
  refine lv_istore (lv' := [(8, .int (nI 0)), (6, .long d), (4, .long a), (0, .long a), (2, .long d)]) hx hb dX4_commonFactor_7 hl (by decide) rfl (fun ls hl => ?_)
  have L9 : ∀ (n9 : Nat) (i : Nat) (g : Int64) (r : Int64), 101 ≤ n9 + i → (i ≤ 100) → (cfL (100 - i) g r = cfL 100 a d) → ∀ ls : Array Slot, lv_has ls 11 [(4, .long g), (6, .long r), (8, .int (nI i))] → W p l e ({ frames := 0, cells := 0, slots := 0, locals := 0 } : Room) s m [.long a, .long d].toArray below meth c H [] 0 0 (MQ below (gQp (some (.long (cfL 100 a d)))) [.long a, .long d].toArray s 0 0 (fun _ => False)) (F0 m 9 ls []) := by
    intro n9
    induction n9 with
    | zero => intro i g r hn9 hi h1; exact absurd hn9 (by omega)
    | succ n9 ih9 =>
      intro i g r hn9 hi h1 ls hl
      refine lv_iload hx hb dX4_commonFactor_9 (lv_at hl 2 rfl) ?_
      refine lv_bipush (v := nI 100) hx hb dX4_commonFactor_11 (by decide) ?_
      refine lv_icmp_ge (tgt := 44) hx hb dX4_commonFactor_13 (by decide) (fun c13 => ?_) (fun c13 => ?_)
      · have c13 := (nI_leI (by omega) (by omega)).mp c13
        have e1 : cfL (100 - i) g r = g := by rw [show 100 - i = 0 from by omega]; rfl
        refine lv_lload hx hb dX4_commonFactor_44 (lv_at hl 0 rfl) ?_
        refine g_retl hC hs ?_ dX4_commonFactor_46
        rw [← h1, e1]
      · have c13 := mt (nI_leI (by omega) (by omega)).mpr c13
        refine lv_lload hx hb dX4_commonFactor_16 (lv_at hl 1 rfl) ?_
        refine lv_lconst (v := 0) hx hb dX4_commonFactor_18 (by decide) ?_
        refine W.lcmp hx hb dX4_commonFactor_19 ?_
        refine lv_if_eq (tgt := 44) hx hb dX4_commonFactor_20 (by decide) (fun c20 => ?_) (fun c20 => ?_)
        · have c20 := (lg_cmp_eq _ _).mp c20
          have e1 : cfL (100 - i) g r = g := by rw [show 100 - i = (100 - i - 1) + 1 from by omega, cfL, if_pos c20]
          refine lv_lload hx hb dX4_commonFactor_44 (lv_at hl 0 rfl) ?_
          refine g_retl hC hs ?_ dX4_commonFactor_46
          rw [← h1, e1]
        · have c20 := mt (lg_cmp_eq _ _).mpr c20
          refine lv_lload hx hb dX4_commonFactor_23 (lv_at hl 0 rfl) ?_
          refine lv_lload hx hb dX4_commonFactor_25 (lv_at hl 1 rfl) ?_
          refine lv_lrem hx hb dX4_commonFactor_27 c20 ?_
          refine lv_lstore (lv' := [(9, .long (g - g / r * r)), (4, .long g), (6, .long r), (8, .int (nI i))]) hx hb dX4_commonFactor_28 hl (by decide) rfl (fun ls hl => ?_)
          refine lv_lload hx hb dX4_commonFactor_30 (lv_at hl 2 rfl) ?_
          refine lv_lstore (lv' := [(4, .long r), (9, .long (g - g / r * r)), (6, .long r), (8, .int (nI i))]) hx hb dX4_commonFactor_32 hl (by decide) rfl (fun ls hl => ?_)
          refine lv_lload hx hb dX4_commonFactor_34 (lv_at hl 1 rfl) ?_
          refine lv_lstore (lv' := [(6, .long (g - g / r * r)), (4, .long r), (9, .long (g - g / r * r)), (8, .int (nI i))]) hx hb dX4_commonFactor_36 hl (by decide) rfl (fun ls hl => ?_)
          refine lv_iinc (v := nI (i + 1)) (lv' := [(8, .int (nI (i + 1))), (6, .long (g - g / r * r)), (4, .long r), (9, .long (g - g / r * r))]) hx hb dX4_commonFactor_38 hl (k := 3) rfl (nI_inc _) (by decide) rfl (fun ls hl => ?_)
          refine lv_goto (tgt := 9) hx hb dX4_commonFactor_41 (by decide) ?_
          exact ih9 (i + 1) r (g - g / r * r) (by omega) (by omega) (by rw [← h1, show 100 - i = (100 - (i + 1)) + 1 from by omega, cfL, if_neg c20]) ls (lv_sub hl [2, 1, 0] rfl)
  exact L9 101 0 a d (by omega) (by omega) rfl ls (lv_sub hl [2, 1, 0] rfl)
set_option maxHeartbeats 4000000 in
set_option maxRecDepth 100000 in
theorem c_X4_lowest (l : Launch) {G : gG} {H : Heap} {a d : Int64} {q : Int32} : Met l yX4_lowest (gw yX4_lowest cX4_lowest 7 (some (.long))) ({ frames := 1, cells := 0, slots := 0, locals := 30 } : Room) (gPc G H [.long a, .long d, .int q]) (gQp (some (.long (lowS a d q)))) 0 0 (fun _ => False) := by
  refine g_met [(0, .long a), (2, .long d), (4, .int q)] (by decide) rfl (by exact Nat.le_of_ble_eq_true rfl) ?_
  intro p e s m below meth c hC hs ls hl
  have hx := hC.1.1
  have hb := hC.1.2.1
  refine lv_lload_n hx hb dX4_lowest_0 rfl (lv_at hl 0 rfl) ?_
  refine va_mabs_long hx hb (hC.1.2.2.1.trans hl.1.symm) hC.1.2.2.2.1 (hC.1.2.2.2.2 _ q1_224) (hC.1.2.2.2.2 _ q1_225) (hC.1.2.2.2.2 _ q1_7) (hC.1.2.2.2.2 _ q1_226) (Nat.le_of_ble_eq_true rfl) (Nat.le_of_ble_eq_true rfl) (Nat.le_of_ble_eq_true rfl) (Nat.le_of_ble_eq_true rfl) dX4_lowest_1 ?_
  refine g_topl (y := absL a) rfl ?_
  refine lv_lload_n hx hb dX4_lowest_4 rfl (lv_at hl 1 rfl) ?_
  refine g_cp (g_rS (As := [.long (absL a), .long d]) hC (c_X4_commonFactor l (a := absL a) (d := d)) ⟨q1_229, q1_227, q1_228, q1_1⟩ dd_X4_commonFactor ⟨Nat.le_of_ble_eq_true rfl, Nat.le_of_ble_eq_true rfl, rfl, rfl⟩ hl.1 rfl (Nat.le_of_ble_eq_true rfl) dX4_lowest_5 ⟨Nat.le_of_ble_eq_true rfl, Nat.le_of_ble_eq_true rfl⟩) ?_
  refine W.eq (g2 := F0 m 8 ls [.long (cfL 100 (absL a) d)]) rfl ?_
  refine lv_lstore (lv' := [(5, .long (cfL 100 (absL a) d)), (0, .long a), (2, .long d), (4, .int q)]) hx hb dX4_lowest_8 hl (by decide) rfl (fun ls hl => ?_)
  refine lv_lload hx hb dX4_lowest_10 (lv_at hl 0 rfl) ?_
  refine lv_lconst (v := 0) hx hb dX4_lowest_12 (by decide) ?_
  refine W.lcmp hx hb dX4_lowest_13 ?_
  refine lv_if_gt (tgt := 19) hx hb dX4_lowest_14 (by decide) (fun c14 => ?_) (fun c14 => ?_)
  · have c14 := (lg_cmp_gt _ _).mp c14
    refine lv_iload hx hb dX4_lowest_19 (lv_at hl 3 rfl) ?_
    refine lv_if_ne (tgt := 31) hx hb dX4_lowest_21 (by decide) (fun c21 => ?_) (fun c21 => ?_)
    · refine lv_lload_n hx hb dX4_lowest_31 rfl (lv_at hl 2 rfl) ?_
      refine lv_lload hx hb dX4_lowest_32 (lv_at hl 0 rfl) ?_
      refine lv_ldiv hx hb dX4_lowest_34 (fun z => by rw [z] at c14; exact absurd c14 (by decide)) ?_
      refine g_retl hC hs ?_ dX4_lowest_35
      unfold lowS; rw [if_pos c14]; simp [c21]
    · refine lv_lload_n hx hb dX4_lowest_24 rfl (lv_at hl 1 rfl) ?_
      refine lv_lload hx hb dX4_lowest_25 (lv_at hl 0 rfl) ?_
      refine lv_ldiv hx hb dX4_lowest_27 (fun z => by rw [z] at c14; exact absurd c14 (by decide)) ?_
      refine lv_goto (tgt := 35) hx hb dX4_lowest_28 (by decide) ?_
      refine g_retl hC hs ?_ dX4_lowest_35
      unfold lowS; rw [if_pos c14]; simp [c21]
  · have c14 := mt (lg_cmp_gt _ _).mpr c14
    refine lv_lconst (v := 0) hx hb dX4_lowest_17 (by decide) ?_
    refine g_retl hC hs ?_ dX4_lowest_18
    unfold lowS; rw [if_neg c14]
set_option maxHeartbeats 4000000 in
set_option maxRecDepth 100000 in
theorem c_J6_bitCount_0f7a4 (l : Launch) {G : gG} {H : Heap} {u : Nat} (hu : u < 16) : Met l yJ6_bitCount_0f7a4 (gw yJ6_bitCount_0f7a4 cJ6_bitCount_0f7a4 1 (some (.int))) ({ frames := 0, cells := 0, slots := 0, locals := 0 } : Room) (gPc G H [.int (nI u)]) (gQp (some (.int (nI (popc u))))) 0 0 (fun _ => False) := by
  refine g_met [(0, .int (nI u))] (by decide) rfl (by exact Nat.le_of_ble_eq_true rfl) ?_
  intro p e s m below meth c hC hs ls hl
  have hx := hC.1.1
  have hb := hC.1.2.1
  refine lv_iload_n hx hb dJ6_bitCount_0f7a4_0 rfl (lv_at hl 0 rfl) ?_
  refine lv_iload_n hx hb dJ6_bitCount_0f7a4_1 rfl (lv_at hl 0 rfl) ?_
  refine lv_iconst (v := nI 1) hx hb dJ6_bitCount_0f7a4_2 (by decide) ?_
  refine lv_iushr hx hb dJ6_bitCount_0f7a4_3 rfl ?_
  refine lv_ldcw (v := (1431655765 : Int32)) hx hb hC.1.2.2.2.1 (hC.1.2.2.2.2 _ q2_93) dJ6_bitCount_0f7a4_4 ?_
  refine lv_iand hx hb dJ6_bitCount_0f7a4_7 ?_
  refine lv_isub hx hb dJ6_bitCount_0f7a4_8 ?_
  refine lv_istore_n (lv' := [(0, .int ((nI u) - ((((nI u).toUInt32 >>> ((nI 1).toUInt32 &&& Int32.toUInt32 31)).toInt32) &&& (1431655765 : Int32))))]) hx hb dJ6_bitCount_0f7a4_9 rfl hl (by decide) rfl (fun ls hl => ?_)
  refine lv_iload_n hx hb dJ6_bitCount_0f7a4_10 rfl (lv_at hl 0 rfl) ?_
  refine lv_ldcw (v := (858993459 : Int32)) hx hb hC.1.2.2.2.1 (hC.1.2.2.2.2 _ q2_94) dJ6_bitCount_0f7a4_11 ?_
  refine lv_iand hx hb dJ6_bitCount_0f7a4_14 ?_
  refine lv_iload_n hx hb dJ6_bitCount_0f7a4_15 rfl (lv_at hl 0 rfl) ?_
  refine lv_iconst (v := nI 2) hx hb dJ6_bitCount_0f7a4_16 (by decide) ?_
  refine lv_iushr hx hb dJ6_bitCount_0f7a4_17 rfl ?_
  refine lv_ldcw (v := (858993459 : Int32)) hx hb hC.1.2.2.2.1 (hC.1.2.2.2.2 _ q2_94) dJ6_bitCount_0f7a4_18 ?_
  refine lv_iand hx hb dJ6_bitCount_0f7a4_21 ?_
  refine lv_iadd hx hb dJ6_bitCount_0f7a4_22 ?_
  refine lv_istore_n (lv' := [(0, .int ((((nI u) - ((((nI u).toUInt32 >>> ((nI 1).toUInt32 &&& Int32.toUInt32 31)).toInt32) &&& (1431655765 : Int32))) &&& (858993459 : Int32)) + (((((nI u) - ((((nI u).toUInt32 >>> ((nI 1).toUInt32 &&& Int32.toUInt32 31)).toInt32) &&& (1431655765 : Int32))).toUInt32 >>> ((nI 2).toUInt32 &&& Int32.toUInt32 31)).toInt32) &&& (858993459 : Int32))))]) hx hb dJ6_bitCount_0f7a4_23 rfl hl (by decide) rfl (fun ls hl => ?_)
  refine lv_iload_n hx hb dJ6_bitCount_0f7a4_24 rfl (lv_at hl 0 rfl) ?_
  refine lv_iload_n hx hb dJ6_bitCount_0f7a4_25 rfl (lv_at hl 0 rfl) ?_
  refine lv_iconst (v := nI 4) hx hb dJ6_bitCount_0f7a4_26 (by decide) ?_
  refine lv_iushr hx hb dJ6_bitCount_0f7a4_27 rfl ?_
  refine lv_iadd hx hb dJ6_bitCount_0f7a4_28 ?_
  refine lv_ldcw (v := (252645135 : Int32)) hx hb hC.1.2.2.2.1 (hC.1.2.2.2.2 _ q2_95) dJ6_bitCount_0f7a4_29 ?_
  refine lv_iand hx hb dJ6_bitCount_0f7a4_32 ?_
  refine lv_istore_n (lv' := [(0, .int ((((((nI u) - ((((nI u).toUInt32 >>> ((nI 1).toUInt32 &&& Int32.toUInt32 31)).toInt32) &&& (1431655765 : Int32))) &&& (858993459 : Int32)) + (((((nI u) - ((((nI u).toUInt32 >>> ((nI 1).toUInt32 &&& Int32.toUInt32 31)).toInt32) &&& (1431655765 : Int32))).toUInt32 >>> ((nI 2).toUInt32 &&& Int32.toUInt32 31)).toInt32) &&& (858993459 : Int32))) + ((((((nI u) - ((((nI u).toUInt32 >>> ((nI 1).toUInt32 &&& Int32.toUInt32 31)).toInt32) &&& (1431655765 : Int32))) &&& (858993459 : Int32)) + (((((nI u) - ((((nI u).toUInt32 >>> ((nI 1).toUInt32 &&& Int32.toUInt32 31)).toInt32) &&& (1431655765 : Int32))).toUInt32 >>> ((nI 2).toUInt32 &&& Int32.toUInt32 31)).toInt32) &&& (858993459 : Int32))).toUInt32 >>> ((nI 4).toUInt32 &&& Int32.toUInt32 31)).toInt32)) &&& (252645135 : Int32)))]) hx hb dJ6_bitCount_0f7a4_33 rfl hl (by decide) rfl (fun ls hl => ?_)
  refine lv_iload_n hx hb dJ6_bitCount_0f7a4_34 rfl (lv_at hl 0 rfl) ?_
  refine lv_iload_n hx hb dJ6_bitCount_0f7a4_35 rfl (lv_at hl 0 rfl) ?_
  refine lv_bipush (v := nI 8) hx hb dJ6_bitCount_0f7a4_36 (by decide) ?_
  refine lv_iushr hx hb dJ6_bitCount_0f7a4_38 rfl ?_
  refine lv_iadd hx hb dJ6_bitCount_0f7a4_39 ?_
  refine lv_istore_n (lv' := [(0, .int (((((((nI u) - ((((nI u).toUInt32 >>> ((nI 1).toUInt32 &&& Int32.toUInt32 31)).toInt32) &&& (1431655765 : Int32))) &&& (858993459 : Int32)) + (((((nI u) - ((((nI u).toUInt32 >>> ((nI 1).toUInt32 &&& Int32.toUInt32 31)).toInt32) &&& (1431655765 : Int32))).toUInt32 >>> ((nI 2).toUInt32 &&& Int32.toUInt32 31)).toInt32) &&& (858993459 : Int32))) + ((((((nI u) - ((((nI u).toUInt32 >>> ((nI 1).toUInt32 &&& Int32.toUInt32 31)).toInt32) &&& (1431655765 : Int32))) &&& (858993459 : Int32)) + (((((nI u) - ((((nI u).toUInt32 >>> ((nI 1).toUInt32 &&& Int32.toUInt32 31)).toInt32) &&& (1431655765 : Int32))).toUInt32 >>> ((nI 2).toUInt32 &&& Int32.toUInt32 31)).toInt32) &&& (858993459 : Int32))).toUInt32 >>> ((nI 4).toUInt32 &&& Int32.toUInt32 31)).toInt32)) &&& (252645135 : Int32)) + ((((((((nI u) - ((((nI u).toUInt32 >>> ((nI 1).toUInt32 &&& Int32.toUInt32 31)).toInt32) &&& (1431655765 : Int32))) &&& (858993459 : Int32)) + (((((nI u) - ((((nI u).toUInt32 >>> ((nI 1).toUInt32 &&& Int32.toUInt32 31)).toInt32) &&& (1431655765 : Int32))).toUInt32 >>> ((nI 2).toUInt32 &&& Int32.toUInt32 31)).toInt32) &&& (858993459 : Int32))) + ((((((nI u) - ((((nI u).toUInt32 >>> ((nI 1).toUInt32 &&& Int32.toUInt32 31)).toInt32) &&& (1431655765 : Int32))) &&& (858993459 : Int32)) + (((((nI u) - ((((nI u).toUInt32 >>> ((nI 1).toUInt32 &&& Int32.toUInt32 31)).toInt32) &&& (1431655765 : Int32))).toUInt32 >>> ((nI 2).toUInt32 &&& Int32.toUInt32 31)).toInt32) &&& (858993459 : Int32))).toUInt32 >>> ((nI 4).toUInt32 &&& Int32.toUInt32 31)).toInt32)) &&& (252645135 : Int32)).toUInt32 >>> ((nI 8).toUInt32 &&& Int32.toUInt32 31)).toInt32)))]) hx hb dJ6_bitCount_0f7a4_40 rfl hl (by decide) rfl (fun ls hl => ?_)
  refine lv_iload_n hx hb dJ6_bitCount_0f7a4_41 rfl (lv_at hl 0 rfl) ?_
  refine lv_iload_n hx hb dJ6_bitCount_0f7a4_42 rfl (lv_at hl 0 rfl) ?_
  refine lv_bipush (v := nI 16) hx hb dJ6_bitCount_0f7a4_43 (by decide) ?_
  refine lv_iushr hx hb dJ6_bitCount_0f7a4_45 rfl ?_
  refine lv_iadd hx hb dJ6_bitCount_0f7a4_46 ?_
  refine lv_istore_n (lv' := [(0, .int ((((((((nI u) - ((((nI u).toUInt32 >>> ((nI 1).toUInt32 &&& Int32.toUInt32 31)).toInt32) &&& (1431655765 : Int32))) &&& (858993459 : Int32)) + (((((nI u) - ((((nI u).toUInt32 >>> ((nI 1).toUInt32 &&& Int32.toUInt32 31)).toInt32) &&& (1431655765 : Int32))).toUInt32 >>> ((nI 2).toUInt32 &&& Int32.toUInt32 31)).toInt32) &&& (858993459 : Int32))) + ((((((nI u) - ((((nI u).toUInt32 >>> ((nI 1).toUInt32 &&& Int32.toUInt32 31)).toInt32) &&& (1431655765 : Int32))) &&& (858993459 : Int32)) + (((((nI u) - ((((nI u).toUInt32 >>> ((nI 1).toUInt32 &&& Int32.toUInt32 31)).toInt32) &&& (1431655765 : Int32))).toUInt32 >>> ((nI 2).toUInt32 &&& Int32.toUInt32 31)).toInt32) &&& (858993459 : Int32))).toUInt32 >>> ((nI 4).toUInt32 &&& Int32.toUInt32 31)).toInt32)) &&& (252645135 : Int32)) + ((((((((nI u) - ((((nI u).toUInt32 >>> ((nI 1).toUInt32 &&& Int32.toUInt32 31)).toInt32) &&& (1431655765 : Int32))) &&& (858993459 : Int32)) + (((((nI u) - ((((nI u).toUInt32 >>> ((nI 1).toUInt32 &&& Int32.toUInt32 31)).toInt32) &&& (1431655765 : Int32))).toUInt32 >>> ((nI 2).toUInt32 &&& Int32.toUInt32 31)).toInt32) &&& (858993459 : Int32))) + ((((((nI u) - ((((nI u).toUInt32 >>> ((nI 1).toUInt32 &&& Int32.toUInt32 31)).toInt32) &&& (1431655765 : Int32))) &&& (858993459 : Int32)) + (((((nI u) - ((((nI u).toUInt32 >>> ((nI 1).toUInt32 &&& Int32.toUInt32 31)).toInt32) &&& (1431655765 : Int32))).toUInt32 >>> ((nI 2).toUInt32 &&& Int32.toUInt32 31)).toInt32) &&& (858993459 : Int32))).toUInt32 >>> ((nI 4).toUInt32 &&& Int32.toUInt32 31)).toInt32)) &&& (252645135 : Int32)).toUInt32 >>> ((nI 8).toUInt32 &&& Int32.toUInt32 31)).toInt32)) + (((((((((nI u) - ((((nI u).toUInt32 >>> ((nI 1).toUInt32 &&& Int32.toUInt32 31)).toInt32) &&& (1431655765 : Int32))) &&& (858993459 : Int32)) + (((((nI u) - ((((nI u).toUInt32 >>> ((nI 1).toUInt32 &&& Int32.toUInt32 31)).toInt32) &&& (1431655765 : Int32))).toUInt32 >>> ((nI 2).toUInt32 &&& Int32.toUInt32 31)).toInt32) &&& (858993459 : Int32))) + ((((((nI u) - ((((nI u).toUInt32 >>> ((nI 1).toUInt32 &&& Int32.toUInt32 31)).toInt32) &&& (1431655765 : Int32))) &&& (858993459 : Int32)) + (((((nI u) - ((((nI u).toUInt32 >>> ((nI 1).toUInt32 &&& Int32.toUInt32 31)).toInt32) &&& (1431655765 : Int32))).toUInt32 >>> ((nI 2).toUInt32 &&& Int32.toUInt32 31)).toInt32) &&& (858993459 : Int32))).toUInt32 >>> ((nI 4).toUInt32 &&& Int32.toUInt32 31)).toInt32)) &&& (252645135 : Int32)) + ((((((((nI u) - ((((nI u).toUInt32 >>> ((nI 1).toUInt32 &&& Int32.toUInt32 31)).toInt32) &&& (1431655765 : Int32))) &&& (858993459 : Int32)) + (((((nI u) - ((((nI u).toUInt32 >>> ((nI 1).toUInt32 &&& Int32.toUInt32 31)).toInt32) &&& (1431655765 : Int32))).toUInt32 >>> ((nI 2).toUInt32 &&& Int32.toUInt32 31)).toInt32) &&& (858993459 : Int32))) + ((((((nI u) - ((((nI u).toUInt32 >>> ((nI 1).toUInt32 &&& Int32.toUInt32 31)).toInt32) &&& (1431655765 : Int32))) &&& (858993459 : Int32)) + (((((nI u) - ((((nI u).toUInt32 >>> ((nI 1).toUInt32 &&& Int32.toUInt32 31)).toInt32) &&& (1431655765 : Int32))).toUInt32 >>> ((nI 2).toUInt32 &&& Int32.toUInt32 31)).toInt32) &&& (858993459 : Int32))).toUInt32 >>> ((nI 4).toUInt32 &&& Int32.toUInt32 31)).toInt32)) &&& (252645135 : Int32)).toUInt32 >>> ((nI 8).toUInt32 &&& Int32.toUInt32 31)).toInt32)).toUInt32 >>> ((nI 16).toUInt32 &&& Int32.toUInt32 31)).toInt32)))]) hx hb dJ6_bitCount_0f7a4_47 rfl hl (by decide) rfl (fun ls hl => ?_)
  refine lv_iload_n hx hb dJ6_bitCount_0f7a4_48 rfl (lv_at hl 0 rfl) ?_
  refine lv_bipush (v := nI 63) hx hb dJ6_bitCount_0f7a4_49 (by decide) ?_
  refine lv_iand hx hb dJ6_bitCount_0f7a4_51 ?_
  refine g_reti hC hs ?_ dJ6_bitCount_0f7a4_52
  have h : ∀ u, u < 16 → (((((((((nI u) - ((((nI u).toUInt32 >>> ((nI 1).toUInt32 &&& Int32.toUInt32 31)).toInt32) &&& (1431655765 : Int32))) &&& (858993459 : Int32)) + (((((nI u) - ((((nI u).toUInt32 >>> ((nI 1).toUInt32 &&& Int32.toUInt32 31)).toInt32) &&& (1431655765 : Int32))).toUInt32 >>> ((nI 2).toUInt32 &&& Int32.toUInt32 31)).toInt32) &&& (858993459 : Int32))) + ((((((nI u) - ((((nI u).toUInt32 >>> ((nI 1).toUInt32 &&& Int32.toUInt32 31)).toInt32) &&& (1431655765 : Int32))) &&& (858993459 : Int32)) + (((((nI u) - ((((nI u).toUInt32 >>> ((nI 1).toUInt32 &&& Int32.toUInt32 31)).toInt32) &&& (1431655765 : Int32))).toUInt32 >>> ((nI 2).toUInt32 &&& Int32.toUInt32 31)).toInt32) &&& (858993459 : Int32))).toUInt32 >>> ((nI 4).toUInt32 &&& Int32.toUInt32 31)).toInt32)) &&& (252645135 : Int32)) + ((((((((nI u) - ((((nI u).toUInt32 >>> ((nI 1).toUInt32 &&& Int32.toUInt32 31)).toInt32) &&& (1431655765 : Int32))) &&& (858993459 : Int32)) + (((((nI u) - ((((nI u).toUInt32 >>> ((nI 1).toUInt32 &&& Int32.toUInt32 31)).toInt32) &&& (1431655765 : Int32))).toUInt32 >>> ((nI 2).toUInt32 &&& Int32.toUInt32 31)).toInt32) &&& (858993459 : Int32))) + ((((((nI u) - ((((nI u).toUInt32 >>> ((nI 1).toUInt32 &&& Int32.toUInt32 31)).toInt32) &&& (1431655765 : Int32))) &&& (858993459 : Int32)) + (((((nI u) - ((((nI u).toUInt32 >>> ((nI 1).toUInt32 &&& Int32.toUInt32 31)).toInt32) &&& (1431655765 : Int32))).toUInt32 >>> ((nI 2).toUInt32 &&& Int32.toUInt32 31)).toInt32) &&& (858993459 : Int32))).toUInt32 >>> ((nI 4).toUInt32 &&& Int32.toUInt32 31)).toInt32)) &&& (252645135 : Int32)).toUInt32 >>> ((nI 8).toUInt32 &&& Int32.toUInt32 31)).toInt32)) + (((((((((nI u) - ((((nI u).toUInt32 >>> ((nI 1).toUInt32 &&& Int32.toUInt32 31)).toInt32) &&& (1431655765 : Int32))) &&& (858993459 : Int32)) + (((((nI u) - ((((nI u).toUInt32 >>> ((nI 1).toUInt32 &&& Int32.toUInt32 31)).toInt32) &&& (1431655765 : Int32))).toUInt32 >>> ((nI 2).toUInt32 &&& Int32.toUInt32 31)).toInt32) &&& (858993459 : Int32))) + ((((((nI u) - ((((nI u).toUInt32 >>> ((nI 1).toUInt32 &&& Int32.toUInt32 31)).toInt32) &&& (1431655765 : Int32))) &&& (858993459 : Int32)) + (((((nI u) - ((((nI u).toUInt32 >>> ((nI 1).toUInt32 &&& Int32.toUInt32 31)).toInt32) &&& (1431655765 : Int32))).toUInt32 >>> ((nI 2).toUInt32 &&& Int32.toUInt32 31)).toInt32) &&& (858993459 : Int32))).toUInt32 >>> ((nI 4).toUInt32 &&& Int32.toUInt32 31)).toInt32)) &&& (252645135 : Int32)) + ((((((((nI u) - ((((nI u).toUInt32 >>> ((nI 1).toUInt32 &&& Int32.toUInt32 31)).toInt32) &&& (1431655765 : Int32))) &&& (858993459 : Int32)) + (((((nI u) - ((((nI u).toUInt32 >>> ((nI 1).toUInt32 &&& Int32.toUInt32 31)).toInt32) &&& (1431655765 : Int32))).toUInt32 >>> ((nI 2).toUInt32 &&& Int32.toUInt32 31)).toInt32) &&& (858993459 : Int32))) + ((((((nI u) - ((((nI u).toUInt32 >>> ((nI 1).toUInt32 &&& Int32.toUInt32 31)).toInt32) &&& (1431655765 : Int32))) &&& (858993459 : Int32)) + (((((nI u) - ((((nI u).toUInt32 >>> ((nI 1).toUInt32 &&& Int32.toUInt32 31)).toInt32) &&& (1431655765 : Int32))).toUInt32 >>> ((nI 2).toUInt32 &&& Int32.toUInt32 31)).toInt32) &&& (858993459 : Int32))).toUInt32 >>> ((nI 4).toUInt32 &&& Int32.toUInt32 31)).toInt32)) &&& (252645135 : Int32)).toUInt32 >>> ((nI 8).toUInt32 &&& Int32.toUInt32 31)).toInt32)).toUInt32 >>> ((nI 16).toUInt32 &&& Int32.toUInt32 31)).toInt32)) &&& (nI 63) : Int32) = nI (popc u) := by decide +kernel
  exact h u hu
end
section
/-! ===== writing methods of Player and Mix ===== -/
/-- one place of one row -/
def au {α : Type} (F : Nat → Nat → α) (a k : Nat) (v : α) : Nat → Nat → α := gu F a (gu (F a) k v)
theorem au_row {α : Type} (F : Nat → Nat → α) (a k : Nat) (v : α) : au F a k v a = gu (F a) k v := gu_eq _ _ _
theorem au_ne {α : Type} (F : Nat → Nat → α) {a b : Nat} (k : Nat) (v : α) (h : b ≠ a) : au F a k v b = F b := gu_ne _ _ h
theorem au_gu {α : Type} (F : Nat → Nat → α) (a k : Nat) (f : Nat → α) (v : α) : au (gu F a f) a k v = gu F a (gu f k v) := by
  unfold au; rw [gu_eq, gu_gu]
theorem au_def {α : Type} (F : Nat → Nat → α) (a k : Nat) (v : α) : au F a k v = gu F a (gu (F a) k v) := rfl
/-- the first 16 are 0 -/
def z16 (f : Nat → Int32) (i : Nat) : Nat → Int32 := fun j => if j < i then 0 else f j
def addA (f : Nat → Int32) (i k : Nat) (v : Int32) : Nat → Int32 := fun j => if j % 4 = k ∧ j / 4 < i then f j + v else f j
def mulA (f : Nat → Int32) (i : Nat) (v : Int32) : Nat → Int32 := fun j => if j < i then f j * v else f j
def tsum (X : Nat → Int64) : Nat → Int64
  | 0 => 0
  | k + 1 => tsum X k + X k
def usedB (X : Nat → Int64) (i : Nat) : Nat := msk (fun k => decide (0 < X k)) i
def trayX (X : Nat → Int64) (w : Nat → Int32) (ch i : Nat) : Nat → Int64 := fun j => if j < i then (if j < ch then (w j).toInt64 else 0) else X j
def msum (P : Nat → Int32) (X Y : Nat → Int64) : Nat → Int64
  | 0 => 0
  | k + 1 => msum P X Y k + X k * wsum P Y k 4
theorem isPl_au {T : gTy} {O O' : gO} {b ch a k : Nat} {v : Value} (h : isPl T O b ch) (hO : O' = au O a k v) (hne : b ≠ a) : isPl T O' b ch := by
  unfold isPl at *
  rw [hO, au_ne _ _ _ hne]
  exact h
theorem isMx_au {T : gTy} {O O' : gO} {b a k : Nat} {v : Value} (h : isMx T O b) (hO : O' = au O a k v) (hne : b ≠ a ∨ k ≠ 0) : isMx T O' b := by
  unfold isMx at *
  rcases Classical.em (b = a) with e | e
  · subst e
    rw [hO, au_row, gu_ne _ _ (by omega)]
    exact h
  · rw [hO, au_ne _ _ _ e]
    exact h
theorem z16_s (f : Nat → Int32) (i : Nat) : gu (z16 f i) i 0 = z16 f (i + 1) := by
  funext j
  by_cases h : j = i
  · simp [gu, z16, h]
  · simp only [gu, z16, h, if_false]
    by_cases h2 : j < i
    · rw [if_pos h2, if_pos (by omega)]
    · rw [if_neg h2, if_neg (by omega)]
theorem addA_0 (f : Nat → Int32) (k : Nat) (v : Int32) : addA f 0 k v = f := by
  funext j; simp [addA]
theorem addA_at (f : Nat → Int32) {i k : Nat} (hk : k < 4) (v : Int32) : addA f i k v (i * 4 + k) = f (i * 4 + k) := by
  unfold addA
  rw [if_neg (by omega)]
theorem addA_s (f : Nat → Int32) {i k : Nat} (hk : k < 4) (v : Int32) : gu (addA f i k v) (i * 4 + k) (f (i * 4 + k) + v) = addA f (i + 1) k v := by
  funext j
  by_cases h : j = i * 4 + k
  · subst h
    simp only [gu, if_true, addA]
    rw [if_pos (by omega)]
  · simp only [gu, addA, h, if_false]
    by_cases h2 : j % 4 = k ∧ j / 4 < i
    · rw [if_pos h2, if_pos (by omega)]
    · rw [if_neg h2, if_neg (by omega)]
theorem mulA_s (f : Nat → Int32) (i : Nat) (v : Int32) : gu (mulA f i v) i (mulA f i v i * v) = mulA f (i + 1) v := by
  funext j
  by_cases h : j = i
  · simp [gu, mulA, h]
  · simp only [gu, mulA, h, if_false]
    by_cases h2 : j < i
    · rw [if_pos h2, if_pos (by omega)]
    · rw [if_neg h2, if_neg (by omega)]
theorem trayX_s (X : Nat → Int64) (w : Nat → Int32) (ch i : Nat) : gu (trayX X w ch i) i (if i < ch then (w i).toInt64 else 0) = trayX X w ch (i + 1) := by
  funext j
  by_cases h : j = i
  · simp [gu, trayX, h]
  · simp only [gu, trayX, h, if_false]
    by_cases h2 : j < i
    · simp [h2, show j < i + 1 by omega]
    · simp [h2, show ¬ j < i + 1 by omega]
set_option maxHeartbeats 4000000 in
set_option maxRecDepth 100000 in
theorem c_X3_startAnew (l : Launch) {G : gG} {T : gTy} {I : gI} {J : gJ} {Q : gR} {O : gO} {H : Heap} (hP : gP G T I J Q O H) {b ch nn : Nat} (hpl : isPl T O b ch) : Met l yX3_startAnew (gw yX3_startAnew cX3_startAnew 3 (none)) ({ frames := 0, cells := 0, slots := 0, locals := 0 } : Room) (gPc G H [.ref b, .int (nI nn)]) (gQc (gF T H) (fun r H1 => r = none ∧ gP G T (gu I (b + 9) (z16 (I (b + 9)) 16)) J Q (au O b 0 (.int (nI nn))) H1)) 0 0 (gF T H) := by
  refine g_met [(0, .ref b), (1, .int (nI nn))] (by decide) rfl (by exact Nat.le_of_ble_eq_true rfl) ?_
  intro p e s m below meth c hC hs ls hl
  have hx := hC.1.1
  have hb := hC.1.2.1
  have hS : va_S (gF T H) s.heap H [] := hs ▸ va_S.rf
  have hTA : ∀ q, (T q).1 ≠ 0 → gF T H q := fun q h => Or.inl h
  have hA : ∀ q, s.heap.size ≤ q → gF T H q := fun q h => Or.inr (hs ▸ h)
  generalize hAe : gF T H = A at hS hTA hA ⊢
  have hpl_lo := hpl.2.2.2.2.2.2.2.2.1
  have hpl_hi := hpl.2.2.2.2.2.2.2.2.2
  refine lv_aload_n hx hb dX3_startAnew_0 rfl (lv_at hl 0 rfl) ?_
  refine lv_iload_n hx hb dX3_startAnew_1 rfl (lv_at hl 1 rfl) ?_
  refine g_put hC hP hS hTA hpl.1 rfl inX3 tyX3 tyX3_ok nmX3 0 (by decide) q1_77 rfl (ty := tyX3 0) (by decide) rfl rfl dX3_startAnew_2 (fun H1 locs2 hP hS hz4 => ?_)
  obtain ⟨O3, hO3, hP⟩ : ∃ X : gO, X = au O b 0 (.int (nI nn)) ∧ gP G T I J Q X H1 := ⟨_, rfl, hP⟩
  refine lv_iconst (v := nI 0) hx hb dX3_startAnew_5 (by decide) ?_
  refine lv_istore_n (lv' := [(2, .int (nI 0)), (0, .ref b), (1, .int (nI nn))]) hx hb dX3_startAnew_6 rfl hl (by decide) rfl (fun ls hl => ?_)
  have L7 : ∀ (n7 : Nat) (i : Nat) (I2 : gI), 17 ≤ n7 + i → (i ≤ 16) → (I2 = gu I (b + 9) (z16 (I (b + 9)) i)) → ∀ (H : Heap) (locs : List Loc), gP G T I2 J Q O3 H → va_S A s.heap H locs → ∀ ls : Array Slot, lv_has ls 3 [(0, .ref b), (1, .int (nI nn)), (2, .int (nI i))] → W p l e ({ frames := 0, cells := 0, slots := 0, locals := 0 } : Room) s m [.ref b, .int (nI nn)].toArray below meth c H locs 0 0 (MQ below (gQc A (fun r H1 => r = none ∧ gP G T (gu I (b + 9) (z16 (I (b + 9)) 16)) J Q (au O b 0 (.int (nI nn))) H1)) [.ref b, .int (nI nn)].toArray s 0 0 A) (F0 m 7 ls []) := by
    intro n7
    induction n7 with
    | zero => intro i I2 hn7 hi h1; exact absurd hn7 (by omega)
    | succ n7 ih7 =>
      intro i I2 hn7 hi h1 H locs hP hS ls hl
      refine lv_iload_n hx hb dX3_startAnew_7 rfl (lv_at hl 2 rfl) ?_
      refine lv_aload_n hx hb dX3_startAnew_8 rfl (lv_at hl 0 rfl) ?_
      have ho5 : O3 b 2 = .ref (b + 9) := by rw [hO3, au_row, gu_ne _ _ (by decide)]; exact hpl.2.2.2.1
      refine g_get hC hP hpl.1 rfl inX3 2 (by decide) q1_81 ho5 dX3_startAnew_9 ?_
      refine g_alenI hC hP hpl.2.2.2.2.2.2.1 dX3_startAnew_12 ?_
      refine lv_icmp_ge (tgt := 29) hx hb dX3_startAnew_13 (by decide) (fun c13 => ?_) (fun c13 => ?_)
      · have c13 := (nI_leI (by omega) (by omega)).mp c13
        refine g_retcv hC hS ?_ dX3_startAnew_29
        refine ⟨rfl, ?_⟩
        have e : i = 16 := by omega
        subst e
        subst h1
        simpa only [*] using hP
      · have c13 := mt (nI_leI (by omega) (by omega)).mpr c13
        refine lv_aload_n hx hb dX3_startAnew_16 rfl (lv_at hl 0 rfl) ?_
        refine g_get hC hP hpl.1 rfl inX3 2 (by decide) q1_81 ho5 dX3_startAnew_17 ?_
        refine lv_iload_n hx hb dX3_startAnew_20 rfl (lv_at hl 2 rfl) ?_
        refine lv_iconst (v := nI 0) hx hb dX3_startAnew_21 (by decide) ?_
        refine g_iast hC hP hS hTA hpl.2.2.2.2.2.2.1 (vp_in_nI (by omega) (by decide)) dX3_startAnew_22 (fun H6 locs7 hP hS hz9 => ?_)
        rw [show (nI i).toNatClampNeg = i from nI_clamp (by omega)] at hP
        obtain ⟨I8, hI8, hP⟩ : ∃ X : gI, X = au I2 (b + 9) i (nI 0) ∧ gP G T X J Q O3 H6 := ⟨_, rfl, hP⟩
        refine lv_iinc (v := nI (i + 1)) (lv' := [(2, .int (nI (i + 1))), (0, .ref b), (1, .int (nI nn))]) hx hb dX3_startAnew_23 hl (k := 2) rfl (nI_inc _) (by decide) rfl (fun ls hl => ?_)
        refine lv_goto (tgt := 7) hx hb dX3_startAnew_26 (by decide) ?_
        exact ih7 (i + 1) I8 (by omega) (by omega) (by rw [hI8, h1, au_gu]; exact congrArg _ (z16_s _ _)) _ _ hP hS ls (lv_sub hl [1, 2, 0] rfl)
  exact L7 17 0 I (by omega) (by omega) (by rw [show z16 (I (b + 9)) 0 = I (b + 9) from funext fun j => by simp [z16], gu_self]) _ _ hP hS ls (lv_sub hl [1, 2, 0] rfl)
set_option maxHeartbeats 4000000 in
set_option maxRecDepth 100000 in
theorem c_X3_setPay (l : Launch) {G : gG} {T : gTy} {I : gI} {J : gJ} {Q : gR} {O : gO} {H : Heap} (hP : gP G T I J Q O H) {b ch i k : Nat} {v : Int32} (hpl : isPl T O b ch) (hi : i < 4) (hk : k < 4) : Met l yX3_setPay (gw yX3_setPay cX3_setPay 4 (none)) ({ frames := 0, cells := 0, slots := 0, locals := 0 } : Room) (gPc G H [.ref b, .int (nI i), .int (nI k), .int v]) (gQc (gF T H) (fun r H1 => r = none ∧ gP G T (au I (b + 9) (i * 4 + k) v) J Q O H1)) 0 0 (gF T H) := by
  refine g_met [(0, .ref b), (1, .int (nI i)), (2, .int (nI k)), (3, .int v)] (by decide) rfl (by exact Nat.le_of_ble_eq_true rfl) ?_
  intro p e s m below meth c hC hs ls hl
  have hx := hC.1.1
  have hb := hC.1.2.1
  have hS : va_S (gF T H) s.heap H [] := hs ▸ va_S.rf
  have hTA : ∀ q, (T q).1 ≠ 0 → gF T H q := fun q h => Or.inl h
  have hA : ∀ q, s.heap.size ≤ q → gF T H q := fun q h => Or.inr (hs ▸ h)
  generalize hAe : gF T H = A at hS hTA hA ⊢
  have hpl_lo := hpl.2.2.2.2.2.2.2.2.1
  have hpl_hi := hpl.2.2.2.2.2.2.2.2.2
  refine lv_aload_n hx hb dX3_setPay_0 rfl (lv_at hl 0 rfl) ?_
  refine g_get hC hP hpl.1 rfl inX3 2 (by decide) q1_81 hpl.2.2.2.1 dX3_setPay_1 ?_
  refine lv_iload_n hx hb dX3_setPay_4 rfl (lv_at hl 1 rfl) ?_
  refine lv_iconst (v := nI 4) hx hb dX3_setPay_5 (by decide) ?_
  refine lv_imul hx hb dX3_setPay_6 ?_
  refine g_topi (y := nI (i * 4)) (nI_mul _ _) ?_
  refine lv_iload_n hx hb dX3_setPay_7 rfl (lv_at hl 2 rfl) ?_
  refine lv_iadd hx hb dX3_setPay_8 ?_
  refine g_topi (y := nI (i * 4 + k)) (nI_add _ _) ?_
  refine lv_iload_n hx hb dX3_setPay_9 rfl (lv_at hl 3 rfl) ?_
  refine g_iast hC hP hS hTA hpl.2.2.2.2.2.2.1 (vp_in_nI (by omega) (by decide)) dX3_setPay_10 (fun H1 locs2 hP hS hz4 => ?_)
  rw [show (nI (i * 4 + k)).toNatClampNeg = i * 4 + k from nI_clamp (by omega)] at hP
  obtain ⟨I3, hI3, hP⟩ : ∃ X : gI, X = au I (b + 9) (i * 4 + k) v ∧ gP G T X J Q O H1 := ⟨_, rfl, hP⟩
  refine g_retcv hC hS ?_ dX3_setPay_11
  refine ⟨rfl, ?_⟩
  simpa only [*] using hP
set_option maxHeartbeats 4000000 in
set_option maxRecDepth 100000 in
theorem c_X3_changeWeight (l : Launch) {G : gG} {T : gTy} {I : gI} {J : gJ} {Q : gR} {O : gO} {H : Heap} (hP : gP G T I J Q O H) {b ch k : Nat} {v : Int32} (hpl : isPl T O b ch) (hk : k < 4) : Met l yX3_changeWeight (gw yX3_changeWeight cX3_changeWeight 4 (some (.int))) ({ frames := 0, cells := 0, slots := 0, locals := 0 } : Room) (gPc G H [.ref b, .int (nI k), .int v]) (gQc (gF T H) (fun r H1 => r = some (.int (I (b + 10) k)) ∧ gP G T (au I (b + 10) k v) J Q O H1)) 0 0 (gF T H) := by
  refine g_met [(0, .ref b), (1, .int (nI k)), (2, .int v)] (by decide) rfl (by exact Nat.le_of_ble_eq_true rfl) ?_
  intro p e s m below meth c hC hs ls hl
  have hx := hC.1.1
  have hb := hC.1.2.1
  have hS : va_S (gF T H) s.heap H [] := hs ▸ va_S.rf
  have hTA : ∀ q, (T q).1 ≠ 0 → gF T H q := fun q h => Or.inl h
  have hA : ∀ q, s.heap.size ≤ q → gF T H q := fun q h => Or.inr (hs ▸ h)
  generalize hAe : gF T H = A at hS hTA hA ⊢
  have hpl_lo := hpl.2.2.2.2.2.2.2.2.1
  have hpl_hi := hpl.2.2.2.2.2.2.2.2.2
  refine lv_aload_n hx hb dX3_changeWeight_0 rfl (lv_at hl 0 rfl) ?_
  refine g_get hC hP hpl.1 rfl inX3 3 (by decide) q1_82 hpl.2.2.2.2.1 dX3_changeWeight_1 ?_
  refine lv_iload_n hx hb dX3_changeWeight_4 rfl (lv_at hl 1 rfl) ?_
  refine g_iald hC hP hpl.2.2.2.2.2.2.2.1 (vp_in_nI (by omega) (by decide)) dX3_changeWeight_5 ?_
  refine g_topi (y := I (b + 10) k) (congrArg (I (b + 10)) (nI_clamp (by omega))) ?_
  refine lv_istore_n (lv' := [(3, .int (I (b + 10) k)), (0, .ref b), (1, .int (nI k)), (2, .int v)]) hx hb dX3_changeWeight_6 rfl hl (by decide) rfl (fun ls hl => ?_)
  refine lv_aload_n hx hb dX3_changeWeight_7 rfl (lv_at hl 1 rfl) ?_
  refine g_get hC hP hpl.1 rfl inX3 3 (by decide) q1_82 hpl.2.2.2.2.1 dX3_changeWeight_8 ?_
  refine lv_iload_n hx hb dX3_changeWeight_11 rfl (lv_at hl 2 rfl) ?_
  refine lv_iload_n hx hb dX3_changeWeight_12 rfl (lv_at hl 3 rfl) ?_
  refine g_iast hC hP hS hTA hpl.2.2.2.2.2.2.2.1 (vp_in_nI (by omega) (by decide)) dX3_changeWeight_13 (fun H1 locs2 hP hS hz4 => ?_)
  rw [show (nI k).toNatClampNeg = k from nI_clamp (by omega)] at hP
  obtain ⟨I3, hI3, hP⟩ : ∃ X : gI, X = au I (b + 10) k v ∧ gP G T X J Q O H1 := ⟨_, rfl, hP⟩
  refine lv_iload_n hx hb dX3_changeWeight_14 rfl (lv_at hl 0 rfl) ?_
  refine g_retci hC hS ?_ dX3_changeWeight_15
  refine ⟨rfl, ?_⟩
  simpa only [*] using hP
set_option maxHeartbeats 4000000 in
set_option maxRecDepth 100000 in
theorem c_X3_addAgainst (l : Launch) {G : gG} {T : gTy} {I : gI} {J : gJ} {Q : gR} {O : gO} {H : Heap} (hP : gP G T I J Q O H) {b ch k : Nat} {v : Int32} (hpl : isPl T O b ch) (hk : k < 4) : Met l yX3_addAgainst (gw yX3_addAgainst cX3_addAgainst 4 (none)) ({ frames := 1, cells := 0, slots := 0, locals := 23 } : Room) (gPc G H [.ref b, .int (nI k), .int v]) (gQc (gF T H) (fun r H1 => r = none ∧ gP G T (gu I (b + 9) (addA (I (b + 9)) ch k v)) J Q O H1)) 0 0 (gF T H) := by
  refine g_met [(0, .ref b), (1, .int (nI k)), (2, .int v)] (by decide) rfl (by exact Nat.le_of_ble_eq_true rfl) ?_
  intro p e s m below meth c hC hs ls hl
  have hx := hC.1.1
  have hb := hC.1.2.1
  have hS : va_S (gF T H) s.heap H [] := hs ▸ va_S.rf
  have hTA : ∀ q, (T q).1 ≠ 0 → gF T H q := fun q h => Or.inl h
  have hA : ∀ q, s.heap.size ≤ q → gF T H q := fun q h => Or.inr (hs ▸ h)
  generalize hAe : gF T H = A at hS hTA hA ⊢
  have hpl_lo := hpl.2.2.2.2.2.2.2.2.1
  have hpl_hi := hpl.2.2.2.2.2.2.2.2.2
  refine lv_iconst (v := nI 0) hx hb dX3_addAgainst_0 (by decide) ?_
  refine lv_istore_n (lv' := [(3, .int (nI 0)), (0, .ref b), (1, .int (nI k)), (2, .int v)]) hx hb dX3_addAgainst_1 rfl hl (by decide) rfl (fun ls hl => ?_)
  have L2 : ∀ (n2 : Nat) (i : Nat) (I2 : gI), 5 ≤ n2 + i → (i ≤ ch) → (I2 = gu I (b + 9) (addA (I (b + 9)) i k v)) → ∀ (H : Heap) (locs : List Loc), gP G T I2 J Q O H → va_S A s.heap H locs → ∀ ls : Array Slot, lv_has ls 4 [(0, .ref b), (1, .int (nI k)), (2, .int v), (3, .int (nI i))] → W p l e ({ frames := 1, cells := 0, slots := 0, locals := 23 } : Room) s m [.ref b, .int (nI k), .int v].toArray below meth c H locs 0 0 (MQ below (gQc A (fun r H1 => r = none ∧ gP G T (gu I (b + 9) (addA (I (b + 9)) ch k v)) J Q O H1)) [.ref b, .int (nI k), .int v].toArray s 0 0 A) (F0 m 2 ls []) := by
    intro n2
    induction n2 with
    | zero => intro i I2 hn2 hi h1; exact absurd hn2 (by omega)
    | succ n2 ih2 =>
      intro i I2 hn2 hi h1 H locs hP hS ls hl
      refine lv_iload_n hx hb dX3_addAgainst_2 rfl (lv_at hl 3 rfl) ?_
      refine lv_aload_n hx hb dX3_addAgainst_3 rfl (lv_at hl 0 rfl) ?_
      refine g_get hC hP hpl.1 rfl inX3 0 (by decide) q1_77 hpl.2.1 dX3_addAgainst_4 ?_
      refine lv_icmp_ge (tgt := 30) hx hb dX3_addAgainst_7 (by decide) (fun c7 => ?_) (fun c7 => ?_)
      · have c7 := (nI_leI (by omega) (by omega)).mp c7
        refine g_retcv hC hS ?_ dX3_addAgainst_30
        refine ⟨rfl, ?_⟩
        have e : i = ch := by omega
        subst e
        subst h1
        exact hP
      · have c7 := mt (nI_leI (by omega) (by omega)).mpr c7
        refine lv_aload_n hx hb dX3_addAgainst_10 rfl (lv_at hl 0 rfl) ?_
        refine lv_iload_n hx hb dX3_addAgainst_11 rfl (lv_at hl 3 rfl) ?_
        refine lv_iload_n hx hb dX3_addAgainst_12 rfl (lv_at hl 1 rfl) ?_
        refine lv_aload_n hx hb dX3_addAgainst_13 rfl (lv_at hl 0 rfl) ?_
        refine lv_iload_n hx hb dX3_addAgainst_14 rfl (lv_at hl 3 rfl) ?_
        refine lv_iload_n hx hb dX3_addAgainst_15 rfl (lv_at hl 1 rfl) ?_
        refine g_cp (g_rV (As := [.int (nI i), .int (nI k)]) hC hP (c_X3_payFor l hP (b := b) (ch := ch) (i := i) (k := k) (by first | assumption | omega) (by first | assumption | omega) (by first | assumption | omega)) hpl.1 rfl ⟨q1_170, q1_216, q1_168, q1_169, q1_2⟩ dd_X3_payFor ⟨Nat.le_of_ble_eq_true rfl, Nat.le_of_ble_eq_true rfl, rfl, rfl⟩ hl.1 rfl (Nat.le_of_ble_eq_true rfl) dX3_addAgainst_16 ⟨Nat.le_of_ble_eq_true rfl, Nat.le_of_ble_eq_true rfl⟩) ?_
        refine W.eq (g2 := F0 m 19 ls [.int (I2 (b + 9) (i * 4 + k)), .int (nI k), .int (nI i), .ref b]) rfl ?_
        refine lv_iload_n hx hb dX3_addAgainst_19 rfl (lv_at hl 2 rfl) ?_
        refine lv_iadd hx hb dX3_addAgainst_20 ?_
        refine g_cc (g_rV (As := [.int (nI i), .int (nI k), .int ((I2 (b + 9) (i * 4 + k)) + v)]) hC hP (c_X3_setPay l hP (b := b) (ch := ch) (i := i) (k := k) (v := (I2 (b + 9) (i * 4 + k)) + v) (by first | assumption | omega) (by first | assumption | omega) (by first | assumption | omega)) hpl.1 rfl ⟨q1_174, q2_208, q1_172, q1_173, q1_2⟩ dd_X3_setPay ⟨Nat.le_of_ble_eq_true rfl, Nat.le_of_ble_eq_true rfl, rfl, rfl⟩ hl.1 rfl (Nat.le_of_ble_eq_true rfl) dX3_addAgainst_21 ⟨Nat.le_of_ble_eq_true rfl, Nat.le_of_ble_eq_true rfl⟩) hS (fun q h => h.elim (hTA q) (fun z => hA q (Nat.le_trans hS.1 z))) (fun r5 H1 locs2 hq6 hS hz3 hfr4 => ?_)
        obtain ⟨rfl, hP⟩ := hq6
        obtain ⟨I7, hI7, hP⟩ : ∃ X : gI, X = au I2 (b + 9) (i * 4 + k) ((I2 (b + 9) (i * 4 + k)) + v) ∧ gP G T X J Q O H1 := ⟨_, rfl, hP⟩
        refine W.eq (g2 := F0 m 24 ls []) rfl ?_
        refine lv_iinc (v := nI (i + 1)) (lv' := [(3, .int (nI (i + 1))), (0, .ref b), (1, .int (nI k)), (2, .int v)]) hx hb dX3_addAgainst_24 hl (k := 3) rfl (nI_inc _) (by decide) rfl (fun ls hl => ?_)
        refine lv_goto (tgt := 2) hx hb dX3_addAgainst_27 (by decide) ?_
        exact ih2 (i + 1) I7 (by omega) (by omega) (by rw [hI7, h1, au_gu, gu_eq, addA_at _ hk]; exact congrArg _ (addA_s _ hk _)) _ _ hP hS ls (lv_sub hl [1, 2, 3, 0] rfl)
  exact L2 5 0 I (by omega) (by omega) (by rw [addA_0, gu_self]) _ _ hP hS ls (lv_sub hl [1, 2, 3, 0] rfl)
set_option maxHeartbeats 4000000 in
set_option maxRecDepth 100000 in
theorem c_X3_multiplyPays (l : Launch) {G : gG} {T : gTy} {I : gI} {J : gJ} {Q : gR} {O : gO} {H : Heap} (hP : gP G T I J Q O H) {b ch : Nat} {v : Int32} (hpl : isPl T O b ch) : Met l yX3_multiplyPays (gw yX3_multiplyPays cX3_multiplyPays 3 (none)) ({ frames := 0, cells := 0, slots := 0, locals := 0 } : Room) (gPc G H [.ref b, .int v]) (gQc (gF T H) (fun r H1 => r = none ∧ gP G T (gu I (b + 9) (mulA (I (b + 9)) 16 v)) J Q O H1)) 0 0 (gF T H) := by
  refine g_met [(0, .ref b), (1, .int v)] (by decide) rfl (by exact Nat.le_of_ble_eq_true rfl) ?_
  intro p e s m below meth c hC hs ls hl
  have hx := hC.1.1
  have hb := hC.1.2.1
  have hS : va_S (gF T H) s.heap H [] := hs ▸ va_S.rf
  have hTA : ∀ q, (T q).1 ≠ 0 → gF T H q := fun q h => Or.inl h
  have hA : ∀ q, s.heap.size ≤ q → gF T H q := fun q h => Or.inr (hs ▸ h)
  generalize hAe : gF T H = A at hS hTA hA ⊢
  have hpl_lo := hpl.2.2.2.2.2.2.2.2.1
  have hpl_hi := hpl.2.2.2.2.2.2.2.2.2
  refine lv_iconst (v := nI 0) hx hb dX3_multiplyPays_0 (by decide) ?_
  refine lv_istore_n (lv' := [(2, .int (nI 0)), (0, .ref b), (1, .int v)]) hx hb dX3_multiplyPays_1 rfl hl (by decide) rfl (fun ls hl => ?_)
  have L2 : ∀ (n2 : Nat) (i : Nat) (I2 : gI), 17 ≤ n2 + i → (i ≤ 16) → (I2 = gu I (b + 9) (mulA (I (b + 9)) i v)) → ∀ (H : Heap) (locs : List Loc), gP G T I2 J Q O H → va_S A s.heap H locs → ∀ ls : Array Slot, lv_has ls 3 [(0, .ref b), (1, .int v), (2, .int (nI i))] → W p l e ({ frames := 0, cells := 0, slots := 0, locals := 0 } : Room) s m [.ref b, .int v].toArray below meth c H locs 0 0 (MQ below (gQc A (fun r H1 => r = none ∧ gP G T (gu I (b + 9) (mulA (I (b + 9)) 16 v)) J Q O H1)) [.ref b, .int v].toArray s 0 0 A) (F0 m 2 ls []) := by
    intro n2
    induction n2 with
    | zero => intro i I2 hn2 hi h1; exact absurd hn2 (by omega)
    | succ n2 ih2 =>
      intro i I2 hn2 hi h1 H locs hP hS ls hl
      refine lv_iload_n hx hb dX3_multiplyPays_2 rfl (lv_at hl 2 rfl) ?_
      refine lv_aload_n hx hb dX3_multiplyPays_3 rfl (lv_at hl 0 rfl) ?_
      refine g_get hC hP hpl.1 rfl inX3 2 (by decide) q1_81 hpl.2.2.2.1 dX3_multiplyPays_4 ?_
      refine g_alenI hC hP hpl.2.2.2.2.2.2.1 dX3_multiplyPays_7 ?_
      refine lv_icmp_ge (tgt := 27) hx hb dX3_multiplyPays_8 (by decide) (fun c8 => ?_) (fun c8 => ?_)
      · have c8 := (nI_leI (by omega) (by omega)).mp c8
        refine g_retcv hC hS ?_ dX3_multiplyPays_27
        refine ⟨rfl, ?_⟩
        have e : i = 16 := by omega
        subst e
        subst h1
        exact hP
      · have c8 := mt (nI_leI (by omega) (by omega)).mpr c8
        refine lv_aload_n hx hb dX3_multiplyPays_11 rfl (lv_at hl 0 rfl) ?_
        refine g_get hC hP hpl.1 rfl inX3 2 (by decide) q1_81 hpl.2.2.2.1 dX3_multiplyPays_12 ?_
        refine lv_iload_n hx hb dX3_multiplyPays_15 rfl (lv_at hl 2 rfl) ?_
        refine lv_dup2_11 hx hb dX3_multiplyPays_16 rfl rfl ?_
        refine g_iald hC hP hpl.2.2.2.2.2.2.1 (vp_in_nI (by omega) (by decide)) dX3_multiplyPays_17 ?_
        refine g_topi (y := I2 (b + 9) i) (congrArg (I2 (b + 9)) (nI_clamp (by omega))) ?_
        refine lv_iload_n hx hb dX3_multiplyPays_18 rfl (lv_at hl 1 rfl) ?_
        refine lv_imul hx hb dX3_multiplyPays_19 ?_
        refine g_iast hC hP hS hTA hpl.2.2.2.2.2.2.1 (vp_in_nI (by omega) (by decide)) dX3_multiplyPays_20 (fun H1 locs2 hP hS hz4 => ?_)
        rw [show (nI i).toNatClampNeg = i from nI_clamp (by omega)] at hP
        obtain ⟨I3, hI3, hP⟩ : ∃ X : gI, X = au I2 (b + 9) i ((I2 (b + 9) i) * v) ∧ gP G T X J Q O H1 := ⟨_, rfl, hP⟩
        refine lv_iinc (v := nI (i + 1)) (lv' := [(2, .int (nI (i + 1))), (0, .ref b), (1, .int v)]) hx hb dX3_multiplyPays_21 hl (k := 2) rfl (nI_inc _) (by decide) rfl (fun ls hl => ?_)
        refine lv_goto (tgt := 2) hx hb dX3_multiplyPays_24 (by decide) ?_
        exact ih2 (i + 1) I3 (by omega) (by omega) (by rw [hI3, h1, au_gu, gu_eq]; exact congrArg _ (mulA_s _ _ _)) _ _ hP hS ls (lv_sub hl [1, 2, 0] rfl)
  exact L2 17 0 I (by omega) (by omega) (by rw [show mulA (I (b + 9)) 0 v = I (b + 9) from funext fun j => by simp [mulA], gu_self]) _ _ hP hS ls (lv_sub hl [1, 2, 0] rfl)
set_option maxHeartbeats 4000000 in
set_option maxRecDepth 100000 in
theorem c_X2_sumUp (l : Launch) {G : gG} {T : gTy} {I : gI} {J : gJ} {Q : gR} {O : gO} {H : Heap} (hP : gP G T I J Q O H) {x : Nat} (hmx : isMx T O x) : Met l yX2_sumUp (gw yX2_sumUp cX2_sumUp 2 (none)) ({ frames := 0, cells := 0, slots := 0, locals := 0 } : Room) (gPc G H [.ref x]) (gQc (gF T H) (fun r H1 => r = none ∧ gP G T I J Q (au (au O x 1 (.long (tsum (J (x + 1)) 4))) x 2 (.int (nI (usedB (J (x + 1)) 4)))) H1)) 0 0 (gF T H) := by
  refine g_met [(0, .ref x)] (by decide) rfl (by exact Nat.le_of_ble_eq_true rfl) ?_
  intro p e s m below meth c hC hs ls hl
  have hx := hC.1.1
  have hb := hC.1.2.1
  have hS : va_S (gF T H) s.heap H [] := hs ▸ va_S.rf
  have hTA : ∀ q, (T q).1 ≠ 0 → gF T H q := fun q h => Or.inl h
  have hA : ∀ q, s.heap.size ≤ q → gF T H q := fun q h => Or.inr (hs ▸ h)
  generalize hAe : gF T H = A at hS hTA hA ⊢
  refine lv_aload_n hx hb dX2_sumUp_0 rfl (lv_at hl 0 rfl) ?_
  refine lv_lconst (v := 0) hx hb dX2_sumUp_1 (by decide) ?_
  refine g_put hC hP hS hTA hmx.1 rfl inX2 tyX2 tyX2_ok nmX2 1 (by decide) q1_40 rfl (ty := tyX2 1) (by decide) rfl rfl dX2_sumUp_2 (fun H1 locs2 hP hS hz4 => ?_)
  obtain ⟨O3, hO3, hP⟩ : ∃ X : gO, X = au O x 1 (.long (0 : Int64)) ∧ gP G T I J Q X H1 := ⟨_, rfl, hP⟩
  refine lv_aload_n hx hb dX2_sumUp_5 rfl (lv_at hl 0 rfl) ?_
  refine lv_iconst (v := nI 0) hx hb dX2_sumUp_6 (by decide) ?_
  refine g_put hC hP hS hTA hmx.1 rfl inX2 tyX2 tyX2_ok nmX2 2 (by decide) q1_43 rfl (ty := tyX2 2) (by decide) rfl rfl dX2_sumUp_7 (fun H5 locs6 hP hS hz8 => ?_)
  obtain ⟨O7, hO7, hP⟩ : ∃ X : gO, X = au O3 x 2 (.int (nI 0)) ∧ gP G T I J Q X H5 := ⟨_, rfl, hP⟩
  refine lv_iconst (v := nI 0) hx hb dX2_sumUp_10 (by decide) ?_
  refine lv_istore_n (lv' := [(1, .int (nI 0)), (0, .ref x)]) hx hb dX2_sumUp_11 rfl hl (by decide) rfl (fun ls hl => ?_)
  have L12 : ∀ (n12 : Nat) (i : Nat) (O2 : gO), 5 ≤ n12 + i → (i ≤ 4) → (O2 = au (au O x 1 (.long (tsum (J (x + 1)) i))) x 2 (.int (nI (usedB (J (x + 1)) i)))) → ∀ (H : Heap) (locs : List Loc), gP G T I J Q O2 H → va_S A s.heap H locs → ∀ ls : Array Slot, lv_has ls 2 [(0, .ref x), (1, .int (nI i))] → W p l e ({ frames := 0, cells := 0, slots := 0, locals := 0 } : Room) s m [.ref x].toArray below meth c H locs 0 0 (MQ below (gQc A (fun r H1 => r = none ∧ gP G T I J Q (au (au O x 1 (.long (tsum (J (x + 1)) 4))) x 2 (.int (nI (usedB (J (x + 1)) 4)))) H1)) [.ref x].toArray s 0 0 A) (F0 m 12 ls []) := by
    intro n12
    induction n12 with
    | zero => intro i O2 hn12 hi h1; exact absurd hn12 (by omega)
    | succ n12 ih12 =>
      intro i O2 hn12 hi h1 H locs hP hS ls hl
      have f0 : O2 x 0 = .ref (x + 1) := by rw [h1, au_row, gu_ne _ _ (by decide), au_row, gu_ne _ _ (by decide)]; exact hmx.2.1
      have f1 : O2 x 1 = .long (tsum (J (x + 1)) i) := by rw [h1, au_row, gu_ne _ _ (by decide), au_row, gu_eq]
      have f2 : O2 x 2 = .int (nI (usedB (J (x + 1)) i)) := by rw [h1, au_row, gu_eq]
      have hu : usedB (J (x + 1)) i < 16 := msk_lt16 _ hi
      refine lv_iload_n hx hb dX2_sumUp_12 rfl (lv_at hl 1 rfl) ?_
      refine lv_iconst (v := nI 4) hx hb dX2_sumUp_13 (by decide) ?_
      refine lv_icmp_ge (tgt := 61) hx hb dX2_sumUp_14 (by decide) (fun c14 => ?_) (fun c14 => ?_)
      · have c14 := (nI_leI (by omega) (by omega)).mp c14
        refine g_retcv hC hS ?_ dX2_sumUp_61
        refine ⟨rfl, ?_⟩
        have e : i = 4 := by omega
        subst e
        subst h1
        exact hP
      · have c14 := mt (nI_leI (by omega) (by omega)).mpr c14
        have hp2 := pow_lt16 (k := i) (by omega)
        refine lv_aload_n hx hb dX2_sumUp_17 rfl (lv_at hl 0 rfl) ?_
        refine lv_dup hx hb dX2_sumUp_18 rfl ?_
        refine g_get hC hP hmx.1 rfl inX2 1 (by decide) q1_40 f1 dX2_sumUp_19 ?_
        refine lv_aload_n hx hb dX2_sumUp_22 rfl (lv_at hl 0 rfl) ?_
        refine g_get hC hP hmx.1 rfl inX2 0 (by decide) q1_36 f0 dX2_sumUp_23 ?_
        refine lv_iload_n hx hb dX2_sumUp_26 rfl (lv_at hl 1 rfl) ?_
        refine g_lald hC hP hmx.2.2 (vp_in_nI (by omega) (by decide)) dX2_sumUp_27 ?_
        refine g_topl (y := J (x + 1) i) (congrArg (J (x + 1)) (nI_clamp (by omega))) ?_
        refine lv_ladd hx hb dX2_sumUp_28 ?_
        refine g_put hC hP hS hTA hmx.1 rfl inX2 tyX2 tyX2_ok nmX2 1 (by decide) q1_40 rfl (ty := tyX2 1) (by decide) rfl rfl dX2_sumUp_29 (fun H9 locs10 hP hS hz12 => ?_)
        obtain ⟨O11, hO11, hP⟩ : ∃ X : gO, X = au O2 x 1 (.long ((tsum (J (x + 1)) i) + (J (x + 1) i))) ∧ gP G T I J Q X H9 := ⟨_, rfl, hP⟩
        refine lv_aload_n hx hb dX2_sumUp_32 rfl (lv_at hl 0 rfl) ?_
        have ho13 : O11 x 0 = .ref (x + 1) := by rw [hO11, au_row, gu_ne _ _ (by decide)]; exact f0
        refine g_get hC hP hmx.1 rfl inX2 0 (by decide) q1_36 ho13 dX2_sumUp_33 ?_
        refine lv_iload_n hx hb dX2_sumUp_36 rfl (lv_at hl 1 rfl) ?_
        refine g_lald hC hP hmx.2.2 (vp_in_nI (by omega) (by decide)) dX2_sumUp_37 ?_
        refine g_topl (y := J (x + 1) i) (congrArg (J (x + 1)) (nI_clamp (by omega))) ?_
        refine lv_lconst (v := 0) hx hb dX2_sumUp_38 (by decide) ?_
        refine W.lcmp hx hb dX2_sumUp_39 ?_
        refine lv_if_le (tgt := 55) hx hb dX2_sumUp_40 (by decide) (fun c40 => ?_) (fun c40 => ?_)
        · have c40 := (lg_cmp_le _ _).mp c40
          have d40 := Int64.not_lt.mpr c40
          refine lv_iinc (v := nI (i + 1)) (lv' := [(1, .int (nI (i + 1))), (0, .ref x)]) hx hb dX2_sumUp_55 hl (k := 1) rfl (nI_inc _) (by decide) rfl (fun ls hl => ?_)
          refine lv_goto (tgt := 12) hx hb dX2_sumUp_58 (by decide) ?_
          exact ih12 (i + 1) O11 (by omega) (by omega) (by simp only [hO11, *, usedB, msk, tsum]; simp only [au, gu_eq, gu_gu]; congr 1; funext j; simp only [gu]; (repeat split) <;> simp_all [d40]) _ _ hP hS ls (lv_sub hl [1, 0] rfl)
        · have c40 := mt (lg_cmp_le _ _).mpr c40
          have d40 := Int64.not_le.mp c40
          refine lv_aload_n hx hb dX2_sumUp_43 rfl (lv_at hl 0 rfl) ?_
          refine lv_dup hx hb dX2_sumUp_44 rfl ?_
          have ho14 : O11 x 2 = .int (nI (usedB (J (x + 1)) i)) := by rw [hO11, au_row, gu_ne _ _ (by decide)]; exact f2
          refine g_get hC hP hmx.1 rfl inX2 2 (by decide) q1_43 ho14 dX2_sumUp_45 ?_
          refine lv_iconst (v := nI 1) hx hb dX2_sumUp_48 (by decide) ?_
          refine lv_iload_n hx hb dX2_sumUp_49 rfl (lv_at hl 1 rfl) ?_
          refine lv_ishl hx hb dX2_sumUp_50 ?_
          refine g_topi (y := nI (2 ^ i)) (g_shl (by omega)) ?_
          refine lv_ior hx hb dX2_sumUp_51 ?_
          refine g_topi (y := nI ((usedB (J (x + 1)) i) ||| (2 ^ i))) (g_or (by omega) (by omega)) ?_
          refine g_put hC hP hS hTA hmx.1 rfl inX2 tyX2 tyX2_ok nmX2 2 (by decide) q1_43 rfl (ty := tyX2 2) (by decide) rfl rfl dX2_sumUp_52 (fun H15 locs16 hP hS hz18 => ?_)
          obtain ⟨O17, hO17, hP⟩ : ∃ X : gO, X = au O11 x 2 (.int (nI ((usedB (J (x + 1)) i) ||| (2 ^ i)))) ∧ gP G T I J Q X H15 := ⟨_, rfl, hP⟩
          refine lv_iinc (v := nI (i + 1)) (lv' := [(1, .int (nI (i + 1))), (0, .ref x)]) hx hb dX2_sumUp_55 hl (k := 1) rfl (nI_inc _) (by decide) rfl (fun ls hl => ?_)
          refine lv_goto (tgt := 12) hx hb dX2_sumUp_58 (by decide) ?_
          exact ih12 (i + 1) O17 (by omega) (by omega) (by simp only [hO17, *, usedB, msk, tsum]; simp only [au, gu_eq, gu_gu]; congr 1; funext j; simp only [gu]; (repeat split) <;> simp_all [d40]) _ _ hP hS ls (lv_sub hl [1, 0] rfl)
  exact L12 5 0 O7 (by omega) (by omega) (by simp only [*]; rfl) _ _ hP hS ls (lv_sub hl [1, 0] rfl)
end
section
/-! ===== corners in the memory ===== -/
theorem ne_of_T {T : gTy} {a b : Nat} {x y : Nat × Nat} (ha : T a = x) (hb : T b = y) (h : x ≠ y) : a ≠ b := fun e => h (by rw [← ha, ← hb, e])
/-- the rows of gaps of a Corners object at k -/
def coG (T : gTy) (Q : gR) (O : gO) (k : Nat) : Prop := T k = (1, 0) ∧ O k 1 = .ref (k + 1) ∧ O k 3 = .ref (k + 4) ∧ T (k + 1) = (4, 69) ∧ T (k + 4) = (5, 3) ∧ T (k + 5) = (3, 4) ∧ T (k + 6) = (3, 4) ∧ T (k + 7) = (3, 4) ∧ Q (k + 4) 0 = some (k + 5) ∧ Q (k + 4) 1 = some (k + 6) ∧ Q (k + 4) 2 = some (k + 7)
theorem coG_q {T : gTy} {Q : gR} {O : gO} {k j : Nat} (h : coG T Q O k) (hj : j < 3) : va_rf (Q (k + 4) j) = .ref (k + 5 + j) := by
  rcases (show j = 0 ∨ j = 1 ∨ j = 2 by omega) with rfl | rfl | rfl
  · rw [h.2.2.2.2.2.2.2.2.1]; rfl
  · rw [h.2.2.2.2.2.2.2.2.2.1]; rfl
  · rw [h.2.2.2.2.2.2.2.2.2.2]; rfl
theorem coG_t {T : gTy} {Q : gR} {O : gO} {k j : Nat} (h : coG T Q O k) (hj : j < 3) : T (k + 5 + j) = (3, 4) := by
  rcases (show j = 0 ∨ j = 1 ∨ j = 2 by omega) with rfl | rfl | rfl
  · exact h.2.2.2.2.2.1
  · exact h.2.2.2.2.2.2.1
  · exact h.2.2.2.2.2.2.2.1
/-- two lines' determinant -/
def det2 (M : Nat → Nat → Int64) (x y a b : Nat) : Int64 := M x a * M y b - M x b * M y a
def detA (place : Nat) : Nat := if 0 < place then 0 else 1
def detB (place : Nat) : Nat := if 1 < place then 1 else 2
def detC (place : Nat) : Nat := if 2 < place then 2 else 3
/-- the determinant of the lines without one place -/
def detS (M : Nat → Nat → Int64) (place lines : Nat) : Int64 := match lines with
  | 0 => 1
  | 1 => M 0 (detA place)
  | 2 => det2 M 0 1 (detA place) (detB place)
  | _ => M 0 (detA place) * det2 M 1 2 (detB place) (detC place) - M 0 (detB place) * det2 M 1 2 (detA place) (detC place) + M 0 (detC place) * det2 M 1 2 (detA place) (detB place)
/-- the first of 0 .. n - 1 with p -/
def fstN (p : Nat → Bool) (n : Nat) : Option Nat := (List.range n).find? p
theorem fstN_some {p : Nat → Bool} {i n : Nat} (hn : i < n) (h : p i = true) (hb : ∀ k, k < i → p k = false) : fstN p n = some i := by
  unfold fstN
  rw [List.find?_range_eq_some]
  exact ⟨h, List.mem_range.mpr hn, fun j hj => by simp [hb j hj]⟩
theorem fstN_none {p : Nat → Bool} {n : Nat} (hb : ∀ k, k < n → p k = false) : fstN p n = none := by
  unfold fstN
  rw [List.find?_eq_none]
  intro x hx
  rw [hb x (List.mem_range.mp hx)]
  decide
theorem fstN_lt {p : Nat → Bool} {n i : Nat} (h : fstN p n = some i) : i < n ∧ p i = true := ⟨List.mem_range.mp (List.mem_of_find?_eq_some h), List.find?_some h⟩
set_option maxHeartbeats 4000000 in
set_option maxRecDepth 100000 in
theorem c_X0_twoLines (l : Launch) {G : gG} {T : gTy} {I : gI} {J : gJ} {Q : gR} {O : gO} {H : Heap} (hP : gP G T I J Q O H) {k x y a d : Nat} (hco : coG T Q O k) (hx3 : x < 3) (hy3 : y < 3) (ha4 : a < 4) (hd4 : d < 4) : Met l yX0_twoLines (gw yX0_twoLines cX0_twoLines 5 (some (.long))) ({ frames := 0, cells := 0, slots := 0, locals := 0 } : Room) (gPc G H [.ref k, .int (nI x), .int (nI y), .int (nI a), .int (nI d)]) (gQp (some (.long (det2 (fun q => J (k + 5 + q)) x y a d)))) 0 0 (fun _ => False) := by
  refine g_met [(0, .ref k), (1, .int (nI x)), (2, .int (nI y)), (3, .int (nI a)), (4, .int (nI d))] (by decide) rfl (by exact Nat.le_of_ble_eq_true rfl) ?_
  intro p e s m below meth c hC hs ls hl
  have hx := hC.1.1
  have hb := hC.1.2.1
  have hgx := coG_t hco hx3
  have hgy := coG_t hco hy3
  refine lv_aload_n hx hb dX0_twoLines_0 rfl (lv_at hl 0 rfl) ?_
  refine g_get hC hP hco.1 rfl inX0 3 (by decide) q1_65 hco.2.2.1 dX0_twoLines_1 ?_
  refine lv_iload_n hx hb dX0_twoLines_4 rfl (lv_at hl 1 rfl) ?_
  refine g_aaldG hC hP hco.2.2.2.2.1 (vp_in_nI (by omega) (by decide)) (v := .ref (k + 5 + x)) (by rw [nI_clamp (by omega)]; exact coG_q hco (by omega)) dX0_twoLines_5 ?_
  refine lv_iload_n hx hb dX0_twoLines_6 rfl (lv_at hl 3 rfl) ?_
  refine g_lald hC hP hgx (vp_in_nI (by omega) (by decide)) dX0_twoLines_7 ?_
  refine g_topl (y := J (k + 5 + x) a) (congrArg (J (k + 5 + x)) (nI_clamp (by omega))) ?_
  refine lv_aload_n hx hb dX0_twoLines_8 rfl (lv_at hl 0 rfl) ?_
  refine g_get hC hP hco.1 rfl inX0 3 (by decide) q1_65 hco.2.2.1 dX0_twoLines_9 ?_
  refine lv_iload_n hx hb dX0_twoLines_12 rfl (lv_at hl 2 rfl) ?_
  refine g_aaldG hC hP hco.2.2.2.2.1 (vp_in_nI (by omega) (by decide)) (v := .ref (k + 5 + y)) (by rw [nI_clamp (by omega)]; exact coG_q hco (by omega)) dX0_twoLines_13 ?_
  refine lv_iload hx hb dX0_twoLines_14 (lv_at hl 4 rfl) ?_
  refine g_lald hC hP hgy (vp_in_nI (by omega) (by decide)) dX0_twoLines_16 ?_
  refine g_topl (y := J (k + 5 + y) d) (congrArg (J (k + 5 + y)) (nI_clamp (by omega))) ?_
  refine lv_lmul hx hb dX0_twoLines_17 ?_
  refine lv_aload_n hx hb dX0_twoLines_18 rfl (lv_at hl 0 rfl) ?_
  refine g_get hC hP hco.1 rfl inX0 3 (by decide) q1_65 hco.2.2.1 dX0_twoLines_19 ?_
  refine lv_iload_n hx hb dX0_twoLines_22 rfl (lv_at hl 1 rfl) ?_
  refine g_aaldG hC hP hco.2.2.2.2.1 (vp_in_nI (by omega) (by decide)) (v := .ref (k + 5 + x)) (by rw [nI_clamp (by omega)]; exact coG_q hco (by omega)) dX0_twoLines_23 ?_
  refine lv_iload hx hb dX0_twoLines_24 (lv_at hl 4 rfl) ?_
  refine g_lald hC hP hgx (vp_in_nI (by omega) (by decide)) dX0_twoLines_26 ?_
  refine g_topl (y := J (k + 5 + x) d) (congrArg (J (k + 5 + x)) (nI_clamp (by omega))) ?_
  refine lv_aload_n hx hb dX0_twoLines_27 rfl (lv_at hl 0 rfl) ?_
  refine g_get hC hP hco.1 rfl inX0 3 (by decide) q1_65 hco.2.2.1 dX0_twoLines_28 ?_
  refine lv_iload_n hx hb dX0_twoLines_31 rfl (lv_at hl 2 rfl) ?_
  refine g_aaldG hC hP hco.2.2.2.2.1 (vp_in_nI (by omega) (by decide)) (v := .ref (k + 5 + y)) (by rw [nI_clamp (by omega)]; exact coG_q hco (by omega)) dX0_twoLines_32 ?_
  refine lv_iload_n hx hb dX0_twoLines_33 rfl (lv_at hl 3 rfl) ?_
  refine g_lald hC hP hgy (vp_in_nI (by omega) (by decide)) dX0_twoLines_34 ?_
  refine g_topl (y := J (k + 5 + y) a) (congrArg (J (k + 5 + y)) (nI_clamp (by omega))) ?_
  refine lv_lmul hx hb dX0_twoLines_35 ?_
  refine lv_lsub hx hb dX0_twoLines_36 ?_
  exact g_retl hC hs rfl dX0_twoLines_37
set_option maxHeartbeats 4000000 in
set_option maxRecDepth 100000 in
theorem c_X0_gapsWithout (l : Launch) {G : gG} {T : gTy} {I : gI} {J : gJ} {Q : gR} {O : gO} {H : Heap} (hP : gP G T I J Q O H) {k pl ln : Nat} (hco : coG T Q O k) (hp : pl < 4) (hl4 : ln < 4) : Met l yX0_gapsWithout (gw yX0_gapsWithout cX0_gapsWithout 6 (some (.long))) ({ frames := 1, cells := 0, slots := 0, locals := 24 } : Room) (gPc G H [.ref k, .int (nI pl), .int (nI ln)]) (gQp (some (.long (detS (fun q => J (k + 5 + q)) pl ln)))) 0 0 (fun _ => False) := by
  refine g_met [(0, .ref k), (1, .int (nI pl)), (2, .int (nI ln))] (by decide) rfl (by exact Nat.le_of_ble_eq_true rfl) ?_
  intro p e s m below meth c hC hs ls hl
  have hx := hC.1.1
  have hb := hC.1.2.1
  have hg0 : T (k + 5) = (3, 4) := hco.2.2.2.2.2.1
  have e0 : va_rf (Q (k + 4) 0) = .ref (k + 5) := coG_q hco (j := 0) (by omega)
  refine lv_iload_n hx hb dX0_gapsWithout_0 rfl (lv_at hl 1 rfl) ?_
  refine lv_if_le (tgt := 8) hx hb dX0_gapsWithout_1 (by decide) (fun c1 => ?_) (fun c1 => ?_)
  · have c1 := (nI_le0 (by omega)).mp c1
    have ea : detA pl = 1 := if_neg (by omega)
    refine lv_iconst (v := nI 1) hx hb dX0_gapsWithout_8 (by decide) ?_
    refine lv_istore_n (lv' := [(3, .int (nI 1)), (0, .ref k), (1, .int (nI pl)), (2, .int (nI ln))]) hx hb dX0_gapsWithout_9 rfl hl (by decide) rfl (fun ls hl => ?_)
    refine lv_iload_n hx hb dX0_gapsWithout_10 rfl (lv_at hl 2 rfl) ?_
    refine lv_iconst (v := nI 1) hx hb dX0_gapsWithout_11 (by decide) ?_
    refine lv_icmp_le (tgt := 19) hx hb dX0_gapsWithout_12 (by decide) (fun c12 => ?_) (fun c12 => ?_)
    · have c12 := (nI_leI (by omega) (by omega)).mp c12
      have eb : detB pl = 2 := if_neg (by omega)
      refine lv_iconst (v := nI 2) hx hb dX0_gapsWithout_19 (by decide) ?_
      refine lv_istore (lv' := [(4, .int (nI 2)), (3, .int (nI 1)), (0, .ref k), (1, .int (nI pl)), (2, .int (nI ln))]) hx hb dX0_gapsWithout_20 hl (by decide) rfl (fun ls hl => ?_)
      refine lv_iload_n hx hb dX0_gapsWithout_22 rfl (lv_at hl 3 rfl) ?_
      refine lv_iconst (v := nI 2) hx hb dX0_gapsWithout_23 (by decide) ?_
      refine lv_icmp_le (tgt := 31) hx hb dX0_gapsWithout_24 (by decide) (fun c24 => ?_) (fun c24 => ?_)
      · have c24 := (nI_leI (by omega) (by omega)).mp c24
        have ec : detC pl = 3 := if_neg (by omega)
        refine lv_iconst (v := nI 3) hx hb dX0_gapsWithout_31 (by decide) ?_
        refine lv_istore (lv' := [(5, .int (nI 3)), (4, .int (nI 2)), (3, .int (nI 1)), (0, .ref k), (1, .int (nI pl)), (2, .int (nI ln))]) hx hb dX0_gapsWithout_32 hl (by decide) rfl (fun ls hl => ?_)
        refine lv_iload_n hx hb dX0_gapsWithout_34 rfl (lv_at hl 5 rfl) ?_
        rcases (show ln = 0 ∨ ln = 1 ∨ ln = 2 ∨ 2 < ln by omega) with hsw | hsw | hsw | hsw
        · refine lv_tableIn (tgt := 60) (off := 25) hx hb dX0_gapsWithout_35 (by rw [hsw]; decide) (by rw [hsw]; decide) (by rw [hsw]; decide) (by decide) ?_
          refine lv_lconst (v := 1) hx hb dX0_gapsWithout_60 (by decide) ?_
          refine g_retl hC hs ?_ dX0_gapsWithout_61
          first | subst hsw | obtain rfl : ln = 3 := by omega
          simp only [detS, ea, eb, ec]
          try rfl
        · refine lv_tableIn (tgt := 62) (off := 27) hx hb dX0_gapsWithout_35 (by rw [hsw]; decide) (by rw [hsw]; decide) (by rw [hsw]; decide) (by decide) ?_
          refine lv_aload_n hx hb dX0_gapsWithout_62 rfl (lv_at hl 3 rfl) ?_
          refine g_get hC hP hco.1 rfl inX0 3 (by decide) q1_65 hco.2.2.1 dX0_gapsWithout_63 ?_
          refine lv_iconst (v := nI 0) hx hb dX0_gapsWithout_66 (by decide) ?_
          refine g_aaldG hC hP hco.2.2.2.2.1 (vp_in_nI (by omega) (by decide)) (v := .ref (k + 5)) (by first | exact e0 | exact coG_q hco (j := 0) (by omega)) dX0_gapsWithout_67 ?_
          refine lv_iload_n hx hb dX0_gapsWithout_68 rfl (lv_at hl 2 rfl) ?_
          refine g_lald hC hP hg0 (vp_in_nI (by omega) (by decide)) dX0_gapsWithout_69 ?_
          refine g_topl (y := J (k + 5) 1) rfl ?_
          refine g_retl hC hs ?_ dX0_gapsWithout_70
          first | subst hsw | obtain rfl : ln = 3 := by omega
          simp only [detS, ea, eb, ec]
          try rfl
        · refine lv_tableIn (tgt := 71) (off := 36) hx hb dX0_gapsWithout_35 (by rw [hsw]; decide) (by rw [hsw]; decide) (by rw [hsw]; decide) (by decide) ?_
          refine lv_aload_n hx hb dX0_gapsWithout_71 rfl (lv_at hl 3 rfl) ?_
          refine lv_iconst (v := nI 0) hx hb dX0_gapsWithout_72 (by decide) ?_
          refine lv_iconst (v := nI 1) hx hb dX0_gapsWithout_73 (by decide) ?_
          refine lv_iload_n hx hb dX0_gapsWithout_74 rfl (lv_at hl 2 rfl) ?_
          refine lv_iload hx hb dX0_gapsWithout_75 (lv_at hl 1 rfl) ?_
          refine g_cp (g_rV (As := [.int (nI 0), .int (nI 1), .int (nI 1), .int (nI 2)]) hC hP (c_X0_twoLines l hP (k := k) (x := 0) (y := 1) (a := 1) (d := 2) (by first | assumption | omega) (by first | assumption | omega) (by first | assumption | omega) (by first | assumption | omega) (by first | assumption | omega)) hco.1 rfl ⟨q2_122, q2_119, q2_121, qs_15, q1_3⟩ dd_X0_twoLines ⟨Nat.le_of_ble_eq_true rfl, Nat.le_of_ble_eq_true rfl, rfl, rfl⟩ hl.1 rfl (Nat.le_of_ble_eq_true rfl) dX0_gapsWithout_77 ⟨Nat.le_of_ble_eq_true rfl, Nat.le_of_ble_eq_true rfl⟩) ?_
          refine W.eq (g2 := F0 m 80 ls [.long (det2 (fun q => J (k + 5 + q)) 0 1 1 2)]) rfl ?_
          refine g_retl hC hs ?_ dX0_gapsWithout_80
          first | subst hsw | obtain rfl : ln = 3 := by omega
          simp only [detS, ea, eb, ec]
          try rfl
        · refine lv_tableOut (tgt := 81) hx hb dX0_gapsWithout_35 (Or.inr (by rw [nI_toInt (by omega)]; omega)) (by decide) ?_
          refine lv_aload_n hx hb dX0_gapsWithout_81 rfl (lv_at hl 3 rfl) ?_
          refine g_get hC hP hco.1 rfl inX0 3 (by decide) q1_65 hco.2.2.1 dX0_gapsWithout_82 ?_
          refine lv_iconst (v := nI 0) hx hb dX0_gapsWithout_85 (by decide) ?_
          refine g_aaldG hC hP hco.2.2.2.2.1 (vp_in_nI (by omega) (by decide)) (v := .ref (k + 5)) (by first | exact e0 | exact coG_q hco (j := 0) (by omega)) dX0_gapsWithout_86 ?_
          refine lv_iload_n hx hb dX0_gapsWithout_87 rfl (lv_at hl 2 rfl) ?_
          refine g_lald hC hP hg0 (vp_in_nI (by omega) (by decide)) dX0_gapsWithout_88 ?_
          refine g_topl (y := J (k + 5) 1) rfl ?_
          refine lv_aload_n hx hb dX0_gapsWithout_89 rfl (lv_at hl 3 rfl) ?_
          refine lv_iconst (v := nI 1) hx hb dX0_gapsWithout_90 (by decide) ?_
          refine lv_iconst (v := nI 2) hx hb dX0_gapsWithout_91 (by decide) ?_
          refine lv_iload hx hb dX0_gapsWithout_92 (lv_at hl 1 rfl) ?_
          refine lv_iload hx hb dX0_gapsWithout_94 (lv_at hl 0 rfl) ?_
          refine g_cp (g_rV (As := [.int (nI 1), .int (nI 2), .int (nI 2), .int (nI 3)]) hC hP (c_X0_twoLines l hP (k := k) (x := 1) (y := 2) (a := 2) (d := 3) (by first | assumption | omega) (by first | assumption | omega) (by first | assumption | omega) (by first | assumption | omega) (by first | assumption | omega)) hco.1 rfl ⟨q2_122, q2_119, q2_121, qs_15, q1_3⟩ dd_X0_twoLines ⟨Nat.le_of_ble_eq_true rfl, Nat.le_of_ble_eq_true rfl, rfl, rfl⟩ hl.1 rfl (Nat.le_of_ble_eq_true rfl) dX0_gapsWithout_96 ⟨Nat.le_of_ble_eq_true rfl, Nat.le_of_ble_eq_true rfl⟩) ?_
          refine W.eq (g2 := F0 m 99 ls [.long (det2 (fun q => J (k + 5 + q)) 1 2 2 3), .long (J (k + 5) 1)]) rfl ?_
          refine lv_lmul hx hb dX0_gapsWithout_99 ?_
          refine lv_aload_n hx hb dX0_gapsWithout_100 rfl (lv_at hl 3 rfl) ?_
          refine g_get hC hP hco.1 rfl inX0 3 (by decide) q1_65 hco.2.2.1 dX0_gapsWithout_101 ?_
          refine lv_iconst (v := nI 0) hx hb dX0_gapsWithout_104 (by decide) ?_
          refine g_aaldG hC hP hco.2.2.2.2.1 (vp_in_nI (by omega) (by decide)) (v := .ref (k + 5)) (by first | exact e0 | exact coG_q hco (j := 0) (by omega)) dX0_gapsWithout_105 ?_
          refine lv_iload hx hb dX0_gapsWithout_106 (lv_at hl 1 rfl) ?_
          refine g_lald hC hP hg0 (vp_in_nI (by omega) (by decide)) dX0_gapsWithout_108 ?_
          refine g_topl (y := J (k + 5) 2) rfl ?_
          refine lv_aload_n hx hb dX0_gapsWithout_109 rfl (lv_at hl 3 rfl) ?_
          refine lv_iconst (v := nI 1) hx hb dX0_gapsWithout_110 (by decide) ?_
          refine lv_iconst (v := nI 2) hx hb dX0_gapsWithout_111 (by decide) ?_
          refine lv_iload_n hx hb dX0_gapsWithout_112 rfl (lv_at hl 2 rfl) ?_
          refine lv_iload hx hb dX0_gapsWithout_113 (lv_at hl 0 rfl) ?_
          refine g_cp (g_rV (As := [.int (nI 1), .int (nI 2), .int (nI 1), .int (nI 3)]) hC hP (c_X0_twoLines l hP (k := k) (x := 1) (y := 2) (a := 1) (d := 3) (by first | assumption | omega) (by first | assumption | omega) (by first | assumption | omega) (by first | assumption | omega) (by first | assumption | omega)) hco.1 rfl ⟨q2_122, q2_119, q2_121, qs_15, q1_3⟩ dd_X0_twoLines ⟨Nat.le_of_ble_eq_true rfl, Nat.le_of_ble_eq_true rfl, rfl, rfl⟩ hl.1 rfl (Nat.le_of_ble_eq_true rfl) dX0_gapsWithout_115 ⟨Nat.le_of_ble_eq_true rfl, Nat.le_of_ble_eq_true rfl⟩) ?_
          refine W.eq (g2 := F0 m 118 ls [.long (det2 (fun q => J (k + 5 + q)) 1 2 1 3), .long (J (k + 5) 2), .long ((J (k + 5) 1) * (det2 (fun q => J (k + 5 + q)) 1 2 2 3))]) rfl ?_
          refine lv_lmul hx hb dX0_gapsWithout_118 ?_
          refine lv_lsub hx hb dX0_gapsWithout_119 ?_
          refine lv_aload_n hx hb dX0_gapsWithout_120 rfl (lv_at hl 3 rfl) ?_
          refine g_get hC hP hco.1 rfl inX0 3 (by decide) q1_65 hco.2.2.1 dX0_gapsWithout_121 ?_
          refine lv_iconst (v := nI 0) hx hb dX0_gapsWithout_124 (by decide) ?_
          refine g_aaldG hC hP hco.2.2.2.2.1 (vp_in_nI (by omega) (by decide)) (v := .ref (k + 5)) (by first | exact e0 | exact coG_q hco (j := 0) (by omega)) dX0_gapsWithout_125 ?_
          refine lv_iload hx hb dX0_gapsWithout_126 (lv_at hl 0 rfl) ?_
          refine g_lald hC hP hg0 (vp_in_nI (by omega) (by decide)) dX0_gapsWithout_128 ?_
          refine g_topl (y := J (k + 5) 3) rfl ?_
          refine lv_aload_n hx hb dX0_gapsWithout_129 rfl (lv_at hl 3 rfl) ?_
          refine lv_iconst (v := nI 1) hx hb dX0_gapsWithout_130 (by decide) ?_
          refine lv_iconst (v := nI 2) hx hb dX0_gapsWithout_131 (by decide) ?_
          refine lv_iload_n hx hb dX0_gapsWithout_132 rfl (lv_at hl 2 rfl) ?_
          refine lv_iload hx hb dX0_gapsWithout_133 (lv_at hl 1 rfl) ?_
          refine g_cp (g_rV (As := [.int (nI 1), .int (nI 2), .int (nI 1), .int (nI 2)]) hC hP (c_X0_twoLines l hP (k := k) (x := 1) (y := 2) (a := 1) (d := 2) (by first | assumption | omega) (by first | assumption | omega) (by first | assumption | omega) (by first | assumption | omega) (by first | assumption | omega)) hco.1 rfl ⟨q2_122, q2_119, q2_121, qs_15, q1_3⟩ dd_X0_twoLines ⟨Nat.le_of_ble_eq_true rfl, Nat.le_of_ble_eq_true rfl, rfl, rfl⟩ hl.1 rfl (Nat.le_of_ble_eq_true rfl) dX0_gapsWithout_135 ⟨Nat.le_of_ble_eq_true rfl, Nat.le_of_ble_eq_true rfl⟩) ?_
          refine W.eq (g2 := F0 m 138 ls [.long (det2 (fun q => J (k + 5 + q)) 1 2 1 2), .long (J (k + 5) 3), .long (((J (k + 5) 1) * (det2 (fun q => J (k + 5 + q)) 1 2 2 3)) - ((J (k + 5) 2) * (det2 (fun q => J (k + 5 + q)) 1 2 1 3)))]) rfl ?_
          refine lv_lmul hx hb dX0_gapsWithout_138 ?_
          refine lv_ladd hx hb dX0_gapsWithout_139 ?_
          refine g_retl hC hs ?_ dX0_gapsWithout_140
          first | subst hsw | obtain rfl : ln = 3 := by omega
          simp only [detS, ea, eb, ec]
          try rfl
      · have c24 := mt (nI_leI (by omega) (by omega)).mpr c24
        have ec : detC pl = 2 := if_pos (by omega)
        refine lv_iconst (v := nI 2) hx hb dX0_gapsWithout_27 (by decide) ?_
        refine lv_goto (tgt := 32) hx hb dX0_gapsWithout_28 (by decide) ?_
        refine lv_istore (lv' := [(5, .int (nI 2)), (4, .int (nI 2)), (3, .int (nI 1)), (0, .ref k), (1, .int (nI pl)), (2, .int (nI ln))]) hx hb dX0_gapsWithout_32 hl (by decide) rfl (fun ls hl => ?_)
        refine lv_iload_n hx hb dX0_gapsWithout_34 rfl (lv_at hl 5 rfl) ?_
        rcases (show ln = 0 ∨ ln = 1 ∨ ln = 2 ∨ 2 < ln by omega) with hsw | hsw | hsw | hsw
        · refine lv_tableIn (tgt := 60) (off := 25) hx hb dX0_gapsWithout_35 (by rw [hsw]; decide) (by rw [hsw]; decide) (by rw [hsw]; decide) (by decide) ?_
          refine lv_lconst (v := 1) hx hb dX0_gapsWithout_60 (by decide) ?_
          refine g_retl hC hs ?_ dX0_gapsWithout_61
          first | subst hsw | obtain rfl : ln = 3 := by omega
          simp only [detS, ea, eb, ec]
          try rfl
        · refine lv_tableIn (tgt := 62) (off := 27) hx hb dX0_gapsWithout_35 (by rw [hsw]; decide) (by rw [hsw]; decide) (by rw [hsw]; decide) (by decide) ?_
          refine lv_aload_n hx hb dX0_gapsWithout_62 rfl (lv_at hl 3 rfl) ?_
          refine g_get hC hP hco.1 rfl inX0 3 (by decide) q1_65 hco.2.2.1 dX0_gapsWithout_63 ?_
          refine lv_iconst (v := nI 0) hx hb dX0_gapsWithout_66 (by decide) ?_
          refine g_aaldG hC hP hco.2.2.2.2.1 (vp_in_nI (by omega) (by decide)) (v := .ref (k + 5)) (by first | exact e0 | exact coG_q hco (j := 0) (by omega)) dX0_gapsWithout_67 ?_
          refine lv_iload_n hx hb dX0_gapsWithout_68 rfl (lv_at hl 2 rfl) ?_
          refine g_lald hC hP hg0 (vp_in_nI (by omega) (by decide)) dX0_gapsWithout_69 ?_
          refine g_topl (y := J (k + 5) 1) rfl ?_
          refine g_retl hC hs ?_ dX0_gapsWithout_70
          first | subst hsw | obtain rfl : ln = 3 := by omega
          simp only [detS, ea, eb, ec]
          try rfl
        · refine lv_tableIn (tgt := 71) (off := 36) hx hb dX0_gapsWithout_35 (by rw [hsw]; decide) (by rw [hsw]; decide) (by rw [hsw]; decide) (by decide) ?_
          refine lv_aload_n hx hb dX0_gapsWithout_71 rfl (lv_at hl 3 rfl) ?_
          refine lv_iconst (v := nI 0) hx hb dX0_gapsWithout_72 (by decide) ?_
          refine lv_iconst (v := nI 1) hx hb dX0_gapsWithout_73 (by decide) ?_
          refine lv_iload_n hx hb dX0_gapsWithout_74 rfl (lv_at hl 2 rfl) ?_
          refine lv_iload hx hb dX0_gapsWithout_75 (lv_at hl 1 rfl) ?_
          refine g_cp (g_rV (As := [.int (nI 0), .int (nI 1), .int (nI 1), .int (nI 2)]) hC hP (c_X0_twoLines l hP (k := k) (x := 0) (y := 1) (a := 1) (d := 2) (by first | assumption | omega) (by first | assumption | omega) (by first | assumption | omega) (by first | assumption | omega) (by first | assumption | omega)) hco.1 rfl ⟨q2_122, q2_119, q2_121, qs_15, q1_3⟩ dd_X0_twoLines ⟨Nat.le_of_ble_eq_true rfl, Nat.le_of_ble_eq_true rfl, rfl, rfl⟩ hl.1 rfl (Nat.le_of_ble_eq_true rfl) dX0_gapsWithout_77 ⟨Nat.le_of_ble_eq_true rfl, Nat.le_of_ble_eq_true rfl⟩) ?_
          refine W.eq (g2 := F0 m 80 ls [.long (det2 (fun q => J (k + 5 + q)) 0 1 1 2)]) rfl ?_
          refine g_retl hC hs ?_ dX0_gapsWithout_80
          first | subst hsw | obtain rfl : ln = 3 := by omega
          simp only [detS, ea, eb, ec]
          try rfl
        · refine lv_tableOut (tgt := 81) hx hb dX0_gapsWithout_35 (Or.inr (by rw [nI_toInt (by omega)]; omega)) (by decide) ?_
          refine lv_aload_n hx hb dX0_gapsWithout_81 rfl (lv_at hl 3 rfl) ?_
          refine g_get hC hP hco.1 rfl inX0 3 (by decide) q1_65 hco.2.2.1 dX0_gapsWithout_82 ?_
          refine lv_iconst (v := nI 0) hx hb dX0_gapsWithout_85 (by decide) ?_
          refine g_aaldG hC hP hco.2.2.2.2.1 (vp_in_nI (by omega) (by decide)) (v := .ref (k + 5)) (by first | exact e0 | exact coG_q hco (j := 0) (by omega)) dX0_gapsWithout_86 ?_
          refine lv_iload_n hx hb dX0_gapsWithout_87 rfl (lv_at hl 2 rfl) ?_
          refine g_lald hC hP hg0 (vp_in_nI (by omega) (by decide)) dX0_gapsWithout_88 ?_
          refine g_topl (y := J (k + 5) 1) rfl ?_
          refine lv_aload_n hx hb dX0_gapsWithout_89 rfl (lv_at hl 3 rfl) ?_
          refine lv_iconst (v := nI 1) hx hb dX0_gapsWithout_90 (by decide) ?_
          refine lv_iconst (v := nI 2) hx hb dX0_gapsWithout_91 (by decide) ?_
          refine lv_iload hx hb dX0_gapsWithout_92 (lv_at hl 1 rfl) ?_
          refine lv_iload hx hb dX0_gapsWithout_94 (lv_at hl 0 rfl) ?_
          refine g_cp (g_rV (As := [.int (nI 1), .int (nI 2), .int (nI 2), .int (nI 2)]) hC hP (c_X0_twoLines l hP (k := k) (x := 1) (y := 2) (a := 2) (d := 2) (by first | assumption | omega) (by first | assumption | omega) (by first | assumption | omega) (by first | assumption | omega) (by first | assumption | omega)) hco.1 rfl ⟨q2_122, q2_119, q2_121, qs_15, q1_3⟩ dd_X0_twoLines ⟨Nat.le_of_ble_eq_true rfl, Nat.le_of_ble_eq_true rfl, rfl, rfl⟩ hl.1 rfl (Nat.le_of_ble_eq_true rfl) dX0_gapsWithout_96 ⟨Nat.le_of_ble_eq_true rfl, Nat.le_of_ble_eq_true rfl⟩) ?_
          refine W.eq (g2 := F0 m 99 ls [.long (det2 (fun q => J (k + 5 + q)) 1 2 2 2), .long (J (k + 5) 1)]) rfl ?_
          refine lv_lmul hx hb dX0_gapsWithout_99 ?_
          refine lv_aload_n hx hb dX0_gapsWithout_100 rfl (lv_at hl 3 rfl) ?_
          refine g_get hC hP hco.1 rfl inX0 3 (by decide) q1_65 hco.2.2.1 dX0_gapsWithout_101 ?_
          refine lv_iconst (v := nI 0) hx hb dX0_gapsWithout_104 (by decide) ?_
          refine g_aaldG hC hP hco.2.2.2.2.1 (vp_in_nI (by omega) (by decide)) (v := .ref (k + 5)) (by first | exact e0 | exact coG_q hco (j := 0) (by omega)) dX0_gapsWithout_105 ?_
          refine lv_iload hx hb dX0_gapsWithout_106 (lv_at hl 1 rfl) ?_
          refine g_lald hC hP hg0 (vp_in_nI (by omega) (by decide)) dX0_gapsWithout_108 ?_
          refine g_topl (y := J (k + 5) 2) rfl ?_
          refine lv_aload_n hx hb dX0_gapsWithout_109 rfl (lv_at hl 3 rfl) ?_
          refine lv_iconst (v := nI 1) hx hb dX0_gapsWithout_110 (by decide) ?_
          refine lv_iconst (v := nI 2) hx hb dX0_gapsWithout_111 (by decide) ?_
          refine lv_iload_n hx hb dX0_gapsWithout_112 rfl (lv_at hl 2 rfl) ?_
          refine lv_iload hx hb dX0_gapsWithout_113 (lv_at hl 0 rfl) ?_
          refine g_cp (g_rV (As := [.int (nI 1), .int (nI 2), .int (nI 1), .int (nI 2)]) hC hP (c_X0_twoLines l hP (k := k) (x := 1) (y := 2) (a := 1) (d := 2) (by first | assumption | omega) (by first | assumption | omega) (by first | assumption | omega) (by first | assumption | omega) (by first | assumption | omega)) hco.1 rfl ⟨q2_122, q2_119, q2_121, qs_15, q1_3⟩ dd_X0_twoLines ⟨Nat.le_of_ble_eq_true rfl, Nat.le_of_ble_eq_true rfl, rfl, rfl⟩ hl.1 rfl (Nat.le_of_ble_eq_true rfl) dX0_gapsWithout_115 ⟨Nat.le_of_ble_eq_true rfl, Nat.le_of_ble_eq_true rfl⟩) ?_
          refine W.eq (g2 := F0 m 118 ls [.long (det2 (fun q => J (k + 5 + q)) 1 2 1 2), .long (J (k + 5) 2), .long ((J (k + 5) 1) * (det2 (fun q => J (k + 5 + q)) 1 2 2 2))]) rfl ?_
          refine lv_lmul hx hb dX0_gapsWithout_118 ?_
          refine lv_lsub hx hb dX0_gapsWithout_119 ?_
          refine lv_aload_n hx hb dX0_gapsWithout_120 rfl (lv_at hl 3 rfl) ?_
          refine g_get hC hP hco.1 rfl inX0 3 (by decide) q1_65 hco.2.2.1 dX0_gapsWithout_121 ?_
          refine lv_iconst (v := nI 0) hx hb dX0_gapsWithout_124 (by decide) ?_
          refine g_aaldG hC hP hco.2.2.2.2.1 (vp_in_nI (by omega) (by decide)) (v := .ref (k + 5)) (by first | exact e0 | exact coG_q hco (j := 0) (by omega)) dX0_gapsWithout_125 ?_
          refine lv_iload hx hb dX0_gapsWithout_126 (lv_at hl 0 rfl) ?_
          refine g_lald hC hP hg0 (vp_in_nI (by omega) (by decide)) dX0_gapsWithout_128 ?_
          refine g_topl (y := J (k + 5) 2) rfl ?_
          refine lv_aload_n hx hb dX0_gapsWithout_129 rfl (lv_at hl 3 rfl) ?_
          refine lv_iconst (v := nI 1) hx hb dX0_gapsWithout_130 (by decide) ?_
          refine lv_iconst (v := nI 2) hx hb dX0_gapsWithout_131 (by decide) ?_
          refine lv_iload_n hx hb dX0_gapsWithout_132 rfl (lv_at hl 2 rfl) ?_
          refine lv_iload hx hb dX0_gapsWithout_133 (lv_at hl 1 rfl) ?_
          refine g_cp (g_rV (As := [.int (nI 1), .int (nI 2), .int (nI 1), .int (nI 2)]) hC hP (c_X0_twoLines l hP (k := k) (x := 1) (y := 2) (a := 1) (d := 2) (by first | assumption | omega) (by first | assumption | omega) (by first | assumption | omega) (by first | assumption | omega) (by first | assumption | omega)) hco.1 rfl ⟨q2_122, q2_119, q2_121, qs_15, q1_3⟩ dd_X0_twoLines ⟨Nat.le_of_ble_eq_true rfl, Nat.le_of_ble_eq_true rfl, rfl, rfl⟩ hl.1 rfl (Nat.le_of_ble_eq_true rfl) dX0_gapsWithout_135 ⟨Nat.le_of_ble_eq_true rfl, Nat.le_of_ble_eq_true rfl⟩) ?_
          refine W.eq (g2 := F0 m 138 ls [.long (det2 (fun q => J (k + 5 + q)) 1 2 1 2), .long (J (k + 5) 2), .long (((J (k + 5) 1) * (det2 (fun q => J (k + 5 + q)) 1 2 2 2)) - ((J (k + 5) 2) * (det2 (fun q => J (k + 5 + q)) 1 2 1 2)))]) rfl ?_
          refine lv_lmul hx hb dX0_gapsWithout_138 ?_
          refine lv_ladd hx hb dX0_gapsWithout_139 ?_
          refine g_retl hC hs ?_ dX0_gapsWithout_140
          first | subst hsw | obtain rfl : ln = 3 := by omega
          simp only [detS, ea, eb, ec]
          try rfl
    · have c12 := mt (nI_leI (by omega) (by omega)).mpr c12
      have eb : detB pl = 1 := if_pos (by omega)
      refine lv_iconst (v := nI 1) hx hb dX0_gapsWithout_15 (by decide) ?_
      refine lv_goto (tgt := 20) hx hb dX0_gapsWithout_16 (by decide) ?_
      refine lv_istore (lv' := [(4, .int (nI 1)), (3, .int (nI 1)), (0, .ref k), (1, .int (nI pl)), (2, .int (nI ln))]) hx hb dX0_gapsWithout_20 hl (by decide) rfl (fun ls hl => ?_)
      refine lv_iload_n hx hb dX0_gapsWithout_22 rfl (lv_at hl 3 rfl) ?_
      refine lv_iconst (v := nI 2) hx hb dX0_gapsWithout_23 (by decide) ?_
      refine lv_icmp_le (tgt := 31) hx hb dX0_gapsWithout_24 (by decide) (fun c24 => ?_) (fun c24 => ?_)
      · have c24 := (nI_leI (by omega) (by omega)).mp c24
        have ec : detC pl = 3 := if_neg (by omega)
        refine lv_iconst (v := nI 3) hx hb dX0_gapsWithout_31 (by decide) ?_
        refine lv_istore (lv' := [(5, .int (nI 3)), (4, .int (nI 1)), (3, .int (nI 1)), (0, .ref k), (1, .int (nI pl)), (2, .int (nI ln))]) hx hb dX0_gapsWithout_32 hl (by decide) rfl (fun ls hl => ?_)
        refine lv_iload_n hx hb dX0_gapsWithout_34 rfl (lv_at hl 5 rfl) ?_
        rcases (show ln = 0 ∨ ln = 1 ∨ ln = 2 ∨ 2 < ln by omega) with hsw | hsw | hsw | hsw
        · refine lv_tableIn (tgt := 60) (off := 25) hx hb dX0_gapsWithout_35 (by rw [hsw]; decide) (by rw [hsw]; decide) (by rw [hsw]; decide) (by decide) ?_
          refine lv_lconst (v := 1) hx hb dX0_gapsWithout_60 (by decide) ?_
          refine g_retl hC hs ?_ dX0_gapsWithout_61
          first | subst hsw | obtain rfl : ln = 3 := by omega
          simp only [detS, ea, eb, ec]
          try rfl
        · refine lv_tableIn (tgt := 62) (off := 27) hx hb dX0_gapsWithout_35 (by rw [hsw]; decide) (by rw [hsw]; decide) (by rw [hsw]; decide) (by decide) ?_
          refine lv_aload_n hx hb dX0_gapsWithout_62 rfl (lv_at hl 3 rfl) ?_
          refine g_get hC hP hco.1 rfl inX0 3 (by decide) q1_65 hco.2.2.1 dX0_gapsWithout_63 ?_
          refine lv_iconst (v := nI 0) hx hb dX0_gapsWithout_66 (by decide) ?_
          refine g_aaldG hC hP hco.2.2.2.2.1 (vp_in_nI (by omega) (by decide)) (v := .ref (k + 5)) (by first | exact e0 | exact coG_q hco (j := 0) (by omega)) dX0_gapsWithout_67 ?_
          refine lv_iload_n hx hb dX0_gapsWithout_68 rfl (lv_at hl 2 rfl) ?_
          refine g_lald hC hP hg0 (vp_in_nI (by omega) (by decide)) dX0_gapsWithout_69 ?_
          refine g_topl (y := J (k + 5) 1) rfl ?_
          refine g_retl hC hs ?_ dX0_gapsWithout_70
          first | subst hsw | obtain rfl : ln = 3 := by omega
          simp only [detS, ea, eb, ec]
          try rfl
        · refine lv_tableIn (tgt := 71) (off := 36) hx hb dX0_gapsWithout_35 (by rw [hsw]; decide) (by rw [hsw]; decide) (by rw [hsw]; decide) (by decide) ?_
          refine lv_aload_n hx hb dX0_gapsWithout_71 rfl (lv_at hl 3 rfl) ?_
          refine lv_iconst (v := nI 0) hx hb dX0_gapsWithout_72 (by decide) ?_
          refine lv_iconst (v := nI 1) hx hb dX0_gapsWithout_73 (by decide) ?_
          refine lv_iload_n hx hb dX0_gapsWithout_74 rfl (lv_at hl 2 rfl) ?_
          refine lv_iload hx hb dX0_gapsWithout_75 (lv_at hl 1 rfl) ?_
          refine g_cp (g_rV (As := [.int (nI 0), .int (nI 1), .int (nI 1), .int (nI 1)]) hC hP (c_X0_twoLines l hP (k := k) (x := 0) (y := 1) (a := 1) (d := 1) (by first | assumption | omega) (by first | assumption | omega) (by first | assumption | omega) (by first | assumption | omega) (by first | assumption | omega)) hco.1 rfl ⟨q2_122, q2_119, q2_121, qs_15, q1_3⟩ dd_X0_twoLines ⟨Nat.le_of_ble_eq_true rfl, Nat.le_of_ble_eq_true rfl, rfl, rfl⟩ hl.1 rfl (Nat.le_of_ble_eq_true rfl) dX0_gapsWithout_77 ⟨Nat.le_of_ble_eq_true rfl, Nat.le_of_ble_eq_true rfl⟩) ?_
          refine W.eq (g2 := F0 m 80 ls [.long (det2 (fun q => J (k + 5 + q)) 0 1 1 1)]) rfl ?_
          refine g_retl hC hs ?_ dX0_gapsWithout_80
          first | subst hsw | obtain rfl : ln = 3 := by omega
          simp only [detS, ea, eb, ec]
          try rfl
        · refine lv_tableOut (tgt := 81) hx hb dX0_gapsWithout_35 (Or.inr (by rw [nI_toInt (by omega)]; omega)) (by decide) ?_
          refine lv_aload_n hx hb dX0_gapsWithout_81 rfl (lv_at hl 3 rfl) ?_
          refine g_get hC hP hco.1 rfl inX0 3 (by decide) q1_65 hco.2.2.1 dX0_gapsWithout_82 ?_
          refine lv_iconst (v := nI 0) hx hb dX0_gapsWithout_85 (by decide) ?_
          refine g_aaldG hC hP hco.2.2.2.2.1 (vp_in_nI (by omega) (by decide)) (v := .ref (k + 5)) (by first | exact e0 | exact coG_q hco (j := 0) (by omega)) dX0_gapsWithout_86 ?_
          refine lv_iload_n hx hb dX0_gapsWithout_87 rfl (lv_at hl 2 rfl) ?_
          refine g_lald hC hP hg0 (vp_in_nI (by omega) (by decide)) dX0_gapsWithout_88 ?_
          refine g_topl (y := J (k + 5) 1) rfl ?_
          refine lv_aload_n hx hb dX0_gapsWithout_89 rfl (lv_at hl 3 rfl) ?_
          refine lv_iconst (v := nI 1) hx hb dX0_gapsWithout_90 (by decide) ?_
          refine lv_iconst (v := nI 2) hx hb dX0_gapsWithout_91 (by decide) ?_
          refine lv_iload hx hb dX0_gapsWithout_92 (lv_at hl 1 rfl) ?_
          refine lv_iload hx hb dX0_gapsWithout_94 (lv_at hl 0 rfl) ?_
          refine g_cp (g_rV (As := [.int (nI 1), .int (nI 2), .int (nI 1), .int (nI 3)]) hC hP (c_X0_twoLines l hP (k := k) (x := 1) (y := 2) (a := 1) (d := 3) (by first | assumption | omega) (by first | assumption | omega) (by first | assumption | omega) (by first | assumption | omega) (by first | assumption | omega)) hco.1 rfl ⟨q2_122, q2_119, q2_121, qs_15, q1_3⟩ dd_X0_twoLines ⟨Nat.le_of_ble_eq_true rfl, Nat.le_of_ble_eq_true rfl, rfl, rfl⟩ hl.1 rfl (Nat.le_of_ble_eq_true rfl) dX0_gapsWithout_96 ⟨Nat.le_of_ble_eq_true rfl, Nat.le_of_ble_eq_true rfl⟩) ?_
          refine W.eq (g2 := F0 m 99 ls [.long (det2 (fun q => J (k + 5 + q)) 1 2 1 3), .long (J (k + 5) 1)]) rfl ?_
          refine lv_lmul hx hb dX0_gapsWithout_99 ?_
          refine lv_aload_n hx hb dX0_gapsWithout_100 rfl (lv_at hl 3 rfl) ?_
          refine g_get hC hP hco.1 rfl inX0 3 (by decide) q1_65 hco.2.2.1 dX0_gapsWithout_101 ?_
          refine lv_iconst (v := nI 0) hx hb dX0_gapsWithout_104 (by decide) ?_
          refine g_aaldG hC hP hco.2.2.2.2.1 (vp_in_nI (by omega) (by decide)) (v := .ref (k + 5)) (by first | exact e0 | exact coG_q hco (j := 0) (by omega)) dX0_gapsWithout_105 ?_
          refine lv_iload hx hb dX0_gapsWithout_106 (lv_at hl 1 rfl) ?_
          refine g_lald hC hP hg0 (vp_in_nI (by omega) (by decide)) dX0_gapsWithout_108 ?_
          refine g_topl (y := J (k + 5) 1) rfl ?_
          refine lv_aload_n hx hb dX0_gapsWithout_109 rfl (lv_at hl 3 rfl) ?_
          refine lv_iconst (v := nI 1) hx hb dX0_gapsWithout_110 (by decide) ?_
          refine lv_iconst (v := nI 2) hx hb dX0_gapsWithout_111 (by decide) ?_
          refine lv_iload_n hx hb dX0_gapsWithout_112 rfl (lv_at hl 2 rfl) ?_
          refine lv_iload hx hb dX0_gapsWithout_113 (lv_at hl 0 rfl) ?_
          refine g_cp (g_rV (As := [.int (nI 1), .int (nI 2), .int (nI 1), .int (nI 3)]) hC hP (c_X0_twoLines l hP (k := k) (x := 1) (y := 2) (a := 1) (d := 3) (by first | assumption | omega) (by first | assumption | omega) (by first | assumption | omega) (by first | assumption | omega) (by first | assumption | omega)) hco.1 rfl ⟨q2_122, q2_119, q2_121, qs_15, q1_3⟩ dd_X0_twoLines ⟨Nat.le_of_ble_eq_true rfl, Nat.le_of_ble_eq_true rfl, rfl, rfl⟩ hl.1 rfl (Nat.le_of_ble_eq_true rfl) dX0_gapsWithout_115 ⟨Nat.le_of_ble_eq_true rfl, Nat.le_of_ble_eq_true rfl⟩) ?_
          refine W.eq (g2 := F0 m 118 ls [.long (det2 (fun q => J (k + 5 + q)) 1 2 1 3), .long (J (k + 5) 1), .long ((J (k + 5) 1) * (det2 (fun q => J (k + 5 + q)) 1 2 1 3))]) rfl ?_
          refine lv_lmul hx hb dX0_gapsWithout_118 ?_
          refine lv_lsub hx hb dX0_gapsWithout_119 ?_
          refine lv_aload_n hx hb dX0_gapsWithout_120 rfl (lv_at hl 3 rfl) ?_
          refine g_get hC hP hco.1 rfl inX0 3 (by decide) q1_65 hco.2.2.1 dX0_gapsWithout_121 ?_
          refine lv_iconst (v := nI 0) hx hb dX0_gapsWithout_124 (by decide) ?_
          refine g_aaldG hC hP hco.2.2.2.2.1 (vp_in_nI (by omega) (by decide)) (v := .ref (k + 5)) (by first | exact e0 | exact coG_q hco (j := 0) (by omega)) dX0_gapsWithout_125 ?_
          refine lv_iload hx hb dX0_gapsWithout_126 (lv_at hl 0 rfl) ?_
          refine g_lald hC hP hg0 (vp_in_nI (by omega) (by decide)) dX0_gapsWithout_128 ?_
          refine g_topl (y := J (k + 5) 3) rfl ?_
          refine lv_aload_n hx hb dX0_gapsWithout_129 rfl (lv_at hl 3 rfl) ?_
          refine lv_iconst (v := nI 1) hx hb dX0_gapsWithout_130 (by decide) ?_
          refine lv_iconst (v := nI 2) hx hb dX0_gapsWithout_131 (by decide) ?_
          refine lv_iload_n hx hb dX0_gapsWithout_132 rfl (lv_at hl 2 rfl) ?_
          refine lv_iload hx hb dX0_gapsWithout_133 (lv_at hl 1 rfl) ?_
          refine g_cp (g_rV (As := [.int (nI 1), .int (nI 2), .int (nI 1), .int (nI 1)]) hC hP (c_X0_twoLines l hP (k := k) (x := 1) (y := 2) (a := 1) (d := 1) (by first | assumption | omega) (by first | assumption | omega) (by first | assumption | omega) (by first | assumption | omega) (by first | assumption | omega)) hco.1 rfl ⟨q2_122, q2_119, q2_121, qs_15, q1_3⟩ dd_X0_twoLines ⟨Nat.le_of_ble_eq_true rfl, Nat.le_of_ble_eq_true rfl, rfl, rfl⟩ hl.1 rfl (Nat.le_of_ble_eq_true rfl) dX0_gapsWithout_135 ⟨Nat.le_of_ble_eq_true rfl, Nat.le_of_ble_eq_true rfl⟩) ?_
          refine W.eq (g2 := F0 m 138 ls [.long (det2 (fun q => J (k + 5 + q)) 1 2 1 1), .long (J (k + 5) 3), .long (((J (k + 5) 1) * (det2 (fun q => J (k + 5 + q)) 1 2 1 3)) - ((J (k + 5) 1) * (det2 (fun q => J (k + 5 + q)) 1 2 1 3)))]) rfl ?_
          refine lv_lmul hx hb dX0_gapsWithout_138 ?_
          refine lv_ladd hx hb dX0_gapsWithout_139 ?_
          refine g_retl hC hs ?_ dX0_gapsWithout_140
          first | subst hsw | obtain rfl : ln = 3 := by omega
          simp only [detS, ea, eb, ec]
          try rfl
      · have c24 := mt (nI_leI (by omega) (by omega)).mpr c24
        have ec : detC pl = 2 := if_pos (by omega)
        refine lv_iconst (v := nI 2) hx hb dX0_gapsWithout_27 (by decide) ?_
        refine lv_goto (tgt := 32) hx hb dX0_gapsWithout_28 (by decide) ?_
        refine lv_istore (lv' := [(5, .int (nI 2)), (4, .int (nI 1)), (3, .int (nI 1)), (0, .ref k), (1, .int (nI pl)), (2, .int (nI ln))]) hx hb dX0_gapsWithout_32 hl (by decide) rfl (fun ls hl => ?_)
        refine lv_iload_n hx hb dX0_gapsWithout_34 rfl (lv_at hl 5 rfl) ?_
        rcases (show ln = 0 ∨ ln = 1 ∨ ln = 2 ∨ 2 < ln by omega) with hsw | hsw | hsw | hsw
        · refine lv_tableIn (tgt := 60) (off := 25) hx hb dX0_gapsWithout_35 (by rw [hsw]; decide) (by rw [hsw]; decide) (by rw [hsw]; decide) (by decide) ?_
          refine lv_lconst (v := 1) hx hb dX0_gapsWithout_60 (by decide) ?_
          refine g_retl hC hs ?_ dX0_gapsWithout_61
          first | subst hsw | obtain rfl : ln = 3 := by omega
          simp only [detS, ea, eb, ec]
          try rfl
        · refine lv_tableIn (tgt := 62) (off := 27) hx hb dX0_gapsWithout_35 (by rw [hsw]; decide) (by rw [hsw]; decide) (by rw [hsw]; decide) (by decide) ?_
          refine lv_aload_n hx hb dX0_gapsWithout_62 rfl (lv_at hl 3 rfl) ?_
          refine g_get hC hP hco.1 rfl inX0 3 (by decide) q1_65 hco.2.2.1 dX0_gapsWithout_63 ?_
          refine lv_iconst (v := nI 0) hx hb dX0_gapsWithout_66 (by decide) ?_
          refine g_aaldG hC hP hco.2.2.2.2.1 (vp_in_nI (by omega) (by decide)) (v := .ref (k + 5)) (by first | exact e0 | exact coG_q hco (j := 0) (by omega)) dX0_gapsWithout_67 ?_
          refine lv_iload_n hx hb dX0_gapsWithout_68 rfl (lv_at hl 2 rfl) ?_
          refine g_lald hC hP hg0 (vp_in_nI (by omega) (by decide)) dX0_gapsWithout_69 ?_
          refine g_topl (y := J (k + 5) 1) rfl ?_
          refine g_retl hC hs ?_ dX0_gapsWithout_70
          first | subst hsw | obtain rfl : ln = 3 := by omega
          simp only [detS, ea, eb, ec]
          try rfl
        · refine lv_tableIn (tgt := 71) (off := 36) hx hb dX0_gapsWithout_35 (by rw [hsw]; decide) (by rw [hsw]; decide) (by rw [hsw]; decide) (by decide) ?_
          refine lv_aload_n hx hb dX0_gapsWithout_71 rfl (lv_at hl 3 rfl) ?_
          refine lv_iconst (v := nI 0) hx hb dX0_gapsWithout_72 (by decide) ?_
          refine lv_iconst (v := nI 1) hx hb dX0_gapsWithout_73 (by decide) ?_
          refine lv_iload_n hx hb dX0_gapsWithout_74 rfl (lv_at hl 2 rfl) ?_
          refine lv_iload hx hb dX0_gapsWithout_75 (lv_at hl 1 rfl) ?_
          refine g_cp (g_rV (As := [.int (nI 0), .int (nI 1), .int (nI 1), .int (nI 1)]) hC hP (c_X0_twoLines l hP (k := k) (x := 0) (y := 1) (a := 1) (d := 1) (by first | assumption | omega) (by first | assumption | omega) (by first | assumption | omega) (by first | assumption | omega) (by first | assumption | omega)) hco.1 rfl ⟨q2_122, q2_119, q2_121, qs_15, q1_3⟩ dd_X0_twoLines ⟨Nat.le_of_ble_eq_true rfl, Nat.le_of_ble_eq_true rfl, rfl, rfl⟩ hl.1 rfl (Nat.le_of_ble_eq_true rfl) dX0_gapsWithout_77 ⟨Nat.le_of_ble_eq_true rfl, Nat.le_of_ble_eq_true rfl⟩) ?_
          refine W.eq (g2 := F0 m 80 ls [.long (det2 (fun q => J (k + 5 + q)) 0 1 1 1)]) rfl ?_
          refine g_retl hC hs ?_ dX0_gapsWithout_80
          first | subst hsw | obtain rfl : ln = 3 := by omega
          simp only [detS, ea, eb, ec]
          try rfl
        · refine lv_tableOut (tgt := 81) hx hb dX0_gapsWithout_35 (Or.inr (by rw [nI_toInt (by omega)]; omega)) (by decide) ?_
          refine lv_aload_n hx hb dX0_gapsWithout_81 rfl (lv_at hl 3 rfl) ?_
          refine g_get hC hP hco.1 rfl inX0 3 (by decide) q1_65 hco.2.2.1 dX0_gapsWithout_82 ?_
          refine lv_iconst (v := nI 0) hx hb dX0_gapsWithout_85 (by decide) ?_
          refine g_aaldG hC hP hco.2.2.2.2.1 (vp_in_nI (by omega) (by decide)) (v := .ref (k + 5)) (by first | exact e0 | exact coG_q hco (j := 0) (by omega)) dX0_gapsWithout_86 ?_
          refine lv_iload_n hx hb dX0_gapsWithout_87 rfl (lv_at hl 2 rfl) ?_
          refine g_lald hC hP hg0 (vp_in_nI (by omega) (by decide)) dX0_gapsWithout_88 ?_
          refine g_topl (y := J (k + 5) 1) rfl ?_
          refine lv_aload_n hx hb dX0_gapsWithout_89 rfl (lv_at hl 3 rfl) ?_
          refine lv_iconst (v := nI 1) hx hb dX0_gapsWithout_90 (by decide) ?_
          refine lv_iconst (v := nI 2) hx hb dX0_gapsWithout_91 (by decide) ?_
          refine lv_iload hx hb dX0_gapsWithout_92 (lv_at hl 1 rfl) ?_
          refine lv_iload hx hb dX0_gapsWithout_94 (lv_at hl 0 rfl) ?_
          refine g_cp (g_rV (As := [.int (nI 1), .int (nI 2), .int (nI 1), .int (nI 2)]) hC hP (c_X0_twoLines l hP (k := k) (x := 1) (y := 2) (a := 1) (d := 2) (by first | assumption | omega) (by first | assumption | omega) (by first | assumption | omega) (by first | assumption | omega) (by first | assumption | omega)) hco.1 rfl ⟨q2_122, q2_119, q2_121, qs_15, q1_3⟩ dd_X0_twoLines ⟨Nat.le_of_ble_eq_true rfl, Nat.le_of_ble_eq_true rfl, rfl, rfl⟩ hl.1 rfl (Nat.le_of_ble_eq_true rfl) dX0_gapsWithout_96 ⟨Nat.le_of_ble_eq_true rfl, Nat.le_of_ble_eq_true rfl⟩) ?_
          refine W.eq (g2 := F0 m 99 ls [.long (det2 (fun q => J (k + 5 + q)) 1 2 1 2), .long (J (k + 5) 1)]) rfl ?_
          refine lv_lmul hx hb dX0_gapsWithout_99 ?_
          refine lv_aload_n hx hb dX0_gapsWithout_100 rfl (lv_at hl 3 rfl) ?_
          refine g_get hC hP hco.1 rfl inX0 3 (by decide) q1_65 hco.2.2.1 dX0_gapsWithout_101 ?_
          refine lv_iconst (v := nI 0) hx hb dX0_gapsWithout_104 (by decide) ?_
          refine g_aaldG hC hP hco.2.2.2.2.1 (vp_in_nI (by omega) (by decide)) (v := .ref (k + 5)) (by first | exact e0 | exact coG_q hco (j := 0) (by omega)) dX0_gapsWithout_105 ?_
          refine lv_iload hx hb dX0_gapsWithout_106 (lv_at hl 1 rfl) ?_
          refine g_lald hC hP hg0 (vp_in_nI (by omega) (by decide)) dX0_gapsWithout_108 ?_
          refine g_topl (y := J (k + 5) 1) rfl ?_
          refine lv_aload_n hx hb dX0_gapsWithout_109 rfl (lv_at hl 3 rfl) ?_
          refine lv_iconst (v := nI 1) hx hb dX0_gapsWithout_110 (by decide) ?_
          refine lv_iconst (v := nI 2) hx hb dX0_gapsWithout_111 (by decide) ?_
          refine lv_iload_n hx hb dX0_gapsWithout_112 rfl (lv_at hl 2 rfl) ?_
          refine lv_iload hx hb dX0_gapsWithout_113 (lv_at hl 0 rfl) ?_
          refine g_cp (g_rV (As := [.int (nI 1), .int (nI 2), .int (nI 1), .int (nI 2)]) hC hP (c_X0_twoLines l hP (k := k) (x := 1) (y := 2) (a := 1) (d := 2) (by first | assumption | omega) (by first | assumption | omega) (by first | assumption | omega) (by first | assumption | omega) (by first | assumption | omega)) hco.1 rfl ⟨q2_122, q2_119, q2_121, qs_15, q1_3⟩ dd_X0_twoLines ⟨Nat.le_of_ble_eq_true rfl, Nat.le_of_ble_eq_true rfl, rfl, rfl⟩ hl.1 rfl (Nat.le_of_ble_eq_true rfl) dX0_gapsWithout_115 ⟨Nat.le_of_ble_eq_true rfl, Nat.le_of_ble_eq_true rfl⟩) ?_
          refine W.eq (g2 := F0 m 118 ls [.long (det2 (fun q => J (k + 5 + q)) 1 2 1 2), .long (J (k + 5) 1), .long ((J (k + 5) 1) * (det2 (fun q => J (k + 5 + q)) 1 2 1 2))]) rfl ?_
          refine lv_lmul hx hb dX0_gapsWithout_118 ?_
          refine lv_lsub hx hb dX0_gapsWithout_119 ?_
          refine lv_aload_n hx hb dX0_gapsWithout_120 rfl (lv_at hl 3 rfl) ?_
          refine g_get hC hP hco.1 rfl inX0 3 (by decide) q1_65 hco.2.2.1 dX0_gapsWithout_121 ?_
          refine lv_iconst (v := nI 0) hx hb dX0_gapsWithout_124 (by decide) ?_
          refine g_aaldG hC hP hco.2.2.2.2.1 (vp_in_nI (by omega) (by decide)) (v := .ref (k + 5)) (by first | exact e0 | exact coG_q hco (j := 0) (by omega)) dX0_gapsWithout_125 ?_
          refine lv_iload hx hb dX0_gapsWithout_126 (lv_at hl 0 rfl) ?_
          refine g_lald hC hP hg0 (vp_in_nI (by omega) (by decide)) dX0_gapsWithout_128 ?_
          refine g_topl (y := J (k + 5) 2) rfl ?_
          refine lv_aload_n hx hb dX0_gapsWithout_129 rfl (lv_at hl 3 rfl) ?_
          refine lv_iconst (v := nI 1) hx hb dX0_gapsWithout_130 (by decide) ?_
          refine lv_iconst (v := nI 2) hx hb dX0_gapsWithout_131 (by decide) ?_
          refine lv_iload_n hx hb dX0_gapsWithout_132 rfl (lv_at hl 2 rfl) ?_
          refine lv_iload hx hb dX0_gapsWithout_133 (lv_at hl 1 rfl) ?_
          refine g_cp (g_rV (As := [.int (nI 1), .int (nI 2), .int (nI 1), .int (nI 1)]) hC hP (c_X0_twoLines l hP (k := k) (x := 1) (y := 2) (a := 1) (d := 1) (by first | assumption | omega) (by first | assumption | omega) (by first | assumption | omega) (by first | assumption | omega) (by first | assumption | omega)) hco.1 rfl ⟨q2_122, q2_119, q2_121, qs_15, q1_3⟩ dd_X0_twoLines ⟨Nat.le_of_ble_eq_true rfl, Nat.le_of_ble_eq_true rfl, rfl, rfl⟩ hl.1 rfl (Nat.le_of_ble_eq_true rfl) dX0_gapsWithout_135 ⟨Nat.le_of_ble_eq_true rfl, Nat.le_of_ble_eq_true rfl⟩) ?_
          refine W.eq (g2 := F0 m 138 ls [.long (det2 (fun q => J (k + 5 + q)) 1 2 1 1), .long (J (k + 5) 2), .long (((J (k + 5) 1) * (det2 (fun q => J (k + 5 + q)) 1 2 1 2)) - ((J (k + 5) 1) * (det2 (fun q => J (k + 5 + q)) 1 2 1 2)))]) rfl ?_
          refine lv_lmul hx hb dX0_gapsWithout_138 ?_
          refine lv_ladd hx hb dX0_gapsWithout_139 ?_
          refine g_retl hC hs ?_ dX0_gapsWithout_140
          first | subst hsw | obtain rfl : ln = 3 := by omega
          simp only [detS, ea, eb, ec]
          try rfl
  · have c1 := mt (nI_le0 (by omega)).mpr c1
    have ea : detA pl = 0 := if_pos (by omega)
    refine lv_iconst (v := nI 0) hx hb dX0_gapsWithout_4 (by decide) ?_
    refine lv_goto (tgt := 9) hx hb dX0_gapsWithout_5 (by decide) ?_
    refine lv_istore_n (lv' := [(3, .int (nI 0)), (0, .ref k), (1, .int (nI pl)), (2, .int (nI ln))]) hx hb dX0_gapsWithout_9 rfl hl (by decide) rfl (fun ls hl => ?_)
    refine lv_iload_n hx hb dX0_gapsWithout_10 rfl (lv_at hl 2 rfl) ?_
    refine lv_iconst (v := nI 1) hx hb dX0_gapsWithout_11 (by decide) ?_
    refine lv_icmp_le (tgt := 19) hx hb dX0_gapsWithout_12 (by decide) (fun c12 => ?_) (fun c12 => ?_)
    · have c12 := (nI_leI (by omega) (by omega)).mp c12
      have eb : detB pl = 2 := if_neg (by omega)
      refine lv_iconst (v := nI 2) hx hb dX0_gapsWithout_19 (by decide) ?_
      refine lv_istore (lv' := [(4, .int (nI 2)), (3, .int (nI 0)), (0, .ref k), (1, .int (nI pl)), (2, .int (nI ln))]) hx hb dX0_gapsWithout_20 hl (by decide) rfl (fun ls hl => ?_)
      refine lv_iload_n hx hb dX0_gapsWithout_22 rfl (lv_at hl 3 rfl) ?_
      refine lv_iconst (v := nI 2) hx hb dX0_gapsWithout_23 (by decide) ?_
      refine lv_icmp_le (tgt := 31) hx hb dX0_gapsWithout_24 (by decide) (fun c24 => ?_) (fun c24 => ?_)
      · have c24 := (nI_leI (by omega) (by omega)).mp c24
        have ec : detC pl = 3 := if_neg (by omega)
        refine lv_iconst (v := nI 3) hx hb dX0_gapsWithout_31 (by decide) ?_
        refine lv_istore (lv' := [(5, .int (nI 3)), (4, .int (nI 2)), (3, .int (nI 0)), (0, .ref k), (1, .int (nI pl)), (2, .int (nI ln))]) hx hb dX0_gapsWithout_32 hl (by decide) rfl (fun ls hl => ?_)
        refine lv_iload_n hx hb dX0_gapsWithout_34 rfl (lv_at hl 5 rfl) ?_
        rcases (show ln = 0 ∨ ln = 1 ∨ ln = 2 ∨ 2 < ln by omega) with hsw | hsw | hsw | hsw
        · refine lv_tableIn (tgt := 60) (off := 25) hx hb dX0_gapsWithout_35 (by rw [hsw]; decide) (by rw [hsw]; decide) (by rw [hsw]; decide) (by decide) ?_
          refine lv_lconst (v := 1) hx hb dX0_gapsWithout_60 (by decide) ?_
          refine g_retl hC hs ?_ dX0_gapsWithout_61
          first | subst hsw | obtain rfl : ln = 3 := by omega
          simp only [detS, ea, eb, ec]
          try rfl
        · refine lv_tableIn (tgt := 62) (off := 27) hx hb dX0_gapsWithout_35 (by rw [hsw]; decide) (by rw [hsw]; decide) (by rw [hsw]; decide) (by decide) ?_
          refine lv_aload_n hx hb dX0_gapsWithout_62 rfl (lv_at hl 3 rfl) ?_
          refine g_get hC hP hco.1 rfl inX0 3 (by decide) q1_65 hco.2.2.1 dX0_gapsWithout_63 ?_
          refine lv_iconst (v := nI 0) hx hb dX0_gapsWithout_66 (by decide) ?_
          refine g_aaldG hC hP hco.2.2.2.2.1 (vp_in_nI (by omega) (by decide)) (v := .ref (k + 5)) (by first | exact e0 | exact coG_q hco (j := 0) (by omega)) dX0_gapsWithout_67 ?_
          refine lv_iload_n hx hb dX0_gapsWithout_68 rfl (lv_at hl 2 rfl) ?_
          refine g_lald hC hP hg0 (vp_in_nI (by omega) (by decide)) dX0_gapsWithout_69 ?_
          refine g_topl (y := J (k + 5) 0) rfl ?_
          refine g_retl hC hs ?_ dX0_gapsWithout_70
          first | subst hsw | obtain rfl : ln = 3 := by omega
          simp only [detS, ea, eb, ec]
          try rfl
        · refine lv_tableIn (tgt := 71) (off := 36) hx hb dX0_gapsWithout_35 (by rw [hsw]; decide) (by rw [hsw]; decide) (by rw [hsw]; decide) (by decide) ?_
          refine lv_aload_n hx hb dX0_gapsWithout_71 rfl (lv_at hl 3 rfl) ?_
          refine lv_iconst (v := nI 0) hx hb dX0_gapsWithout_72 (by decide) ?_
          refine lv_iconst (v := nI 1) hx hb dX0_gapsWithout_73 (by decide) ?_
          refine lv_iload_n hx hb dX0_gapsWithout_74 rfl (lv_at hl 2 rfl) ?_
          refine lv_iload hx hb dX0_gapsWithout_75 (lv_at hl 1 rfl) ?_
          refine g_cp (g_rV (As := [.int (nI 0), .int (nI 1), .int (nI 0), .int (nI 2)]) hC hP (c_X0_twoLines l hP (k := k) (x := 0) (y := 1) (a := 0) (d := 2) (by first | assumption | omega) (by first | assumption | omega) (by first | assumption | omega) (by first | assumption | omega) (by first | assumption | omega)) hco.1 rfl ⟨q2_122, q2_119, q2_121, qs_15, q1_3⟩ dd_X0_twoLines ⟨Nat.le_of_ble_eq_true rfl, Nat.le_of_ble_eq_true rfl, rfl, rfl⟩ hl.1 rfl (Nat.le_of_ble_eq_true rfl) dX0_gapsWithout_77 ⟨Nat.le_of_ble_eq_true rfl, Nat.le_of_ble_eq_true rfl⟩) ?_
          refine W.eq (g2 := F0 m 80 ls [.long (det2 (fun q => J (k + 5 + q)) 0 1 0 2)]) rfl ?_
          refine g_retl hC hs ?_ dX0_gapsWithout_80
          first | subst hsw | obtain rfl : ln = 3 := by omega
          simp only [detS, ea, eb, ec]
          try rfl
        · refine lv_tableOut (tgt := 81) hx hb dX0_gapsWithout_35 (Or.inr (by rw [nI_toInt (by omega)]; omega)) (by decide) ?_
          refine lv_aload_n hx hb dX0_gapsWithout_81 rfl (lv_at hl 3 rfl) ?_
          refine g_get hC hP hco.1 rfl inX0 3 (by decide) q1_65 hco.2.2.1 dX0_gapsWithout_82 ?_
          refine lv_iconst (v := nI 0) hx hb dX0_gapsWithout_85 (by decide) ?_
          refine g_aaldG hC hP hco.2.2.2.2.1 (vp_in_nI (by omega) (by decide)) (v := .ref (k + 5)) (by first | exact e0 | exact coG_q hco (j := 0) (by omega)) dX0_gapsWithout_86 ?_
          refine lv_iload_n hx hb dX0_gapsWithout_87 rfl (lv_at hl 2 rfl) ?_
          refine g_lald hC hP hg0 (vp_in_nI (by omega) (by decide)) dX0_gapsWithout_88 ?_
          refine g_topl (y := J (k + 5) 0) rfl ?_
          refine lv_aload_n hx hb dX0_gapsWithout_89 rfl (lv_at hl 3 rfl) ?_
          refine lv_iconst (v := nI 1) hx hb dX0_gapsWithout_90 (by decide) ?_
          refine lv_iconst (v := nI 2) hx hb dX0_gapsWithout_91 (by decide) ?_
          refine lv_iload hx hb dX0_gapsWithout_92 (lv_at hl 1 rfl) ?_
          refine lv_iload hx hb dX0_gapsWithout_94 (lv_at hl 0 rfl) ?_
          refine g_cp (g_rV (As := [.int (nI 1), .int (nI 2), .int (nI 2), .int (nI 3)]) hC hP (c_X0_twoLines l hP (k := k) (x := 1) (y := 2) (a := 2) (d := 3) (by first | assumption | omega) (by first | assumption | omega) (by first | assumption | omega) (by first | assumption | omega) (by first | assumption | omega)) hco.1 rfl ⟨q2_122, q2_119, q2_121, qs_15, q1_3⟩ dd_X0_twoLines ⟨Nat.le_of_ble_eq_true rfl, Nat.le_of_ble_eq_true rfl, rfl, rfl⟩ hl.1 rfl (Nat.le_of_ble_eq_true rfl) dX0_gapsWithout_96 ⟨Nat.le_of_ble_eq_true rfl, Nat.le_of_ble_eq_true rfl⟩) ?_
          refine W.eq (g2 := F0 m 99 ls [.long (det2 (fun q => J (k + 5 + q)) 1 2 2 3), .long (J (k + 5) 0)]) rfl ?_
          refine lv_lmul hx hb dX0_gapsWithout_99 ?_
          refine lv_aload_n hx hb dX0_gapsWithout_100 rfl (lv_at hl 3 rfl) ?_
          refine g_get hC hP hco.1 rfl inX0 3 (by decide) q1_65 hco.2.2.1 dX0_gapsWithout_101 ?_
          refine lv_iconst (v := nI 0) hx hb dX0_gapsWithout_104 (by decide) ?_
          refine g_aaldG hC hP hco.2.2.2.2.1 (vp_in_nI (by omega) (by decide)) (v := .ref (k + 5)) (by first | exact e0 | exact coG_q hco (j := 0) (by omega)) dX0_gapsWithout_105 ?_
          refine lv_iload hx hb dX0_gapsWithout_106 (lv_at hl 1 rfl) ?_
          refine g_lald hC hP hg0 (vp_in_nI (by omega) (by decide)) dX0_gapsWithout_108 ?_
          refine g_topl (y := J (k + 5) 2) rfl ?_
          refine lv_aload_n hx hb dX0_gapsWithout_109 rfl (lv_at hl 3 rfl) ?_
          refine lv_iconst (v := nI 1) hx hb dX0_gapsWithout_110 (by decide) ?_
          refine lv_iconst (v := nI 2) hx hb dX0_gapsWithout_111 (by decide) ?_
          refine lv_iload_n hx hb dX0_gapsWithout_112 rfl (lv_at hl 2 rfl) ?_
          refine lv_iload hx hb dX0_gapsWithout_113 (lv_at hl 0 rfl) ?_
          refine g_cp (g_rV (As := [.int (nI 1), .int (nI 2), .int (nI 0), .int (nI 3)]) hC hP (c_X0_twoLines l hP (k := k) (x := 1) (y := 2) (a := 0) (d := 3) (by first | assumption | omega) (by first | assumption | omega) (by first | assumption | omega) (by first | assumption | omega) (by first | assumption | omega)) hco.1 rfl ⟨q2_122, q2_119, q2_121, qs_15, q1_3⟩ dd_X0_twoLines ⟨Nat.le_of_ble_eq_true rfl, Nat.le_of_ble_eq_true rfl, rfl, rfl⟩ hl.1 rfl (Nat.le_of_ble_eq_true rfl) dX0_gapsWithout_115 ⟨Nat.le_of_ble_eq_true rfl, Nat.le_of_ble_eq_true rfl⟩) ?_
          refine W.eq (g2 := F0 m 118 ls [.long (det2 (fun q => J (k + 5 + q)) 1 2 0 3), .long (J (k + 5) 2), .long ((J (k + 5) 0) * (det2 (fun q => J (k + 5 + q)) 1 2 2 3))]) rfl ?_
          refine lv_lmul hx hb dX0_gapsWithout_118 ?_
          refine lv_lsub hx hb dX0_gapsWithout_119 ?_
          refine lv_aload_n hx hb dX0_gapsWithout_120 rfl (lv_at hl 3 rfl) ?_
          refine g_get hC hP hco.1 rfl inX0 3 (by decide) q1_65 hco.2.2.1 dX0_gapsWithout_121 ?_
          refine lv_iconst (v := nI 0) hx hb dX0_gapsWithout_124 (by decide) ?_
          refine g_aaldG hC hP hco.2.2.2.2.1 (vp_in_nI (by omega) (by decide)) (v := .ref (k + 5)) (by first | exact e0 | exact coG_q hco (j := 0) (by omega)) dX0_gapsWithout_125 ?_
          refine lv_iload hx hb dX0_gapsWithout_126 (lv_at hl 0 rfl) ?_
          refine g_lald hC hP hg0 (vp_in_nI (by omega) (by decide)) dX0_gapsWithout_128 ?_
          refine g_topl (y := J (k + 5) 3) rfl ?_
          refine lv_aload_n hx hb dX0_gapsWithout_129 rfl (lv_at hl 3 rfl) ?_
          refine lv_iconst (v := nI 1) hx hb dX0_gapsWithout_130 (by decide) ?_
          refine lv_iconst (v := nI 2) hx hb dX0_gapsWithout_131 (by decide) ?_
          refine lv_iload_n hx hb dX0_gapsWithout_132 rfl (lv_at hl 2 rfl) ?_
          refine lv_iload hx hb dX0_gapsWithout_133 (lv_at hl 1 rfl) ?_
          refine g_cp (g_rV (As := [.int (nI 1), .int (nI 2), .int (nI 0), .int (nI 2)]) hC hP (c_X0_twoLines l hP (k := k) (x := 1) (y := 2) (a := 0) (d := 2) (by first | assumption | omega) (by first | assumption | omega) (by first | assumption | omega) (by first | assumption | omega) (by first | assumption | omega)) hco.1 rfl ⟨q2_122, q2_119, q2_121, qs_15, q1_3⟩ dd_X0_twoLines ⟨Nat.le_of_ble_eq_true rfl, Nat.le_of_ble_eq_true rfl, rfl, rfl⟩ hl.1 rfl (Nat.le_of_ble_eq_true rfl) dX0_gapsWithout_135 ⟨Nat.le_of_ble_eq_true rfl, Nat.le_of_ble_eq_true rfl⟩) ?_
          refine W.eq (g2 := F0 m 138 ls [.long (det2 (fun q => J (k + 5 + q)) 1 2 0 2), .long (J (k + 5) 3), .long (((J (k + 5) 0) * (det2 (fun q => J (k + 5 + q)) 1 2 2 3)) - ((J (k + 5) 2) * (det2 (fun q => J (k + 5 + q)) 1 2 0 3)))]) rfl ?_
          refine lv_lmul hx hb dX0_gapsWithout_138 ?_
          refine lv_ladd hx hb dX0_gapsWithout_139 ?_
          refine g_retl hC hs ?_ dX0_gapsWithout_140
          first | subst hsw | obtain rfl : ln = 3 := by omega
          simp only [detS, ea, eb, ec]
          try rfl
      · have c24 := mt (nI_leI (by omega) (by omega)).mpr c24
        have ec : detC pl = 2 := if_pos (by omega)
        refine lv_iconst (v := nI 2) hx hb dX0_gapsWithout_27 (by decide) ?_
        refine lv_goto (tgt := 32) hx hb dX0_gapsWithout_28 (by decide) ?_
        refine lv_istore (lv' := [(5, .int (nI 2)), (4, .int (nI 2)), (3, .int (nI 0)), (0, .ref k), (1, .int (nI pl)), (2, .int (nI ln))]) hx hb dX0_gapsWithout_32 hl (by decide) rfl (fun ls hl => ?_)
        refine lv_iload_n hx hb dX0_gapsWithout_34 rfl (lv_at hl 5 rfl) ?_
        rcases (show ln = 0 ∨ ln = 1 ∨ ln = 2 ∨ 2 < ln by omega) with hsw | hsw | hsw | hsw
        · refine lv_tableIn (tgt := 60) (off := 25) hx hb dX0_gapsWithout_35 (by rw [hsw]; decide) (by rw [hsw]; decide) (by rw [hsw]; decide) (by decide) ?_
          refine lv_lconst (v := 1) hx hb dX0_gapsWithout_60 (by decide) ?_
          refine g_retl hC hs ?_ dX0_gapsWithout_61
          first | subst hsw | obtain rfl : ln = 3 := by omega
          simp only [detS, ea, eb, ec]
          try rfl
        · refine lv_tableIn (tgt := 62) (off := 27) hx hb dX0_gapsWithout_35 (by rw [hsw]; decide) (by rw [hsw]; decide) (by rw [hsw]; decide) (by decide) ?_
          refine lv_aload_n hx hb dX0_gapsWithout_62 rfl (lv_at hl 3 rfl) ?_
          refine g_get hC hP hco.1 rfl inX0 3 (by decide) q1_65 hco.2.2.1 dX0_gapsWithout_63 ?_
          refine lv_iconst (v := nI 0) hx hb dX0_gapsWithout_66 (by decide) ?_
          refine g_aaldG hC hP hco.2.2.2.2.1 (vp_in_nI (by omega) (by decide)) (v := .ref (k + 5)) (by first | exact e0 | exact coG_q hco (j := 0) (by omega)) dX0_gapsWithout_67 ?_
          refine lv_iload_n hx hb dX0_gapsWithout_68 rfl (lv_at hl 2 rfl) ?_
          refine g_lald hC hP hg0 (vp_in_nI (by omega) (by decide)) dX0_gapsWithout_69 ?_
          refine g_topl (y := J (k + 5) 0) rfl ?_
          refine g_retl hC hs ?_ dX0_gapsWithout_70
          first | subst hsw | obtain rfl : ln = 3 := by omega
          simp only [detS, ea, eb, ec]
          try rfl
        · refine lv_tableIn (tgt := 71) (off := 36) hx hb dX0_gapsWithout_35 (by rw [hsw]; decide) (by rw [hsw]; decide) (by rw [hsw]; decide) (by decide) ?_
          refine lv_aload_n hx hb dX0_gapsWithout_71 rfl (lv_at hl 3 rfl) ?_
          refine lv_iconst (v := nI 0) hx hb dX0_gapsWithout_72 (by decide) ?_
          refine lv_iconst (v := nI 1) hx hb dX0_gapsWithout_73 (by decide) ?_
          refine lv_iload_n hx hb dX0_gapsWithout_74 rfl (lv_at hl 2 rfl) ?_
          refine lv_iload hx hb dX0_gapsWithout_75 (lv_at hl 1 rfl) ?_
          refine g_cp (g_rV (As := [.int (nI 0), .int (nI 1), .int (nI 0), .int (nI 2)]) hC hP (c_X0_twoLines l hP (k := k) (x := 0) (y := 1) (a := 0) (d := 2) (by first | assumption | omega) (by first | assumption | omega) (by first | assumption | omega) (by first | assumption | omega) (by first | assumption | omega)) hco.1 rfl ⟨q2_122, q2_119, q2_121, qs_15, q1_3⟩ dd_X0_twoLines ⟨Nat.le_of_ble_eq_true rfl, Nat.le_of_ble_eq_true rfl, rfl, rfl⟩ hl.1 rfl (Nat.le_of_ble_eq_true rfl) dX0_gapsWithout_77 ⟨Nat.le_of_ble_eq_true rfl, Nat.le_of_ble_eq_true rfl⟩) ?_
          refine W.eq (g2 := F0 m 80 ls [.long (det2 (fun q => J (k + 5 + q)) 0 1 0 2)]) rfl ?_
          refine g_retl hC hs ?_ dX0_gapsWithout_80
          first | subst hsw | obtain rfl : ln = 3 := by omega
          simp only [detS, ea, eb, ec]
          try rfl
        · refine lv_tableOut (tgt := 81) hx hb dX0_gapsWithout_35 (Or.inr (by rw [nI_toInt (by omega)]; omega)) (by decide) ?_
          refine lv_aload_n hx hb dX0_gapsWithout_81 rfl (lv_at hl 3 rfl) ?_
          refine g_get hC hP hco.1 rfl inX0 3 (by decide) q1_65 hco.2.2.1 dX0_gapsWithout_82 ?_
          refine lv_iconst (v := nI 0) hx hb dX0_gapsWithout_85 (by decide) ?_
          refine g_aaldG hC hP hco.2.2.2.2.1 (vp_in_nI (by omega) (by decide)) (v := .ref (k + 5)) (by first | exact e0 | exact coG_q hco (j := 0) (by omega)) dX0_gapsWithout_86 ?_
          refine lv_iload_n hx hb dX0_gapsWithout_87 rfl (lv_at hl 2 rfl) ?_
          refine g_lald hC hP hg0 (vp_in_nI (by omega) (by decide)) dX0_gapsWithout_88 ?_
          refine g_topl (y := J (k + 5) 0) rfl ?_
          refine lv_aload_n hx hb dX0_gapsWithout_89 rfl (lv_at hl 3 rfl) ?_
          refine lv_iconst (v := nI 1) hx hb dX0_gapsWithout_90 (by decide) ?_
          refine lv_iconst (v := nI 2) hx hb dX0_gapsWithout_91 (by decide) ?_
          refine lv_iload hx hb dX0_gapsWithout_92 (lv_at hl 1 rfl) ?_
          refine lv_iload hx hb dX0_gapsWithout_94 (lv_at hl 0 rfl) ?_
          refine g_cp (g_rV (As := [.int (nI 1), .int (nI 2), .int (nI 2), .int (nI 2)]) hC hP (c_X0_twoLines l hP (k := k) (x := 1) (y := 2) (a := 2) (d := 2) (by first | assumption | omega) (by first | assumption | omega) (by first | assumption | omega) (by first | assumption | omega) (by first | assumption | omega)) hco.1 rfl ⟨q2_122, q2_119, q2_121, qs_15, q1_3⟩ dd_X0_twoLines ⟨Nat.le_of_ble_eq_true rfl, Nat.le_of_ble_eq_true rfl, rfl, rfl⟩ hl.1 rfl (Nat.le_of_ble_eq_true rfl) dX0_gapsWithout_96 ⟨Nat.le_of_ble_eq_true rfl, Nat.le_of_ble_eq_true rfl⟩) ?_
          refine W.eq (g2 := F0 m 99 ls [.long (det2 (fun q => J (k + 5 + q)) 1 2 2 2), .long (J (k + 5) 0)]) rfl ?_
          refine lv_lmul hx hb dX0_gapsWithout_99 ?_
          refine lv_aload_n hx hb dX0_gapsWithout_100 rfl (lv_at hl 3 rfl) ?_
          refine g_get hC hP hco.1 rfl inX0 3 (by decide) q1_65 hco.2.2.1 dX0_gapsWithout_101 ?_
          refine lv_iconst (v := nI 0) hx hb dX0_gapsWithout_104 (by decide) ?_
          refine g_aaldG hC hP hco.2.2.2.2.1 (vp_in_nI (by omega) (by decide)) (v := .ref (k + 5)) (by first | exact e0 | exact coG_q hco (j := 0) (by omega)) dX0_gapsWithout_105 ?_
          refine lv_iload hx hb dX0_gapsWithout_106 (lv_at hl 1 rfl) ?_
          refine g_lald hC hP hg0 (vp_in_nI (by omega) (by decide)) dX0_gapsWithout_108 ?_
          refine g_topl (y := J (k + 5) 2) rfl ?_
          refine lv_aload_n hx hb dX0_gapsWithout_109 rfl (lv_at hl 3 rfl) ?_
          refine lv_iconst (v := nI 1) hx hb dX0_gapsWithout_110 (by decide) ?_
          refine lv_iconst (v := nI 2) hx hb dX0_gapsWithout_111 (by decide) ?_
          refine lv_iload_n hx hb dX0_gapsWithout_112 rfl (lv_at hl 2 rfl) ?_
          refine lv_iload hx hb dX0_gapsWithout_113 (lv_at hl 0 rfl) ?_
          refine g_cp (g_rV (As := [.int (nI 1), .int (nI 2), .int (nI 0), .int (nI 2)]) hC hP (c_X0_twoLines l hP (k := k) (x := 1) (y := 2) (a := 0) (d := 2) (by first | assumption | omega) (by first | assumption | omega) (by first | assumption | omega) (by first | assumption | omega) (by first | assumption | omega)) hco.1 rfl ⟨q2_122, q2_119, q2_121, qs_15, q1_3⟩ dd_X0_twoLines ⟨Nat.le_of_ble_eq_true rfl, Nat.le_of_ble_eq_true rfl, rfl, rfl⟩ hl.1 rfl (Nat.le_of_ble_eq_true rfl) dX0_gapsWithout_115 ⟨Nat.le_of_ble_eq_true rfl, Nat.le_of_ble_eq_true rfl⟩) ?_
          refine W.eq (g2 := F0 m 118 ls [.long (det2 (fun q => J (k + 5 + q)) 1 2 0 2), .long (J (k + 5) 2), .long ((J (k + 5) 0) * (det2 (fun q => J (k + 5 + q)) 1 2 2 2))]) rfl ?_
          refine lv_lmul hx hb dX0_gapsWithout_118 ?_
          refine lv_lsub hx hb dX0_gapsWithout_119 ?_
          refine lv_aload_n hx hb dX0_gapsWithout_120 rfl (lv_at hl 3 rfl) ?_
          refine g_get hC hP hco.1 rfl inX0 3 (by decide) q1_65 hco.2.2.1 dX0_gapsWithout_121 ?_
          refine lv_iconst (v := nI 0) hx hb dX0_gapsWithout_124 (by decide) ?_
          refine g_aaldG hC hP hco.2.2.2.2.1 (vp_in_nI (by omega) (by decide)) (v := .ref (k + 5)) (by first | exact e0 | exact coG_q hco (j := 0) (by omega)) dX0_gapsWithout_125 ?_
          refine lv_iload hx hb dX0_gapsWithout_126 (lv_at hl 0 rfl) ?_
          refine g_lald hC hP hg0 (vp_in_nI (by omega) (by decide)) dX0_gapsWithout_128 ?_
          refine g_topl (y := J (k + 5) 2) rfl ?_
          refine lv_aload_n hx hb dX0_gapsWithout_129 rfl (lv_at hl 3 rfl) ?_
          refine lv_iconst (v := nI 1) hx hb dX0_gapsWithout_130 (by decide) ?_
          refine lv_iconst (v := nI 2) hx hb dX0_gapsWithout_131 (by decide) ?_
          refine lv_iload_n hx hb dX0_gapsWithout_132 rfl (lv_at hl 2 rfl) ?_
          refine lv_iload hx hb dX0_gapsWithout_133 (lv_at hl 1 rfl) ?_
          refine g_cp (g_rV (As := [.int (nI 1), .int (nI 2), .int (nI 0), .int (nI 2)]) hC hP (c_X0_twoLines l hP (k := k) (x := 1) (y := 2) (a := 0) (d := 2) (by first | assumption | omega) (by first | assumption | omega) (by first | assumption | omega) (by first | assumption | omega) (by first | assumption | omega)) hco.1 rfl ⟨q2_122, q2_119, q2_121, qs_15, q1_3⟩ dd_X0_twoLines ⟨Nat.le_of_ble_eq_true rfl, Nat.le_of_ble_eq_true rfl, rfl, rfl⟩ hl.1 rfl (Nat.le_of_ble_eq_true rfl) dX0_gapsWithout_135 ⟨Nat.le_of_ble_eq_true rfl, Nat.le_of_ble_eq_true rfl⟩) ?_
          refine W.eq (g2 := F0 m 138 ls [.long (det2 (fun q => J (k + 5 + q)) 1 2 0 2), .long (J (k + 5) 2), .long (((J (k + 5) 0) * (det2 (fun q => J (k + 5 + q)) 1 2 2 2)) - ((J (k + 5) 2) * (det2 (fun q => J (k + 5 + q)) 1 2 0 2)))]) rfl ?_
          refine lv_lmul hx hb dX0_gapsWithout_138 ?_
          refine lv_ladd hx hb dX0_gapsWithout_139 ?_
          refine g_retl hC hs ?_ dX0_gapsWithout_140
          first | subst hsw | obtain rfl : ln = 3 := by omega
          simp only [detS, ea, eb, ec]
          try rfl
    · have c12 := mt (nI_leI (by omega) (by omega)).mpr c12
      have eb : detB pl = 1 := if_pos (by omega)
      refine lv_iconst (v := nI 1) hx hb dX0_gapsWithout_15 (by decide) ?_
      refine lv_goto (tgt := 20) hx hb dX0_gapsWithout_16 (by decide) ?_
      refine lv_istore (lv' := [(4, .int (nI 1)), (3, .int (nI 0)), (0, .ref k), (1, .int (nI pl)), (2, .int (nI ln))]) hx hb dX0_gapsWithout_20 hl (by decide) rfl (fun ls hl => ?_)
      refine lv_iload_n hx hb dX0_gapsWithout_22 rfl (lv_at hl 3 rfl) ?_
      refine lv_iconst (v := nI 2) hx hb dX0_gapsWithout_23 (by decide) ?_
      refine lv_icmp_le (tgt := 31) hx hb dX0_gapsWithout_24 (by decide) (fun c24 => ?_) (fun c24 => ?_)
      · have c24 := (nI_leI (by omega) (by omega)).mp c24
        have ec : detC pl = 3 := if_neg (by omega)
        refine lv_iconst (v := nI 3) hx hb dX0_gapsWithout_31 (by decide) ?_
        refine lv_istore (lv' := [(5, .int (nI 3)), (4, .int (nI 1)), (3, .int (nI 0)), (0, .ref k), (1, .int (nI pl)), (2, .int (nI ln))]) hx hb dX0_gapsWithout_32 hl (by decide) rfl (fun ls hl => ?_)
        refine lv_iload_n hx hb dX0_gapsWithout_34 rfl (lv_at hl 5 rfl) ?_
        rcases (show ln = 0 ∨ ln = 1 ∨ ln = 2 ∨ 2 < ln by omega) with hsw | hsw | hsw | hsw
        · refine lv_tableIn (tgt := 60) (off := 25) hx hb dX0_gapsWithout_35 (by rw [hsw]; decide) (by rw [hsw]; decide) (by rw [hsw]; decide) (by decide) ?_
          refine lv_lconst (v := 1) hx hb dX0_gapsWithout_60 (by decide) ?_
          refine g_retl hC hs ?_ dX0_gapsWithout_61
          first | subst hsw | obtain rfl : ln = 3 := by omega
          simp only [detS, ea, eb, ec]
          try rfl
        · refine lv_tableIn (tgt := 62) (off := 27) hx hb dX0_gapsWithout_35 (by rw [hsw]; decide) (by rw [hsw]; decide) (by rw [hsw]; decide) (by decide) ?_
          refine lv_aload_n hx hb dX0_gapsWithout_62 rfl (lv_at hl 3 rfl) ?_
          refine g_get hC hP hco.1 rfl inX0 3 (by decide) q1_65 hco.2.2.1 dX0_gapsWithout_63 ?_
          refine lv_iconst (v := nI 0) hx hb dX0_gapsWithout_66 (by decide) ?_
          refine g_aaldG hC hP hco.2.2.2.2.1 (vp_in_nI (by omega) (by decide)) (v := .ref (k + 5)) (by first | exact e0 | exact coG_q hco (j := 0) (by omega)) dX0_gapsWithout_67 ?_
          refine lv_iload_n hx hb dX0_gapsWithout_68 rfl (lv_at hl 2 rfl) ?_
          refine g_lald hC hP hg0 (vp_in_nI (by omega) (by decide)) dX0_gapsWithout_69 ?_
          refine g_topl (y := J (k + 5) 0) rfl ?_
          refine g_retl hC hs ?_ dX0_gapsWithout_70
          first | subst hsw | obtain rfl : ln = 3 := by omega
          simp only [detS, ea, eb, ec]
          try rfl
        · refine lv_tableIn (tgt := 71) (off := 36) hx hb dX0_gapsWithout_35 (by rw [hsw]; decide) (by rw [hsw]; decide) (by rw [hsw]; decide) (by decide) ?_
          refine lv_aload_n hx hb dX0_gapsWithout_71 rfl (lv_at hl 3 rfl) ?_
          refine lv_iconst (v := nI 0) hx hb dX0_gapsWithout_72 (by decide) ?_
          refine lv_iconst (v := nI 1) hx hb dX0_gapsWithout_73 (by decide) ?_
          refine lv_iload_n hx hb dX0_gapsWithout_74 rfl (lv_at hl 2 rfl) ?_
          refine lv_iload hx hb dX0_gapsWithout_75 (lv_at hl 1 rfl) ?_
          refine g_cp (g_rV (As := [.int (nI 0), .int (nI 1), .int (nI 0), .int (nI 1)]) hC hP (c_X0_twoLines l hP (k := k) (x := 0) (y := 1) (a := 0) (d := 1) (by first | assumption | omega) (by first | assumption | omega) (by first | assumption | omega) (by first | assumption | omega) (by first | assumption | omega)) hco.1 rfl ⟨q2_122, q2_119, q2_121, qs_15, q1_3⟩ dd_X0_twoLines ⟨Nat.le_of_ble_eq_true rfl, Nat.le_of_ble_eq_true rfl, rfl, rfl⟩ hl.1 rfl (Nat.le_of_ble_eq_true rfl) dX0_gapsWithout_77 ⟨Nat.le_of_ble_eq_true rfl, Nat.le_of_ble_eq_true rfl⟩) ?_
          refine W.eq (g2 := F0 m 80 ls [.long (det2 (fun q => J (k + 5 + q)) 0 1 0 1)]) rfl ?_
          refine g_retl hC hs ?_ dX0_gapsWithout_80
          first | subst hsw | obtain rfl : ln = 3 := by omega
          simp only [detS, ea, eb, ec]
          try rfl
        · refine lv_tableOut (tgt := 81) hx hb dX0_gapsWithout_35 (Or.inr (by rw [nI_toInt (by omega)]; omega)) (by decide) ?_
          refine lv_aload_n hx hb dX0_gapsWithout_81 rfl (lv_at hl 3 rfl) ?_
          refine g_get hC hP hco.1 rfl inX0 3 (by decide) q1_65 hco.2.2.1 dX0_gapsWithout_82 ?_
          refine lv_iconst (v := nI 0) hx hb dX0_gapsWithout_85 (by decide) ?_
          refine g_aaldG hC hP hco.2.2.2.2.1 (vp_in_nI (by omega) (by decide)) (v := .ref (k + 5)) (by first | exact e0 | exact coG_q hco (j := 0) (by omega)) dX0_gapsWithout_86 ?_
          refine lv_iload_n hx hb dX0_gapsWithout_87 rfl (lv_at hl 2 rfl) ?_
          refine g_lald hC hP hg0 (vp_in_nI (by omega) (by decide)) dX0_gapsWithout_88 ?_
          refine g_topl (y := J (k + 5) 0) rfl ?_
          refine lv_aload_n hx hb dX0_gapsWithout_89 rfl (lv_at hl 3 rfl) ?_
          refine lv_iconst (v := nI 1) hx hb dX0_gapsWithout_90 (by decide) ?_
          refine lv_iconst (v := nI 2) hx hb dX0_gapsWithout_91 (by decide) ?_
          refine lv_iload hx hb dX0_gapsWithout_92 (lv_at hl 1 rfl) ?_
          refine lv_iload hx hb dX0_gapsWithout_94 (lv_at hl 0 rfl) ?_
          refine g_cp (g_rV (As := [.int (nI 1), .int (nI 2), .int (nI 1), .int (nI 3)]) hC hP (c_X0_twoLines l hP (k := k) (x := 1) (y := 2) (a := 1) (d := 3) (by first | assumption | omega) (by first | assumption | omega) (by first | assumption | omega) (by first | assumption | omega) (by first | assumption | omega)) hco.1 rfl ⟨q2_122, q2_119, q2_121, qs_15, q1_3⟩ dd_X0_twoLines ⟨Nat.le_of_ble_eq_true rfl, Nat.le_of_ble_eq_true rfl, rfl, rfl⟩ hl.1 rfl (Nat.le_of_ble_eq_true rfl) dX0_gapsWithout_96 ⟨Nat.le_of_ble_eq_true rfl, Nat.le_of_ble_eq_true rfl⟩) ?_
          refine W.eq (g2 := F0 m 99 ls [.long (det2 (fun q => J (k + 5 + q)) 1 2 1 3), .long (J (k + 5) 0)]) rfl ?_
          refine lv_lmul hx hb dX0_gapsWithout_99 ?_
          refine lv_aload_n hx hb dX0_gapsWithout_100 rfl (lv_at hl 3 rfl) ?_
          refine g_get hC hP hco.1 rfl inX0 3 (by decide) q1_65 hco.2.2.1 dX0_gapsWithout_101 ?_
          refine lv_iconst (v := nI 0) hx hb dX0_gapsWithout_104 (by decide) ?_
          refine g_aaldG hC hP hco.2.2.2.2.1 (vp_in_nI (by omega) (by decide)) (v := .ref (k + 5)) (by first | exact e0 | exact coG_q hco (j := 0) (by omega)) dX0_gapsWithout_105 ?_
          refine lv_iload hx hb dX0_gapsWithout_106 (lv_at hl 1 rfl) ?_
          refine g_lald hC hP hg0 (vp_in_nI (by omega) (by decide)) dX0_gapsWithout_108 ?_
          refine g_topl (y := J (k + 5) 1) rfl ?_
          refine lv_aload_n hx hb dX0_gapsWithout_109 rfl (lv_at hl 3 rfl) ?_
          refine lv_iconst (v := nI 1) hx hb dX0_gapsWithout_110 (by decide) ?_
          refine lv_iconst (v := nI 2) hx hb dX0_gapsWithout_111 (by decide) ?_
          refine lv_iload_n hx hb dX0_gapsWithout_112 rfl (lv_at hl 2 rfl) ?_
          refine lv_iload hx hb dX0_gapsWithout_113 (lv_at hl 0 rfl) ?_
          refine g_cp (g_rV (As := [.int (nI 1), .int (nI 2), .int (nI 0), .int (nI 3)]) hC hP (c_X0_twoLines l hP (k := k) (x := 1) (y := 2) (a := 0) (d := 3) (by first | assumption | omega) (by first | assumption | omega) (by first | assumption | omega) (by first | assumption | omega) (by first | assumption | omega)) hco.1 rfl ⟨q2_122, q2_119, q2_121, qs_15, q1_3⟩ dd_X0_twoLines ⟨Nat.le_of_ble_eq_true rfl, Nat.le_of_ble_eq_true rfl, rfl, rfl⟩ hl.1 rfl (Nat.le_of_ble_eq_true rfl) dX0_gapsWithout_115 ⟨Nat.le_of_ble_eq_true rfl, Nat.le_of_ble_eq_true rfl⟩) ?_
          refine W.eq (g2 := F0 m 118 ls [.long (det2 (fun q => J (k + 5 + q)) 1 2 0 3), .long (J (k + 5) 1), .long ((J (k + 5) 0) * (det2 (fun q => J (k + 5 + q)) 1 2 1 3))]) rfl ?_
          refine lv_lmul hx hb dX0_gapsWithout_118 ?_
          refine lv_lsub hx hb dX0_gapsWithout_119 ?_
          refine lv_aload_n hx hb dX0_gapsWithout_120 rfl (lv_at hl 3 rfl) ?_
          refine g_get hC hP hco.1 rfl inX0 3 (by decide) q1_65 hco.2.2.1 dX0_gapsWithout_121 ?_
          refine lv_iconst (v := nI 0) hx hb dX0_gapsWithout_124 (by decide) ?_
          refine g_aaldG hC hP hco.2.2.2.2.1 (vp_in_nI (by omega) (by decide)) (v := .ref (k + 5)) (by first | exact e0 | exact coG_q hco (j := 0) (by omega)) dX0_gapsWithout_125 ?_
          refine lv_iload hx hb dX0_gapsWithout_126 (lv_at hl 0 rfl) ?_
          refine g_lald hC hP hg0 (vp_in_nI (by omega) (by decide)) dX0_gapsWithout_128 ?_
          refine g_topl (y := J (k + 5) 3) rfl ?_
          refine lv_aload_n hx hb dX0_gapsWithout_129 rfl (lv_at hl 3 rfl) ?_
          refine lv_iconst (v := nI 1) hx hb dX0_gapsWithout_130 (by decide) ?_
          refine lv_iconst (v := nI 2) hx hb dX0_gapsWithout_131 (by decide) ?_
          refine lv_iload_n hx hb dX0_gapsWithout_132 rfl (lv_at hl 2 rfl) ?_
          refine lv_iload hx hb dX0_gapsWithout_133 (lv_at hl 1 rfl) ?_
          refine g_cp (g_rV (As := [.int (nI 1), .int (nI 2), .int (nI 0), .int (nI 1)]) hC hP (c_X0_twoLines l hP (k := k) (x := 1) (y := 2) (a := 0) (d := 1) (by first | assumption | omega) (by first | assumption | omega) (by first | assumption | omega) (by first | assumption | omega) (by first | assumption | omega)) hco.1 rfl ⟨q2_122, q2_119, q2_121, qs_15, q1_3⟩ dd_X0_twoLines ⟨Nat.le_of_ble_eq_true rfl, Nat.le_of_ble_eq_true rfl, rfl, rfl⟩ hl.1 rfl (Nat.le_of_ble_eq_true rfl) dX0_gapsWithout_135 ⟨Nat.le_of_ble_eq_true rfl, Nat.le_of_ble_eq_true rfl⟩) ?_
          refine W.eq (g2 := F0 m 138 ls [.long (det2 (fun q => J (k + 5 + q)) 1 2 0 1), .long (J (k + 5) 3), .long (((J (k + 5) 0) * (det2 (fun q => J (k + 5 + q)) 1 2 1 3)) - ((J (k + 5) 1) * (det2 (fun q => J (k + 5 + q)) 1 2 0 3)))]) rfl ?_
          refine lv_lmul hx hb dX0_gapsWithout_138 ?_
          refine lv_ladd hx hb dX0_gapsWithout_139 ?_
          refine g_retl hC hs ?_ dX0_gapsWithout_140
          first | subst hsw | obtain rfl : ln = 3 := by omega
          simp only [detS, ea, eb, ec]
          try rfl
      · have c24 := mt (nI_leI (by omega) (by omega)).mpr c24
        have ec : detC pl = 2 := if_pos (by omega)
        refine lv_iconst (v := nI 2) hx hb dX0_gapsWithout_27 (by decide) ?_
        refine lv_goto (tgt := 32) hx hb dX0_gapsWithout_28 (by decide) ?_
        refine lv_istore (lv' := [(5, .int (nI 2)), (4, .int (nI 1)), (3, .int (nI 0)), (0, .ref k), (1, .int (nI pl)), (2, .int (nI ln))]) hx hb dX0_gapsWithout_32 hl (by decide) rfl (fun ls hl => ?_)
        refine lv_iload_n hx hb dX0_gapsWithout_34 rfl (lv_at hl 5 rfl) ?_
        rcases (show ln = 0 ∨ ln = 1 ∨ ln = 2 ∨ 2 < ln by omega) with hsw | hsw | hsw | hsw
        · refine lv_tableIn (tgt := 60) (off := 25) hx hb dX0_gapsWithout_35 (by rw [hsw]; decide) (by rw [hsw]; decide) (by rw [hsw]; decide) (by decide) ?_
          refine lv_lconst (v := 1) hx hb dX0_gapsWithout_60 (by decide) ?_
          refine g_retl hC hs ?_ dX0_gapsWithout_61
          first | subst hsw | obtain rfl : ln = 3 := by omega
          simp only [detS, ea, eb, ec]
          try rfl
        · refine lv_tableIn (tgt := 62) (off := 27) hx hb dX0_gapsWithout_35 (by rw [hsw]; decide) (by rw [hsw]; decide) (by rw [hsw]; decide) (by decide) ?_
          refine lv_aload_n hx hb dX0_gapsWithout_62 rfl (lv_at hl 3 rfl) ?_
          refine g_get hC hP hco.1 rfl inX0 3 (by decide) q1_65 hco.2.2.1 dX0_gapsWithout_63 ?_
          refine lv_iconst (v := nI 0) hx hb dX0_gapsWithout_66 (by decide) ?_
          refine g_aaldG hC hP hco.2.2.2.2.1 (vp_in_nI (by omega) (by decide)) (v := .ref (k + 5)) (by first | exact e0 | exact coG_q hco (j := 0) (by omega)) dX0_gapsWithout_67 ?_
          refine lv_iload_n hx hb dX0_gapsWithout_68 rfl (lv_at hl 2 rfl) ?_
          refine g_lald hC hP hg0 (vp_in_nI (by omega) (by decide)) dX0_gapsWithout_69 ?_
          refine g_topl (y := J (k + 5) 0) rfl ?_
          refine g_retl hC hs ?_ dX0_gapsWithout_70
          first | subst hsw | obtain rfl : ln = 3 := by omega
          simp only [detS, ea, eb, ec]
          try rfl
        · refine lv_tableIn (tgt := 71) (off := 36) hx hb dX0_gapsWithout_35 (by rw [hsw]; decide) (by rw [hsw]; decide) (by rw [hsw]; decide) (by decide) ?_
          refine lv_aload_n hx hb dX0_gapsWithout_71 rfl (lv_at hl 3 rfl) ?_
          refine lv_iconst (v := nI 0) hx hb dX0_gapsWithout_72 (by decide) ?_
          refine lv_iconst (v := nI 1) hx hb dX0_gapsWithout_73 (by decide) ?_
          refine lv_iload_n hx hb dX0_gapsWithout_74 rfl (lv_at hl 2 rfl) ?_
          refine lv_iload hx hb dX0_gapsWithout_75 (lv_at hl 1 rfl) ?_
          refine g_cp (g_rV (As := [.int (nI 0), .int (nI 1), .int (nI 0), .int (nI 1)]) hC hP (c_X0_twoLines l hP (k := k) (x := 0) (y := 1) (a := 0) (d := 1) (by first | assumption | omega) (by first | assumption | omega) (by first | assumption | omega) (by first | assumption | omega) (by first | assumption | omega)) hco.1 rfl ⟨q2_122, q2_119, q2_121, qs_15, q1_3⟩ dd_X0_twoLines ⟨Nat.le_of_ble_eq_true rfl, Nat.le_of_ble_eq_true rfl, rfl, rfl⟩ hl.1 rfl (Nat.le_of_ble_eq_true rfl) dX0_gapsWithout_77 ⟨Nat.le_of_ble_eq_true rfl, Nat.le_of_ble_eq_true rfl⟩) ?_
          refine W.eq (g2 := F0 m 80 ls [.long (det2 (fun q => J (k + 5 + q)) 0 1 0 1)]) rfl ?_
          refine g_retl hC hs ?_ dX0_gapsWithout_80
          first | subst hsw | obtain rfl : ln = 3 := by omega
          simp only [detS, ea, eb, ec]
          try rfl
        · refine lv_tableOut (tgt := 81) hx hb dX0_gapsWithout_35 (Or.inr (by rw [nI_toInt (by omega)]; omega)) (by decide) ?_
          refine lv_aload_n hx hb dX0_gapsWithout_81 rfl (lv_at hl 3 rfl) ?_
          refine g_get hC hP hco.1 rfl inX0 3 (by decide) q1_65 hco.2.2.1 dX0_gapsWithout_82 ?_
          refine lv_iconst (v := nI 0) hx hb dX0_gapsWithout_85 (by decide) ?_
          refine g_aaldG hC hP hco.2.2.2.2.1 (vp_in_nI (by omega) (by decide)) (v := .ref (k + 5)) (by first | exact e0 | exact coG_q hco (j := 0) (by omega)) dX0_gapsWithout_86 ?_
          refine lv_iload_n hx hb dX0_gapsWithout_87 rfl (lv_at hl 2 rfl) ?_
          refine g_lald hC hP hg0 (vp_in_nI (by omega) (by decide)) dX0_gapsWithout_88 ?_
          refine g_topl (y := J (k + 5) 0) rfl ?_
          refine lv_aload_n hx hb dX0_gapsWithout_89 rfl (lv_at hl 3 rfl) ?_
          refine lv_iconst (v := nI 1) hx hb dX0_gapsWithout_90 (by decide) ?_
          refine lv_iconst (v := nI 2) hx hb dX0_gapsWithout_91 (by decide) ?_
          refine lv_iload hx hb dX0_gapsWithout_92 (lv_at hl 1 rfl) ?_
          refine lv_iload hx hb dX0_gapsWithout_94 (lv_at hl 0 rfl) ?_
          refine g_cp (g_rV (As := [.int (nI 1), .int (nI 2), .int (nI 1), .int (nI 2)]) hC hP (c_X0_twoLines l hP (k := k) (x := 1) (y := 2) (a := 1) (d := 2) (by first | assumption | omega) (by first | assumption | omega) (by first | assumption | omega) (by first | assumption | omega) (by first | assumption | omega)) hco.1 rfl ⟨q2_122, q2_119, q2_121, qs_15, q1_3⟩ dd_X0_twoLines ⟨Nat.le_of_ble_eq_true rfl, Nat.le_of_ble_eq_true rfl, rfl, rfl⟩ hl.1 rfl (Nat.le_of_ble_eq_true rfl) dX0_gapsWithout_96 ⟨Nat.le_of_ble_eq_true rfl, Nat.le_of_ble_eq_true rfl⟩) ?_
          refine W.eq (g2 := F0 m 99 ls [.long (det2 (fun q => J (k + 5 + q)) 1 2 1 2), .long (J (k + 5) 0)]) rfl ?_
          refine lv_lmul hx hb dX0_gapsWithout_99 ?_
          refine lv_aload_n hx hb dX0_gapsWithout_100 rfl (lv_at hl 3 rfl) ?_
          refine g_get hC hP hco.1 rfl inX0 3 (by decide) q1_65 hco.2.2.1 dX0_gapsWithout_101 ?_
          refine lv_iconst (v := nI 0) hx hb dX0_gapsWithout_104 (by decide) ?_
          refine g_aaldG hC hP hco.2.2.2.2.1 (vp_in_nI (by omega) (by decide)) (v := .ref (k + 5)) (by first | exact e0 | exact coG_q hco (j := 0) (by omega)) dX0_gapsWithout_105 ?_
          refine lv_iload hx hb dX0_gapsWithout_106 (lv_at hl 1 rfl) ?_
          refine g_lald hC hP hg0 (vp_in_nI (by omega) (by decide)) dX0_gapsWithout_108 ?_
          refine g_topl (y := J (k + 5) 1) rfl ?_
          refine lv_aload_n hx hb dX0_gapsWithout_109 rfl (lv_at hl 3 rfl) ?_
          refine lv_iconst (v := nI 1) hx hb dX0_gapsWithout_110 (by decide) ?_
          refine lv_iconst (v := nI 2) hx hb dX0_gapsWithout_111 (by decide) ?_
          refine lv_iload_n hx hb dX0_gapsWithout_112 rfl (lv_at hl 2 rfl) ?_
          refine lv_iload hx hb dX0_gapsWithout_113 (lv_at hl 0 rfl) ?_
          refine g_cp (g_rV (As := [.int (nI 1), .int (nI 2), .int (nI 0), .int (nI 2)]) hC hP (c_X0_twoLines l hP (k := k) (x := 1) (y := 2) (a := 0) (d := 2) (by first | assumption | omega) (by first | assumption | omega) (by first | assumption | omega) (by first | assumption | omega) (by first | assumption | omega)) hco.1 rfl ⟨q2_122, q2_119, q2_121, qs_15, q1_3⟩ dd_X0_twoLines ⟨Nat.le_of_ble_eq_true rfl, Nat.le_of_ble_eq_true rfl, rfl, rfl⟩ hl.1 rfl (Nat.le_of_ble_eq_true rfl) dX0_gapsWithout_115 ⟨Nat.le_of_ble_eq_true rfl, Nat.le_of_ble_eq_true rfl⟩) ?_
          refine W.eq (g2 := F0 m 118 ls [.long (det2 (fun q => J (k + 5 + q)) 1 2 0 2), .long (J (k + 5) 1), .long ((J (k + 5) 0) * (det2 (fun q => J (k + 5 + q)) 1 2 1 2))]) rfl ?_
          refine lv_lmul hx hb dX0_gapsWithout_118 ?_
          refine lv_lsub hx hb dX0_gapsWithout_119 ?_
          refine lv_aload_n hx hb dX0_gapsWithout_120 rfl (lv_at hl 3 rfl) ?_
          refine g_get hC hP hco.1 rfl inX0 3 (by decide) q1_65 hco.2.2.1 dX0_gapsWithout_121 ?_
          refine lv_iconst (v := nI 0) hx hb dX0_gapsWithout_124 (by decide) ?_
          refine g_aaldG hC hP hco.2.2.2.2.1 (vp_in_nI (by omega) (by decide)) (v := .ref (k + 5)) (by first | exact e0 | exact coG_q hco (j := 0) (by omega)) dX0_gapsWithout_125 ?_
          refine lv_iload hx hb dX0_gapsWithout_126 (lv_at hl 0 rfl) ?_
          refine g_lald hC hP hg0 (vp_in_nI (by omega) (by decide)) dX0_gapsWithout_128 ?_
          refine g_topl (y := J (k + 5) 2) rfl ?_
          refine lv_aload_n hx hb dX0_gapsWithout_129 rfl (lv_at hl 3 rfl) ?_
          refine lv_iconst (v := nI 1) hx hb dX0_gapsWithout_130 (by decide) ?_
          refine lv_iconst (v := nI 2) hx hb dX0_gapsWithout_131 (by decide) ?_
          refine lv_iload_n hx hb dX0_gapsWithout_132 rfl (lv_at hl 2 rfl) ?_
          refine lv_iload hx hb dX0_gapsWithout_133 (lv_at hl 1 rfl) ?_
          refine g_cp (g_rV (As := [.int (nI 1), .int (nI 2), .int (nI 0), .int (nI 1)]) hC hP (c_X0_twoLines l hP (k := k) (x := 1) (y := 2) (a := 0) (d := 1) (by first | assumption | omega) (by first | assumption | omega) (by first | assumption | omega) (by first | assumption | omega) (by first | assumption | omega)) hco.1 rfl ⟨q2_122, q2_119, q2_121, qs_15, q1_3⟩ dd_X0_twoLines ⟨Nat.le_of_ble_eq_true rfl, Nat.le_of_ble_eq_true rfl, rfl, rfl⟩ hl.1 rfl (Nat.le_of_ble_eq_true rfl) dX0_gapsWithout_135 ⟨Nat.le_of_ble_eq_true rfl, Nat.le_of_ble_eq_true rfl⟩) ?_
          refine W.eq (g2 := F0 m 138 ls [.long (det2 (fun q => J (k + 5 + q)) 1 2 0 1), .long (J (k + 5) 2), .long (((J (k + 5) 0) * (det2 (fun q => J (k + 5 + q)) 1 2 1 2)) - ((J (k + 5) 1) * (det2 (fun q => J (k + 5 + q)) 1 2 0 2)))]) rfl ?_
          refine lv_lmul hx hb dX0_gapsWithout_138 ?_
          refine lv_ladd hx hb dX0_gapsWithout_139 ?_
          refine g_retl hC hs ?_ dX0_gapsWithout_140
          first | subst hsw | obtain rfl : ln = 3 := by omega
          simp only [detS, ea, eb, ec]
          try rfl
set_option maxHeartbeats 4000000 in
set_option maxRecDepth 100000 in
theorem c_X3_meanPart (l : Launch) {G : gG} {T : gTy} {I : gI} {J : gJ} {Q : gR} {O : gO} {H : Heap} (hP : gP G T I J Q O H) {b ch x y u n u2 n2 : Nat} {t t2 : Int64} {q : Int32} (hpl : isPl T O b ch) (hmx : isMx T O x) (hmv : mxV O x t u n) (hmy : isMx T O y) (hmw : mxV O y t2 u2 n2) : Met l yX3_meanPart (gw yX3_meanPart cX3_meanPart 7 (some (.long))) ({ frames := 2, cells := 0, slots := 0, locals := 56 } : Room) (gPc G H [.ref b, .ref x, .ref y, .int q]) (gQp (some (.long (lowS (msum (I (b + 9)) (J (x + 1)) (J (y + 1)) ch) (t * t2) q)))) 0 0 (fun _ => False) := by
  refine g_met [(0, .ref b), (1, .ref x), (2, .ref y), (3, .int q)] (by decide) rfl (by exact Nat.le_of_ble_eq_true rfl) ?_
  intro p e s m below meth c hC hs ls hl
  have hx := hC.1.1
  have hb := hC.1.2.1
  have hpl_lo := hpl.2.2.2.2.2.2.2.2.1
  have hpl_hi := hpl.2.2.2.2.2.2.2.2.2
  refine lv_lconst (v := 0) hx hb dX3_meanPart_0 (by decide) ?_
  refine lv_lstore (lv' := [(4, .long (0 : Int64)), (0, .ref b), (1, .ref x), (2, .ref y), (3, .int q)]) hx hb dX3_meanPart_1 hl (by decide) rfl (fun ls hl => ?_)
  refine lv_iconst (v := nI 0) hx hb dX3_meanPart_3 (by decide) ?_
  refine lv_istore (lv' := [(6, .int (nI 0)), (4, .long (0 : Int64)), (0, .ref b), (1, .ref x), (2, .ref y), (3, .int q)]) hx hb dX3_meanPart_4 hl (by decide) rfl (fun ls hl => ?_)
  have L6 : ∀ (n6 : Nat) (i : Nat) (v : Int64), 5 ≤ n6 + i → (i ≤ ch) → (v = msum (I (b + 9)) (J (x + 1)) (J (y + 1)) i) → ∀ ls : Array Slot, lv_has ls 7 [(0, .ref b), (1, .ref x), (2, .ref y), (3, .int q), (4, .long v), (6, .int (nI i))] → W p l e ({ frames := 2, cells := 0, slots := 0, locals := 56 } : Room) s m [.ref b, .ref x, .ref y, .int q].toArray below meth c H [] 0 0 (MQ below (gQp (some (.long (lowS (msum (I (b + 9)) (J (x + 1)) (J (y + 1)) ch) (t * t2) q)))) [.ref b, .ref x, .ref y, .int q].toArray s 0 0 (fun _ => False)) (F0 m 6 ls []) := by
    intro n6
    induction n6 with
    | zero => intro i v hn6 hi h1; exact absurd hn6 (by omega)
    | succ n6 ih6 =>
      intro i v hn6 hi h1 ls hl
      refine lv_iload hx hb dX3_meanPart_6 (lv_at hl 5 rfl) ?_
      refine lv_aload_n hx hb dX3_meanPart_8 rfl (lv_at hl 0 rfl) ?_
      refine g_get hC hP hpl.1 rfl inX3 0 (by decide) q1_77 hpl.2.1 dX3_meanPart_9 ?_
      refine lv_icmp_ge (tgt := 41) hx hb dX3_meanPart_12 (by decide) (fun c12 => ?_) (fun c12 => ?_)
      · have c12 := (nI_leI (by omega) (by omega)).mp c12
        refine lv_lload hx hb dX3_meanPart_41 (lv_at hl 4 rfl) ?_
        refine lv_aload_n hx hb dX3_meanPart_43 rfl (lv_at hl 1 rfl) ?_
        refine g_get hC hP hmx.1 rfl inX2 1 (by decide) q1_41 hmv.1 dX3_meanPart_44 ?_
        refine lv_aload_n hx hb dX3_meanPart_47 rfl (lv_at hl 2 rfl) ?_
        refine g_get hC hP hmy.1 rfl inX2 1 (by decide) q1_41 hmw.1 dX3_meanPart_48 ?_
        refine lv_lmul hx hb dX3_meanPart_51 ?_
        refine lv_iload_n hx hb dX3_meanPart_52 rfl (lv_at hl 3 rfl) ?_
        refine g_cp (g_rSN (As := [.long v, .long (t * t2), .int q]) hC (c_X4_lowest l (a := v) (d := t * t2) (q := q)) ⟨q1_223, List.mem_of_getElem? (i := 5) rfl, q1_222, q1_1⟩ dd_X4_lowest ⟨Nat.le_of_ble_eq_true rfl, Nat.le_of_ble_eq_true rfl, rfl, rfl⟩ hl.1 rfl (Nat.le_of_ble_eq_true rfl) dX3_meanPart_53 ⟨Nat.le_of_ble_eq_true rfl, Nat.le_of_ble_eq_true rfl⟩) ?_
        refine W.eq (g2 := F0 m 56 ls [.long (lowS v (t * t2) q)]) rfl ?_
        refine g_retl hC hs ?_ dX3_meanPart_56
        rw [h1, show i = ch from by omega]
      · have c12 := mt (nI_leI (by omega) (by omega)).mpr c12
        refine lv_lload hx hb dX3_meanPart_15 (lv_at hl 4 rfl) ?_
        refine lv_aload_n hx hb dX3_meanPart_17 rfl (lv_at hl 1 rfl) ?_
        refine g_get hC hP hmx.1 rfl inX2 0 (by decide) q1_37 hmx.2.1 dX3_meanPart_18 ?_
        refine lv_iload hx hb dX3_meanPart_21 (lv_at hl 5 rfl) ?_
        refine g_lald hC hP hmx.2.2 (vp_in_nI (by omega) (by decide)) dX3_meanPart_23 ?_
        refine g_topl (y := J (x + 1) i) (congrArg (J (x + 1)) (nI_clamp (by omega))) ?_
        refine lv_aload_n hx hb dX3_meanPart_24 rfl (lv_at hl 0 rfl) ?_
        refine lv_iload hx hb dX3_meanPart_25 (lv_at hl 5 rfl) ?_
        refine lv_aload_n hx hb dX3_meanPart_27 rfl (lv_at hl 2 rfl) ?_
        refine g_cp (g_rV (As := [.int (nI i), .ref y]) hC hP (c_X3_worthOf l hP (b := b) (ch := ch) (own := i) (x := y) (by first | assumption | omega) hmy (by first | assumption | omega)) hpl.1 rfl ⟨q1_215, q1_212, q1_214, qs_6, q1_2⟩ dd_X3_worthOf ⟨Nat.le_of_ble_eq_true rfl, Nat.le_of_ble_eq_true rfl, rfl, rfl⟩ hl.1 rfl (Nat.le_of_ble_eq_true rfl) dX3_meanPart_28 ⟨Nat.le_of_ble_eq_true rfl, Nat.le_of_ble_eq_true rfl⟩) ?_
        refine W.eq (g2 := F0 m 31 ls [.long (wsum (I (b + 9)) (J (y + 1)) i 4), .long (J (x + 1) i), .long v]) rfl ?_
        refine lv_lmul hx hb dX3_meanPart_31 ?_
        refine lv_ladd hx hb dX3_meanPart_32 ?_
        refine lv_lstore (lv' := [(4, .long (v + ((J (x + 1) i) * (wsum (I (b + 9)) (J (y + 1)) i 4)))), (0, .ref b), (1, .ref x), (2, .ref y), (3, .int q), (6, .int (nI i))]) hx hb dX3_meanPart_33 hl (by decide) rfl (fun ls hl => ?_)
        refine lv_iinc (v := nI (i + 1)) (lv' := [(6, .int (nI (i + 1))), (4, .long (v + ((J (x + 1) i) * (wsum (I (b + 9)) (J (y + 1)) i 4)))), (0, .ref b), (1, .ref x), (2, .ref y), (3, .int q)]) hx hb dX3_meanPart_35 hl (k := 5) rfl (nI_inc _) (by decide) rfl (fun ls hl => ?_)
        refine lv_goto (tgt := 6) hx hb dX3_meanPart_38 (by decide) ?_
        exact ih6 (i + 1) (v + ((J (x + 1) i) * (wsum (I (b + 9)) (J (y + 1)) i 4))) (by omega) (by omega) (by rw [msum, ← h1]) ls (lv_sub hl [2, 3, 4, 5, 1, 0] rfl)
  exact L6 5 0 (0 : Int64) (by omega) (by omega) rfl ls (lv_sub hl [2, 3, 4, 5, 1, 0] rfl)
end
section
/-! ===== the tray, dropping, corners by number ===== -/
def trX (I : gI) (J : gJ) (b ch : Nat) : Nat → Int64 := trayX (J (b + 11 + 1)) (I (b + 10)) ch 4
def trJ (I : gI) (J : gJ) (b ch : Nat) : gJ := gu J (b + 11 + 1) (trX I J b ch)
def trO1 (I : gI) (J : gJ) (O : gO) (b ch : Nat) : gO := au (au O (b + 11) 1 (.long (tsum (trX I J b ch) 4))) (b + 11) 2 (.int (nI (usedB (trX I J b ch) 4)))
def trO2 (I : gI) (J : gJ) (O : gO) (b ch d dh : Nat) : gO := au (trO1 I J O b ch) (b + 11) 3 (.int (nI (ansB (I (d + 9)) (trX I J b ch) dh)))
def trayPost (G : gG) (T : gTy) (I : gI) (J : gJ) (Q : gR) (O : gO) (b ch d dh : Nat) (r : Option Value) (H1 : Heap) : Prop :=
  (tsum (trX I J b ch) 4 = 0 ∧ r = some .null ∧ gP G T I (trJ I J b ch) Q (trO1 I J O b ch) H1) ∨ (¬ tsum (trX I J b ch) 4 = 0 ∧ r = some (.ref (b + 11)) ∧ gP G T I (trJ I J b ch) Q (trO2 I J O b ch d dh) H1)
/-- dropping: choices left of both, and rounds -/
def dropF (P P' : Nat → Int32) : Nat → Nat → Nat → Nat → Nat × Nat × Nat
  | 0, A, B, k => (A, B, k)
  | f + 1, A, B, k => if nWor P A B = A ∧ nWor P' B A = B then (A, B, k) else dropF P P' f (nWor P A B) (nWor P' B A) (k + 1)
def isDr (T : gTy) (D : Nat) : Prop := T D = (1, 1)
set_option maxHeartbeats 4000000 in
set_option maxRecDepth 100000 in
theorem c_X3_trayMix (l : Launch) {G : gG} {T : gTy} {I : gI} {J : gJ} {Q : gR} {O : gO} {H : Heap} (hP : gP G T I J Q O H) {b ch d dh : Nat} (hpl : isPl T O b ch) (hpk : isPl T O d dh) (hmt : isMx T O (b + 11)) : Met l yX3_trayMix (gw yX3_trayMix cX3_trayMix 3 (some (.object "GameTables$Mix"))) ({ frames := 3, cells := 0, slots := 0, locals := 74 } : Room) (gPc G H [.ref b, .ref d]) (gQc (gF T H) (trayPost G T I J Q O b ch d dh)) 0 0 (gF T H) := by
  refine g_met [(0, .ref b), (1, .ref d)] (by decide) rfl (by exact Nat.le_of_ble_eq_true rfl) ?_
  intro p e s m below meth c hC hs ls hl
  have hx := hC.1.1
  have hb := hC.1.2.1
  have hS : va_S (gF T H) s.heap H [] := hs ▸ va_S.rf
  have hTA : ∀ q, (T q).1 ≠ 0 → gF T H q := fun q h => Or.inl h
  have hA : ∀ q, s.heap.size ≤ q → gF T H q := fun q h => Or.inr (hs ▸ h)
  generalize hAe : gF T H = A at hS hTA hA ⊢
  have hpl_lo := hpl.2.2.2.2.2.2.2.2.1
  have hpl_hi := hpl.2.2.2.2.2.2.2.2.2
  have hpk_lo := hpk.2.2.2.2.2.2.2.2.1
  have hpk_hi := hpk.2.2.2.2.2.2.2.2.2
  refine lv_iconst (v := nI 0) hx hb dX3_trayMix_0 (by decide) ?_
  refine lv_istore_n (lv' := [(2, .int (nI 0)), (0, .ref b), (1, .ref d)]) hx hb dX3_trayMix_1 rfl hl (by decide) rfl (fun ls hl => ?_)
  have L2 : ∀ (n2 : Nat) (i : Nat) (J2 : gJ), 5 ≤ n2 + i → (i ≤ 4) → (J2 = gu J (b + 11 + 1) (trayX (J (b + 11 + 1)) (I (b + 10)) ch i)) → ∀ (H : Heap) (locs : List Loc), gP G T I J2 Q O H → va_S A s.heap H locs → ∀ ls : Array Slot, lv_has ls 3 [(0, .ref b), (1, .ref d), (2, .int (nI i))] → W p l e ({ frames := 3, cells := 0, slots := 0, locals := 74 } : Room) s m [.ref b, .ref d].toArray below meth c H locs 0 0 (MQ below (gQc A (trayPost G T I J Q O b ch d dh)) [.ref b, .ref d].toArray s 0 0 A) (F0 m 2 ls []) := by
    intro n2
    induction n2 with
    | zero => intro i J2 hn2 hi h1; exact absurd hn2 (by omega)
    | succ n2 ih2 =>
      intro i J2 hn2 hi h1 H locs hP hS ls hl
      refine lv_iload_n hx hb dX3_trayMix_2 rfl (lv_at hl 2 rfl) ?_
      refine lv_iconst (v := nI 4) hx hb dX3_trayMix_3 (by decide) ?_
      refine lv_icmp_ge (tgt := 41) hx hb dX3_trayMix_4 (by decide) (fun c4 => ?_) (fun c4 => ?_)
      · have c4 := (nI_leI (by omega) (by omega)).mp c4
        refine lv_aload_n hx hb dX3_trayMix_41 rfl (lv_at hl 0 rfl) ?_
        refine g_get hC hP hpl.1 rfl inX3 4 (by decide) q1_83 hpl.2.2.2.2.2.1 dX3_trayMix_42 ?_
        refine g_cc (g_rV (As := []) hC hP (c_X2_sumUp l hP (x := b + 11) (by first | assumption | omega)) hmt.1 rfl ⟨q1_207, q1_204, q1_205, q1_206, q1_4⟩ dd_X2_sumUp ⟨Nat.le_of_ble_eq_true rfl, Nat.le_of_ble_eq_true rfl, rfl, rfl⟩ hl.1 rfl (Nat.le_of_ble_eq_true rfl) dX3_trayMix_45 ⟨Nat.le_of_ble_eq_true rfl, Nat.le_of_ble_eq_true rfl⟩) hS (fun q h => h.elim (hTA q) (fun z => hA q (Nat.le_trans hS.1 z))) (fun r5 H1 locs2 hq6 hS hz3 hfr4 => ?_)
        obtain ⟨rfl, hP⟩ := hq6
        obtain ⟨O7, hO7, O8, hO8, hP⟩ : ∃ O7 : gO, O7 = au O (b + 11) 1 (.long (tsum (J2 ((b + 11) + 1)) 4)) ∧ ∃ O8 : gO, O8 = au O7 (b + 11) 2 (.int (nI (usedB (J2 ((b + 11) + 1)) 4))) ∧ gP G T I J2 Q O8 H1 := ⟨_, rfl, _, rfl, hP⟩
        refine W.eq (g2 := F0 m 48 ls []) rfl ?_
        refine lv_aload_n hx hb dX3_trayMix_48 rfl (lv_at hl 0 rfl) ?_
        have ho9 : O7 b 4 = .ref (b + 11) := by rw [hO7, au_ne _ _ _ (ne_of_T hpl.1 hmt.1 (by decide))]; exact hpl.2.2.2.2.2.1
        have ho10 : O8 b 4 = .ref (b + 11) := by rw [hO8, au_ne _ _ _ (ne_of_T hpl.1 hmt.1 (by decide))]; exact ho9
        refine g_get hC hP hpl.1 rfl inX3 4 (by decide) q1_83 ho10 dX3_trayMix_49 ?_
        have ho11 : O7 (b + 11) 1 = .long (tsum (J2 ((b + 11) + 1)) 4) := by rw [hO7, au_row, gu_eq]
        have ho12 : O8 (b + 11) 1 = .long (tsum (J2 ((b + 11) + 1)) 4) := by rw [hO8, au_row, gu_ne _ _ (by decide)]; exact ho11
        refine g_get hC hP hmt.1 rfl inX2 1 (by decide) q1_41 ho12 dX3_trayMix_52 ?_
        refine lv_lconst (v := 0) hx hb dX3_trayMix_55 (by decide) ?_
        refine W.lcmp hx hb dX3_trayMix_56 ?_
        refine lv_if_ne (tgt := 62) hx hb dX3_trayMix_57 (by decide) (fun c57 => ?_) (fun c57 => ?_)
        · have c57 := mt (lg_cmp_eq _ _).mpr c57
          have hk13 : isPl T O7 d dh := isPl_au hpk hO7 (ne_of_T hpk.1 hmt.1 (by decide))
          have hk14 : isPl T O8 d dh := isPl_au hk13 hO8 (ne_of_T hpk.1 hmt.1 (by decide))
          have hk15 : isMx T O7 (b + 11) := isMx_au hmt hO7 (Or.inr (by decide))
          have hk16 : isMx T O8 (b + 11) := isMx_au hk15 hO8 (Or.inr (by decide))
          refine lv_aload_n hx hb dX3_trayMix_62 rfl (lv_at hl 0 rfl) ?_
          refine g_get hC hP hpl.1 rfl inX3 4 (by decide) q1_83 ho10 dX3_trayMix_63 ?_
          refine lv_aload_n hx hb dX3_trayMix_66 rfl (lv_at hl 1 rfl) ?_
          refine lv_aload_n hx hb dX3_trayMix_67 rfl (lv_at hl 0 rfl) ?_
          refine g_get hC hP hpl.1 rfl inX3 4 (by decide) q1_83 ho10 dX3_trayMix_68 ?_
          have ho17 : O7 d 0 = .int (nI dh) := by rw [hO7, au_ne _ _ _ (ne_of_T hpk.1 hmt.1 (by decide))]; exact hpk.2.1
          have ho18 : O8 d 0 = .int (nI dh) := by rw [hO8, au_ne _ _ _ (ne_of_T hpk.1 hmt.1 (by decide))]; exact ho17
          refine g_cp (g_rV (As := [.ref (b + 11)]) hC hP (c_X3_answersTo l hP (b := d) (ch := dh) (x := b + 11) (by first | assumption | omega) (by first | assumption | omega)) hpk.1 rfl ⟨q1_211, q1_208, q1_209, q1_210, q1_2⟩ dd_X3_answersTo ⟨Nat.le_of_ble_eq_true rfl, Nat.le_of_ble_eq_true rfl, rfl, rfl⟩ hl.1 rfl (Nat.le_of_ble_eq_true rfl) dX3_trayMix_71 ⟨Nat.le_of_ble_eq_true rfl, Nat.le_of_ble_eq_true rfl⟩) ?_
          refine W.eq (g2 := F0 m 74 ls [.int (nI (ansB (I (d + 9)) (J2 ((b + 11) + 1)) dh)), .ref (b + 11)]) rfl ?_
          refine g_put hC hP hS hTA hmt.1 rfl inX2 tyX2 tyX2_ok nmX2 3 (by decide) q1_48 rfl (ty := tyX2 3) (by decide) rfl rfl dX3_trayMix_74 (fun H19 locs20 hP hS hz22 => ?_)
          obtain ⟨O21, hO21, hP⟩ : ∃ X : gO, X = au O8 (b + 11) 3 (.int (nI (ansB (I (d + 9)) (J2 ((b + 11) + 1)) dh))) ∧ gP G T I J2 Q X H19 := ⟨_, rfl, hP⟩
          refine lv_aload_n hx hb dX3_trayMix_77 rfl (lv_at hl 0 rfl) ?_
          have ho23 : O21 b 4 = .ref (b + 11) := by rw [hO21, au_ne _ _ _ (ne_of_T hpl.1 hmt.1 (by decide))]; exact ho10
          refine g_get hC hP hpl.1 rfl inX3 4 (by decide) q1_83 ho23 dX3_trayMix_78 ?_
          refine g_retca hC hS (Or.inr ⟨_, rfl⟩) ?_ dX3_trayMix_81
          have e4 : i = 4 := by omega
          subst e4
          subst h1
          exact Or.inr ⟨by simpa [trX, gu_eq] using c57, rfl, by simpa [*, trJ, trO1, trO2, trX, gu_eq] using hP⟩
        · have c57 := (lg_cmp_eq _ _).mp c57
          refine lv_null hx hb dX3_trayMix_60 ?_
          refine g_retca hC hS (Or.inl rfl) ?_ dX3_trayMix_61
          have e4 : i = 4 := by omega
          subst e4
          subst h1
          exact Or.inl ⟨by simpa [trX, gu_eq] using c57, rfl, by simpa [*, trJ, trO1, trX, gu_eq] using hP⟩
      · have c4 := mt (nI_leI (by omega) (by omega)).mpr c4
        refine lv_aload_n hx hb dX3_trayMix_7 rfl (lv_at hl 0 rfl) ?_
        refine g_get hC hP hpl.1 rfl inX3 4 (by decide) q1_83 hpl.2.2.2.2.2.1 dX3_trayMix_8 ?_
        refine g_get hC hP hmt.1 rfl inX2 0 (by decide) q1_37 hmt.2.1 dX3_trayMix_11 ?_
        refine lv_iload_n hx hb dX3_trayMix_14 rfl (lv_at hl 2 rfl) ?_
        refine lv_iload_n hx hb dX3_trayMix_15 rfl (lv_at hl 2 rfl) ?_
        refine lv_aload_n hx hb dX3_trayMix_16 rfl (lv_at hl 0 rfl) ?_
        refine g_get hC hP hpl.1 rfl inX3 0 (by decide) q1_77 hpl.2.1 dX3_trayMix_17 ?_
        refine lv_icmp_ge (tgt := 33) hx hb dX3_trayMix_20 (by decide) (fun c20 => ?_) (fun c20 => ?_)
        · have c20 := (nI_leI (by omega) (by omega)).mp c20
          refine lv_lconst (v := 0) hx hb dX3_trayMix_33 (by decide) ?_
          refine g_last hC hP hS hTA hmt.2.2 (vp_in_nI (by omega) (by decide)) dX3_trayMix_34 (fun H24 locs25 hP hS hz27 => ?_)
          rw [show (nI i).toNatClampNeg = i from nI_clamp (by omega)] at hP
          obtain ⟨J26, hJ26, hP⟩ : ∃ X : gJ, X = au J2 ((b + 11) + 1) i (0 : Int64) ∧ gP G T I X Q O H24 := ⟨_, rfl, hP⟩
          refine lv_iinc (v := nI (i + 1)) (lv' := [(2, .int (nI (i + 1))), (0, .ref b), (1, .ref d)]) hx hb dX3_trayMix_35 hl (k := 2) rfl (nI_inc _) (by decide) rfl (fun ls hl => ?_)
          refine lv_goto (tgt := 2) hx hb dX3_trayMix_38 (by decide) ?_
          exact ih2 (i + 1) J26 (by omega) (by omega) (by rw [hJ26, h1, au_gu, ← trayX_s]; first | rw [if_pos (by omega)] | rw [if_neg (by omega)]) _ _ hP hS ls (lv_sub hl [1, 2, 0] rfl)
        · have c20 := mt (nI_leI (by omega) (by omega)).mpr c20
          refine lv_aload_n hx hb dX3_trayMix_23 rfl (lv_at hl 0 rfl) ?_
          refine g_get hC hP hpl.1 rfl inX3 3 (by decide) q1_82 hpl.2.2.2.2.1 dX3_trayMix_24 ?_
          refine lv_iload_n hx hb dX3_trayMix_27 rfl (lv_at hl 2 rfl) ?_
          refine g_iald hC hP hpl.2.2.2.2.2.2.2.1 (vp_in_nI (by omega) (by decide)) dX3_trayMix_28 ?_
          refine g_topi (y := I (b + 10) i) (congrArg (I (b + 10)) (nI_clamp (by omega))) ?_
          refine lv_i2l hx hb dX3_trayMix_29 rfl ?_
          refine lv_goto (tgt := 34) hx hb dX3_trayMix_30 (by decide) ?_
          refine g_last hC hP hS hTA hmt.2.2 (vp_in_nI (by omega) (by decide)) dX3_trayMix_34 (fun H28 locs29 hP hS hz31 => ?_)
          rw [show (nI i).toNatClampNeg = i from nI_clamp (by omega)] at hP
          obtain ⟨J30, hJ30, hP⟩ : ∃ X : gJ, X = au J2 ((b + 11) + 1) i ((I (b + 10) i).toInt64) ∧ gP G T I X Q O H28 := ⟨_, rfl, hP⟩
          refine lv_iinc (v := nI (i + 1)) (lv' := [(2, .int (nI (i + 1))), (0, .ref b), (1, .ref d)]) hx hb dX3_trayMix_35 hl (k := 2) rfl (nI_inc _) (by decide) rfl (fun ls hl => ?_)
          refine lv_goto (tgt := 2) hx hb dX3_trayMix_38 (by decide) ?_
          exact ih2 (i + 1) J30 (by omega) (by omega) (by rw [hJ30, h1, au_gu, ← trayX_s]; first | rw [if_pos (by omega)] | rw [if_neg (by omega)]) _ _ hP hS ls (lv_sub hl [1, 2, 0] rfl)
  exact L2 5 0 J (by omega) (by omega) (by rw [show trayX (J (b + 11 + 1)) (I (b + 10)) ch 0 = J (b + 11 + 1) from funext fun j => by simp [trayX], gu_self]) _ _ hP hS ls (lv_sub hl [1, 2, 0] rfl)
theorem pow1_lt {ch : Nat} (h : ch ≤ 4) : 2 ^ ch - 1 < 16 := by
  have : ∀ ch, ch ≤ 4 → 2 ^ ch - 1 < 16 := by decide
  exact this ch h
def drO (O : gO) (D A B k : Nat) : gO := au (au (au O D 0 (.int (nI A))) D 1 (.int (nI B))) D 2 (.int (nI k))
theorem drO_3 (O : gO) (D A B k A' B' k' : Nat) : au (au (au (drO O D A B k) D 2 (.int (nI k'))) D 0 (.int (nI A'))) D 1 (.int (nI B')) = drO O D A' B' k' := by
  unfold drO au
  simp only [gu_eq, gu_gu]
  congr 1
  funext j
  simp only [gu]
  repeat' split
  all_goals first | rfl | omega
theorem drO_2 (O : gO) (D A B k A' B' : Nat) : au (au (drO O D A B k) D 0 (.int (nI A'))) D 1 (.int (nI B')) = drO O D A' B' k := by
  unfold drO au
  simp only [gu_eq, gu_gu]
  congr 1
  funext j
  simp only [gu]
  repeat' split
  all_goals first | rfl | omega
theorem drO_pl {T : gTy} {O O' : gO} {D A B k b ch : Nat} (h : isPl T O b ch) (hO : O' = drO O D A B k) (hne : b ≠ D) : isPl T O' b ch := isPl_au (isPl_au (isPl_au h rfl hne) rfl hne) hO hne
set_option maxHeartbeats 4000000 in
set_option maxRecDepth 100000 in
theorem c_X1_run (l : Launch) {G : gG} {T : gTy} {I : gI} {J : gJ} {Q : gR} {O : gO} {H : Heap} (hP : gP G T I J Q O H) {D b ch d dh : Nat} (hdr : isDr T D) (hpl : isPl T O b ch) (hpk : isPl T O d dh) : Met l yX1_run (gw yX1_run cX1_run 7 (none)) ({ frames := 4, cells := 0, slots := 0, locals := 94 } : Room) (gPc G H [.ref D, .ref b, .ref d]) (gQc (gF T H) (fun r H1 => r = none ∧ gP G T I J Q (drO O D (dropF (I (b + 9)) (I (d + 9)) 8 (2 ^ ch - 1) (2 ^ dh - 1) 0).1 (dropF (I (b + 9)) (I (d + 9)) 8 (2 ^ ch - 1) (2 ^ dh - 1) 0).2.1 (dropF (I (b + 9)) (I (d + 9)) 8 (2 ^ ch - 1) (2 ^ dh - 1) 0).2.2) H1)) 0 0 (gF T H) := by
  refine g_met [(0, .ref D), (1, .ref b), (2, .ref d)] (by decide) rfl (by exact Nat.le_of_ble_eq_true rfl) ?_
  intro p e s m below meth c hC hs ls hl
  have hx := hC.1.1
  have hb := hC.1.2.1
  have hS : va_S (gF T H) s.heap H [] := hs ▸ va_S.rf
  have hTA : ∀ q, (T q).1 ≠ 0 → gF T H q := fun q h => Or.inl h
  have hA : ∀ q, s.heap.size ≤ q → gF T H q := fun q h => Or.inr (hs ▸ h)
  generalize hAe : gF T H = A at hS hTA hA ⊢
  have hpl_lo := hpl.2.2.2.2.2.2.2.2.1
  have hpl_hi := hpl.2.2.2.2.2.2.2.2.2
  have hpk_lo := hpk.2.2.2.2.2.2.2.2.1
  have hpk_hi := hpk.2.2.2.2.2.2.2.2.2
  have hp1 := pow1_lt hpl_hi
  have hp2 := pow1_lt hpk_hi
  have nb : b ≠ D := ne_of_T hpl.1 hdr (by decide)
  have nd : d ≠ D := ne_of_T hpk.1 hdr (by decide)
  refine lv_aload_n hx hb dX1_run_0 rfl (lv_at hl 0 rfl) ?_
  refine lv_aload_n hx hb dX1_run_1 rfl (lv_at hl 1 rfl) ?_
  refine g_cp (g_rV (As := []) hC hP (c_X3_allBits l hP (b := b) (ch := ch) (by first | assumption | omega)) hpl.1 rfl ⟨q2_19, q2_37, q2_17, q2_18, q1_2⟩ dd_X3_allBits ⟨Nat.le_of_ble_eq_true rfl, Nat.le_of_ble_eq_true rfl, rfl, rfl⟩ hl.1 rfl (Nat.le_of_ble_eq_true rfl) dX1_run_2 ⟨Nat.le_of_ble_eq_true rfl, Nat.le_of_ble_eq_true rfl⟩) ?_
  refine W.eq (g2 := F0 m 5 ls [.int (nI (2 ^ ch - 1)), .ref D]) rfl ?_
  refine g_put hC hP hS hTA hdr rfl inX1 tyX1 tyX1_ok nmX1 0 (by decide) q1_102 rfl (ty := tyX1 0) (by decide) rfl rfl dX1_run_5 (fun H1 locs2 hP hS hz4 => ?_)
  obtain ⟨O3, hO3, hP⟩ : ∃ X : gO, X = au O D 0 (.int (nI (2 ^ ch - 1))) ∧ gP G T I J Q X H1 := ⟨_, rfl, hP⟩
  have hk5 : isPl T O3 b ch := isPl_au hpl hO3 (ne_of_T hpl.1 hdr (by decide))
  have hk6 : isPl T O3 d dh := isPl_au hpk hO3 (ne_of_T hpk.1 hdr (by decide))
  refine lv_aload_n hx hb dX1_run_8 rfl (lv_at hl 0 rfl) ?_
  refine lv_aload_n hx hb dX1_run_9 rfl (lv_at hl 2 rfl) ?_
  have ho7 : O3 d 0 = .int (nI dh) := by rw [hO3, au_ne _ _ _ (ne_of_T hpk.1 hdr (by decide))]; exact hpk.2.1
  refine g_cp (g_rV (As := []) hC hP (c_X3_allBits l hP (b := d) (ch := dh) (by first | assumption | omega)) hpk.1 rfl ⟨q2_19, q2_37, q2_17, q2_18, q1_2⟩ dd_X3_allBits ⟨Nat.le_of_ble_eq_true rfl, Nat.le_of_ble_eq_true rfl, rfl, rfl⟩ hl.1 rfl (Nat.le_of_ble_eq_true rfl) dX1_run_10 ⟨Nat.le_of_ble_eq_true rfl, Nat.le_of_ble_eq_true rfl⟩) ?_
  refine W.eq (g2 := F0 m 13 ls [.int (nI (2 ^ dh - 1)), .ref D]) rfl ?_
  refine g_put hC hP hS hTA hdr rfl inX1 tyX1 tyX1_ok nmX1 1 (by decide) q1_104 rfl (ty := tyX1 1) (by decide) rfl rfl dX1_run_13 (fun H8 locs9 hP hS hz11 => ?_)
  obtain ⟨O10, hO10, hP⟩ : ∃ X : gO, X = au O3 D 1 (.int (nI (2 ^ dh - 1))) ∧ gP G T I J Q X H8 := ⟨_, rfl, hP⟩
  refine lv_aload_n hx hb dX1_run_16 rfl (lv_at hl 0 rfl) ?_
  refine lv_iconst (v := nI 0) hx hb dX1_run_17 (by decide) ?_
  refine g_put hC hP hS hTA hdr rfl inX1 tyX1 tyX1_ok nmX1 2 (by decide) q1_106 rfl (ty := tyX1 2) (by decide) rfl rfl dX1_run_18 (fun H12 locs13 hP hS hz15 => ?_)
  obtain ⟨O14, hO14, hP⟩ : ∃ X : gO, X = au O10 D 2 (.int (nI 0)) ∧ gP G T I J Q X H12 := ⟨_, rfl, hP⟩
  refine lv_iconst (v := nI 1) hx hb dX1_run_21 (by decide) ?_
  refine lv_istore_n (lv' := [(3, .int (nI 1)), (0, .ref D), (1, .ref b), (2, .ref d)]) hx hb dX1_run_22 rfl hl (by decide) rfl (fun ls hl => ?_)
  refine lv_iconst (v := nI 0) hx hb dX1_run_23 (by decide) ?_
  refine lv_istore (lv' := [(4, .int (nI 0)), (3, .int (nI 1)), (0, .ref D), (1, .ref b), (2, .ref d)]) hx hb dX1_run_24 hl (by decide) rfl (fun ls hl => ?_)
  have L26 : ∀ (n26 : Nat) (i : Nat) (dr : Bool) (A2 : Nat) (B2 : Nat) (kk : Nat) (O2 : gO), 9 ≤ n26 + i → (i ≤ 8 ∧ A2 < 16 ∧ B2 < 16 ∧ kk ≤ i) → (O2 = drO O D A2 B2 kk) → (if dr then dropF (I (b + 9)) (I (d + 9)) (8 - i) A2 B2 kk = dropF (I (b + 9)) (I (d + 9)) 8 (2 ^ ch - 1) (2 ^ dh - 1) 0 else (A2, B2, kk) = dropF (I (b + 9)) (I (d + 9)) 8 (2 ^ ch - 1) (2 ^ dh - 1) 0) → ∀ (H : Heap) (locs : List Loc), gP G T I J Q O2 H → va_S A s.heap H locs → ∀ ls : Array Slot, lv_has ls 7 [(0, .ref D), (1, .ref b), (2, .ref d), (3, .int (gb dr)), (4, .int (nI i))] → W p l e ({ frames := 4, cells := 0, slots := 0, locals := 94 } : Room) s m [.ref D, .ref b, .ref d].toArray below meth c H locs 0 0 (MQ below (gQc A (fun r H1 => r = none ∧ gP G T I J Q (drO O D (dropF (I (b + 9)) (I (d + 9)) 8 (2 ^ ch - 1) (2 ^ dh - 1) 0).1 (dropF (I (b + 9)) (I (d + 9)) 8 (2 ^ ch - 1) (2 ^ dh - 1) 0).2.1 (dropF (I (b + 9)) (I (d + 9)) 8 (2 ^ ch - 1) (2 ^ dh - 1) 0).2.2) H1)) [.ref D, .ref b, .ref d].toArray s 0 0 A) (F0 m 26 ls []) := by
    intro n26
    induction n26 with
    | zero => intro i dr A2 B2 kk O2 hn26 hi h1 h2; exact absurd hn26 (by omega)
    | succ n26 ih26 =>
      intro i dr A2 B2 kk O2 hn26 hi h1 h2 H locs hP hS ls hl
      have f0 : O2 D 0 = .int (nI A2) := by rw [h1]; simp [drO, au, gu]
      have f1 : O2 D 1 = .int (nI B2) := by rw [h1]; simp [drO, au, gu]
      have f2 : O2 D 2 = .int (nI kk) := by rw [h1]; simp [drO, au, gu]
      have n1 := @nWor_lt (I (b + 9)) A2 B2
      have n2 := @nWor_lt (I (d + 9)) B2 A2
      have hplO : isPl T O2 b ch := drO_pl hpl h1 nb
      have hpkO : isPl T O2 d dh := drO_pl hpk h1 nd
      refine lv_iload hx hb dX1_run_26 (lv_at hl 4 rfl) ?_
      refine lv_bipush (v := nI 8) hx hb dX1_run_28 (by decide) ?_
      refine lv_icmp_ge (tgt := 121) hx hb dX1_run_30 (by decide) (fun c30 => ?_) (fun c30 => ?_)
      · have c30 := (nI_leI (by omega) (by omega)).mp c30
        refine g_retcv hC hS ?_ dX1_run_121
        refine ⟨rfl, ?_⟩
        have e : (A2, B2, kk) = dropF (I (b + 9)) (I (d + 9)) 8 (2 ^ ch - 1) (2 ^ dh - 1) 0 := by first | (simp only [c34, Bool.false_eq_true, if_false] at h2; exact h2) | (have e8 : i = 8 := (by omega); subst e8; cases dr <;> exact h2)
        rw [← e]
        subst h1
        exact hP
      · have c30 := mt (nI_leI (by omega) (by omega)).mpr c30
        refine lv_iload_n hx hb dX1_run_33 rfl (lv_at hl 3 rfl) ?_
        refine lv_if_eq (tgt := 121) hx hb dX1_run_34 (by decide) (fun c34 => ?_) (fun c34 => ?_)
        · have c34 := gb_f c34
          refine g_retcv hC hS ?_ dX1_run_121
          refine ⟨rfl, ?_⟩
          have e : (A2, B2, kk) = dropF (I (b + 9)) (I (d + 9)) 8 (2 ^ ch - 1) (2 ^ dh - 1) 0 := by first | (simp only [c34, Bool.false_eq_true, if_false] at h2; exact h2) | (have e8 : i = 8 := (by omega); subst e8; cases dr <;> exact h2)
          rw [← e]
          subst h1
          exact hP
        · have c34 := gb_t c34
          refine lv_aload_n hx hb dX1_run_37 rfl (lv_at hl 1 rfl) ?_
          refine lv_aload_n hx hb dX1_run_38 rfl (lv_at hl 0 rfl) ?_
          refine g_get hC hP hdr rfl inX1 0 (by decide) q1_102 f0 dX1_run_39 ?_
          refine lv_aload_n hx hb dX1_run_42 rfl (lv_at hl 0 rfl) ?_
          refine g_get hC hP hdr rfl inX1 1 (by decide) q1_104 f1 dX1_run_43 ?_
          refine g_cp (g_rV (As := [.int (nI A2), .int (nI B2)]) hC hP (c_X3_notWorse l hP (b := b) (ch := ch) (A := A2) (B := B2) (by first | assumption | omega) (by first | assumption | omega) (by first | assumption | omega)) hpl.1 rfl ⟨q2_41, q2_38, q2_39, q2_40, q1_2⟩ dd_X3_notWorse ⟨Nat.le_of_ble_eq_true rfl, Nat.le_of_ble_eq_true rfl, rfl, rfl⟩ hl.1 rfl (Nat.le_of_ble_eq_true rfl) dX1_run_46 ⟨Nat.le_of_ble_eq_true rfl, Nat.le_of_ble_eq_true rfl⟩) ?_
          refine W.eq (g2 := F0 m 49 ls [.int (nI (nWor (I (b + 9)) A2 B2))]) rfl ?_
          refine lv_istore (lv' := [(5, .int (nI (nWor (I (b + 9)) A2 B2))), (0, .ref D), (1, .ref b), (2, .ref d), (3, .int (gb dr)), (4, .int (nI i))]) hx hb dX1_run_49 hl (by decide) rfl (fun ls hl => ?_)
          refine lv_aload_n hx hb dX1_run_51 rfl (lv_at hl 3 rfl) ?_
          refine lv_aload_n hx hb dX1_run_52 rfl (lv_at hl 1 rfl) ?_
          refine g_get hC hP hdr rfl inX1 1 (by decide) q1_104 f1 dX1_run_53 ?_
          refine lv_aload_n hx hb dX1_run_56 rfl (lv_at hl 1 rfl) ?_
          refine g_get hC hP hdr rfl inX1 0 (by decide) q1_102 f0 dX1_run_57 ?_
          refine g_cp (g_rV (As := [.int (nI B2), .int (nI A2)]) hC hP (c_X3_notWorse l hP (b := d) (ch := dh) (A := B2) (B := A2) (by first | assumption | omega) (by first | assumption | omega) (by first | assumption | omega)) hpk.1 rfl ⟨q2_41, q2_38, q2_39, q2_40, q1_2⟩ dd_X3_notWorse ⟨Nat.le_of_ble_eq_true rfl, Nat.le_of_ble_eq_true rfl, rfl, rfl⟩ hl.1 rfl (Nat.le_of_ble_eq_true rfl) dX1_run_60 ⟨Nat.le_of_ble_eq_true rfl, Nat.le_of_ble_eq_true rfl⟩) ?_
          refine W.eq (g2 := F0 m 63 ls [.int (nI (nWor (I (d + 9)) B2 A2))]) rfl ?_
          refine lv_istore (lv' := [(6, .int (nI (nWor (I (d + 9)) B2 A2))), (5, .int (nI (nWor (I (b + 9)) A2 B2))), (0, .ref D), (1, .ref b), (2, .ref d), (3, .int (gb dr)), (4, .int (nI i))]) hx hb dX1_run_63 hl (by decide) rfl (fun ls hl => ?_)
          refine lv_iload hx hb dX1_run_65 (lv_at hl 1 rfl) ?_
          refine lv_aload_n hx hb dX1_run_67 rfl (lv_at hl 2 rfl) ?_
          refine g_get hC hP hdr rfl inX1 0 (by decide) q1_102 f0 dX1_run_68 ?_
          refine lv_icmp_ne (tgt := 83) hx hb dX1_run_71 (by decide) (fun c71 => ?_) (fun c71 => ?_)
          · have c71 := mt (nI_eq (by omega) (by omega)).mpr c71
            refine lv_iconst (v := nI 1) hx hb dX1_run_83 (by decide) ?_
            refine lv_goto (tgt := 88) hx hb dX1_run_84 (by decide) ?_
            refine lv_istore_n (lv' := [(3, .int (nI 1)), (6, .int (nI (nWor (I (d + 9)) B2 A2))), (5, .int (nI (nWor (I (b + 9)) A2 B2))), (0, .ref D), (1, .ref b), (2, .ref d), (4, .int (nI i))]) hx hb dX1_run_88 rfl hl (by decide) rfl (fun ls hl => ?_)
            refine lv_iload_n hx hb dX1_run_89 rfl (lv_at hl 0 rfl) ?_
            refine lv_if_eq (tgt := 103) hx hb dX1_run_90 (by decide) (fun q => absurd q (by decide)) (fun _ => ?_)
            refine lv_aload_n hx hb dX1_run_93 rfl (lv_at hl 3 rfl) ?_
            refine lv_dup hx hb dX1_run_94 rfl ?_
            refine g_get hC hP hdr rfl inX1 2 (by decide) q1_106 f2 dX1_run_95 ?_
            refine lv_iconst (v := nI 1) hx hb dX1_run_98 (by decide) ?_
            refine lv_iadd hx hb dX1_run_99 ?_
            refine g_topi (y := nI (kk + 1)) (nI_add _ _) ?_
            refine g_put hC hP hS hTA hdr rfl inX1 tyX1 tyX1_ok nmX1 2 (by decide) q1_106 rfl (ty := tyX1 2) (by decide) rfl rfl dX1_run_100 (fun H16 locs17 hP hS hz19 => ?_)
            obtain ⟨O18, hO18, hP⟩ : ∃ X : gO, X = au O2 D 2 (.int (nI (kk + 1))) ∧ gP G T I J Q X H16 := ⟨_, rfl, hP⟩
            refine lv_aload_n hx hb dX1_run_103 rfl (lv_at hl 3 rfl) ?_
            refine lv_iload hx hb dX1_run_104 (lv_at hl 2 rfl) ?_
            refine g_put hC hP hS hTA hdr rfl inX1 tyX1 tyX1_ok nmX1 0 (by decide) q1_102 rfl (ty := tyX1 0) (by decide) rfl rfl dX1_run_106 (fun H20 locs21 hP hS hz23 => ?_)
            obtain ⟨O22, hO22, hP⟩ : ∃ X : gO, X = au O18 D 0 (.int (nI (nWor (I (b + 9)) A2 B2))) ∧ gP G T I J Q X H20 := ⟨_, rfl, hP⟩
            refine lv_aload_n hx hb dX1_run_109 rfl (lv_at hl 3 rfl) ?_
            refine lv_iload hx hb dX1_run_110 (lv_at hl 1 rfl) ?_
            refine g_put hC hP hS hTA hdr rfl inX1 tyX1 tyX1_ok nmX1 1 (by decide) q1_104 rfl (ty := tyX1 1) (by decide) rfl rfl dX1_run_112 (fun H24 locs25 hP hS hz27 => ?_)
            obtain ⟨O26, hO26, hP⟩ : ∃ X : gO, X = au O22 D 1 (.int (nI (nWor (I (d + 9)) B2 A2))) ∧ gP G T I J Q X H24 := ⟨_, rfl, hP⟩
            refine lv_iinc (v := nI (i + 1)) (lv' := [(4, .int (nI (i + 1))), (3, .int (nI 1)), (6, .int (nI (nWor (I (d + 9)) B2 A2))), (5, .int (nI (nWor (I (b + 9)) A2 B2))), (0, .ref D), (1, .ref b), (2, .ref d)]) hx hb dX1_run_115 hl (k := 6) rfl (nI_inc _) (by decide) rfl (fun ls hl => ?_)
            refine lv_goto (tgt := 26) hx hb dX1_run_118 (by decide) ?_
            have ho28 : O22 D 0 = .int (nI (nWor (I (b + 9)) A2 B2)) := by rw [hO22, au_row, gu_eq]
            have ho29 : O26 D 0 = .int (nI (nWor (I (b + 9)) A2 B2)) := by rw [hO26, au_row, gu_ne _ _ (by decide)]; exact ho28
            have ho30 : O26 D 1 = .int (nI (nWor (I (d + 9)) B2 A2)) := by rw [hO26, au_row, gu_eq]
            have ho31 : O18 D 2 = .int (nI (kk + 1)) := by rw [hO18, au_row, gu_eq]
            have ho32 : O22 D 2 = .int (nI (kk + 1)) := by rw [hO22, au_row, gu_ne _ _ (by decide)]; exact ho31
            have ho33 : O26 D 2 = .int (nI (kk + 1)) := by rw [hO26, au_row, gu_ne _ _ (by decide)]; exact ho32
            exact ih26 (i + 1) true (nWor (I (b + 9)) A2 B2) (nWor (I (d + 9)) B2 A2) (kk + 1) O26 (by omega) ⟨by omega, nWor_lt, nWor_lt, by omega⟩ (by simp only [*]; first | exact drO_3 _ _ _ _ _ _ _ _ | exact drO_2 _ _ _ _ _ _ _) (by simp only [if_pos c34] at h2; rw [show 8 - i = (8 - (i + 1)) + 1 from by omega, dropF] at h2; first | (simp only [if_true]; rw [← h2, if_neg (by omega)]) | (simp only [Bool.false_eq_true, if_false]; rw [← h2, if_pos (by omega)]; simp only [*])) _ _ hP hS ls (lv_sub hl [4, 5, 6, 1, 0] rfl)
          · have c71 := (nI_eq (by omega) (by omega)).mp c71
            refine lv_iload hx hb dX1_run_74 (lv_at hl 0 rfl) ?_
            refine lv_aload_n hx hb dX1_run_76 rfl (lv_at hl 2 rfl) ?_
            refine g_get hC hP hdr rfl inX1 1 (by decide) q1_104 f1 dX1_run_77 ?_
            refine lv_icmp_eq (tgt := 87) hx hb dX1_run_80 (by decide) (fun c80 => ?_) (fun c80 => ?_)
            · have c80 := (nI_eq (by omega) (by omega)).mp c80
              refine lv_iconst (v := nI 0) hx hb dX1_run_87 (by decide) ?_
              refine lv_istore_n (lv' := [(3, .int (nI 0)), (6, .int (nI (nWor (I (d + 9)) B2 A2))), (5, .int (nI (nWor (I (b + 9)) A2 B2))), (0, .ref D), (1, .ref b), (2, .ref d), (4, .int (nI i))]) hx hb dX1_run_88 rfl hl (by decide) rfl (fun ls hl => ?_)
              refine lv_iload_n hx hb dX1_run_89 rfl (lv_at hl 0 rfl) ?_
              refine lv_if_eq (tgt := 103) hx hb dX1_run_90 (by decide) (fun _ => ?_) (fun q => absurd (by decide) q)
              refine lv_aload_n hx hb dX1_run_103 rfl (lv_at hl 3 rfl) ?_
              refine lv_iload hx hb dX1_run_104 (lv_at hl 2 rfl) ?_
              refine g_put hC hP hS hTA hdr rfl inX1 tyX1 tyX1_ok nmX1 0 (by decide) q1_102 rfl (ty := tyX1 0) (by decide) rfl rfl dX1_run_106 (fun H34 locs35 hP hS hz37 => ?_)
              obtain ⟨O36, hO36, hP⟩ : ∃ X : gO, X = au O2 D 0 (.int (nI (nWor (I (b + 9)) A2 B2))) ∧ gP G T I J Q X H34 := ⟨_, rfl, hP⟩
              refine lv_aload_n hx hb dX1_run_109 rfl (lv_at hl 3 rfl) ?_
              refine lv_iload hx hb dX1_run_110 (lv_at hl 1 rfl) ?_
              refine g_put hC hP hS hTA hdr rfl inX1 tyX1 tyX1_ok nmX1 1 (by decide) q1_104 rfl (ty := tyX1 1) (by decide) rfl rfl dX1_run_112 (fun H38 locs39 hP hS hz41 => ?_)
              obtain ⟨O40, hO40, hP⟩ : ∃ X : gO, X = au O36 D 1 (.int (nI (nWor (I (d + 9)) B2 A2))) ∧ gP G T I J Q X H38 := ⟨_, rfl, hP⟩
              refine lv_iinc (v := nI (i + 1)) (lv' := [(4, .int (nI (i + 1))), (3, .int (nI 0)), (6, .int (nI (nWor (I (d + 9)) B2 A2))), (5, .int (nI (nWor (I (b + 9)) A2 B2))), (0, .ref D), (1, .ref b), (2, .ref d)]) hx hb dX1_run_115 hl (k := 6) rfl (nI_inc _) (by decide) rfl (fun ls hl => ?_)
              refine lv_goto (tgt := 26) hx hb dX1_run_118 (by decide) ?_
              have ho42 : O36 D 0 = .int (nI (nWor (I (b + 9)) A2 B2)) := by rw [hO36, au_row, gu_eq]
              have ho43 : O40 D 0 = .int (nI (nWor (I (b + 9)) A2 B2)) := by rw [hO40, au_row, gu_ne _ _ (by decide)]; exact ho42
              have ho44 : O40 D 1 = .int (nI (nWor (I (d + 9)) B2 A2)) := by rw [hO40, au_row, gu_eq]
              have ho45 : O36 D 2 = .int (nI kk) := by rw [hO36, au_row, gu_ne _ _ (by decide)]; exact f2
              have ho46 : O40 D 2 = .int (nI kk) := by rw [hO40, au_row, gu_ne _ _ (by decide)]; exact ho45
              exact ih26 (i + 1) false (nWor (I (b + 9)) A2 B2) (nWor (I (d + 9)) B2 A2) kk O40 (by omega) ⟨by omega, nWor_lt, nWor_lt, by omega⟩ (by simp only [*]; first | exact drO_3 _ _ _ _ _ _ _ _ | exact drO_2 _ _ _ _ _ _ _) (by simp only [if_pos c34] at h2; rw [show 8 - i = (8 - (i + 1)) + 1 from by omega, dropF] at h2; first | (simp only [if_true]; rw [← h2, if_neg (by omega)]) | (simp only [Bool.false_eq_true, if_false]; rw [← h2, if_pos (by omega)]; simp only [*])) _ _ hP hS ls (lv_sub hl [4, 5, 6, 1, 0] rfl)
            · have c80 := mt (nI_eq (by omega) (by omega)).mpr c80
              refine lv_iconst (v := nI 1) hx hb dX1_run_83 (by decide) ?_
              refine lv_goto (tgt := 88) hx hb dX1_run_84 (by decide) ?_
              refine lv_istore_n (lv' := [(3, .int (nI 1)), (6, .int (nI (nWor (I (d + 9)) B2 A2))), (5, .int (nI (nWor (I (b + 9)) A2 B2))), (0, .ref D), (1, .ref b), (2, .ref d), (4, .int (nI i))]) hx hb dX1_run_88 rfl hl (by decide) rfl (fun ls hl => ?_)
              refine lv_iload_n hx hb dX1_run_89 rfl (lv_at hl 0 rfl) ?_
              refine lv_if_eq (tgt := 103) hx hb dX1_run_90 (by decide) (fun q => absurd q (by decide)) (fun _ => ?_)
              refine lv_aload_n hx hb dX1_run_93 rfl (lv_at hl 3 rfl) ?_
              refine lv_dup hx hb dX1_run_94 rfl ?_
              refine g_get hC hP hdr rfl inX1 2 (by decide) q1_106 f2 dX1_run_95 ?_
              refine lv_iconst (v := nI 1) hx hb dX1_run_98 (by decide) ?_
              refine lv_iadd hx hb dX1_run_99 ?_
              refine g_topi (y := nI (kk + 1)) (nI_add _ _) ?_
              refine g_put hC hP hS hTA hdr rfl inX1 tyX1 tyX1_ok nmX1 2 (by decide) q1_106 rfl (ty := tyX1 2) (by decide) rfl rfl dX1_run_100 (fun H47 locs48 hP hS hz50 => ?_)
              obtain ⟨O49, hO49, hP⟩ : ∃ X : gO, X = au O2 D 2 (.int (nI (kk + 1))) ∧ gP G T I J Q X H47 := ⟨_, rfl, hP⟩
              refine lv_aload_n hx hb dX1_run_103 rfl (lv_at hl 3 rfl) ?_
              refine lv_iload hx hb dX1_run_104 (lv_at hl 2 rfl) ?_
              refine g_put hC hP hS hTA hdr rfl inX1 tyX1 tyX1_ok nmX1 0 (by decide) q1_102 rfl (ty := tyX1 0) (by decide) rfl rfl dX1_run_106 (fun H51 locs52 hP hS hz54 => ?_)
              obtain ⟨O53, hO53, hP⟩ : ∃ X : gO, X = au O49 D 0 (.int (nI (nWor (I (b + 9)) A2 B2))) ∧ gP G T I J Q X H51 := ⟨_, rfl, hP⟩
              refine lv_aload_n hx hb dX1_run_109 rfl (lv_at hl 3 rfl) ?_
              refine lv_iload hx hb dX1_run_110 (lv_at hl 1 rfl) ?_
              refine g_put hC hP hS hTA hdr rfl inX1 tyX1 tyX1_ok nmX1 1 (by decide) q1_104 rfl (ty := tyX1 1) (by decide) rfl rfl dX1_run_112 (fun H55 locs56 hP hS hz58 => ?_)
              obtain ⟨O57, hO57, hP⟩ : ∃ X : gO, X = au O53 D 1 (.int (nI (nWor (I (d + 9)) B2 A2))) ∧ gP G T I J Q X H55 := ⟨_, rfl, hP⟩
              refine lv_iinc (v := nI (i + 1)) (lv' := [(4, .int (nI (i + 1))), (3, .int (nI 1)), (6, .int (nI (nWor (I (d + 9)) B2 A2))), (5, .int (nI (nWor (I (b + 9)) A2 B2))), (0, .ref D), (1, .ref b), (2, .ref d)]) hx hb dX1_run_115 hl (k := 6) rfl (nI_inc _) (by decide) rfl (fun ls hl => ?_)
              refine lv_goto (tgt := 26) hx hb dX1_run_118 (by decide) ?_
              have ho59 : O53 D 0 = .int (nI (nWor (I (b + 9)) A2 B2)) := by rw [hO53, au_row, gu_eq]
              have ho60 : O57 D 0 = .int (nI (nWor (I (b + 9)) A2 B2)) := by rw [hO57, au_row, gu_ne _ _ (by decide)]; exact ho59
              have ho61 : O57 D 1 = .int (nI (nWor (I (d + 9)) B2 A2)) := by rw [hO57, au_row, gu_eq]
              have ho62 : O49 D 2 = .int (nI (kk + 1)) := by rw [hO49, au_row, gu_eq]
              have ho63 : O53 D 2 = .int (nI (kk + 1)) := by rw [hO53, au_row, gu_ne _ _ (by decide)]; exact ho62
              have ho64 : O57 D 2 = .int (nI (kk + 1)) := by rw [hO57, au_row, gu_ne _ _ (by decide)]; exact ho63
              exact ih26 (i + 1) true (nWor (I (b + 9)) A2 B2) (nWor (I (d + 9)) B2 A2) (kk + 1) O57 (by omega) ⟨by omega, nWor_lt, nWor_lt, by omega⟩ (by simp only [*]; first | exact drO_3 _ _ _ _ _ _ _ _ | exact drO_2 _ _ _ _ _ _ _) (by simp only [if_pos c34] at h2; rw [show 8 - i = (8 - (i + 1)) + 1 from by omega, dropF] at h2; first | (simp only [if_true]; rw [← h2, if_neg (by omega)]) | (simp only [Bool.false_eq_true, if_false]; rw [← h2, if_pos (by omega)]; simp only [*])) _ _ hP hS ls (lv_sub hl [4, 5, 6, 1, 0] rfl)
  exact L26 9 0 true (2 ^ ch - 1) (2 ^ dh - 1) 0 O14 (by omega) (by omega) (by simp only [*]; rfl) rfl _ _ hP hS ls (lv_sub hl [2, 3, 4, 1, 0] rfl)
end
section
/-! ===== new objects and arrays ===== -/
section GA
variable {p : Program} {l : Launch} {e : Env} {R : Room} {s : State} {m : MethodId} {args : Array Value} {below : List Frame} {meth : Method} {c : Code} {H : Heap} {locs : List Loc} {cells slots : Nat} {Z : State → Prop}
variable {cc : ByteArray} {pc nL : Nat} {ls : Array Slot} {rest : List Value} {A : Nat → Prop} {G : gG} {T : gTy} {I : gI} {J : gJ} {Q : gR} {O : gO} {own nm : String} {ret : Option FieldType}
theorem gS_new {A : Nat → Prop} {H0 H H1 : Heap} {locs : List Loc} (h : va_S A H0 H locs) (z : H.size ≤ H1.size) (oq : ∀ q : Nat, q < H.size → H1[q]? = H[q]?) : va_S A H0 H1 locs := ⟨Nat.le_trans h.1 z, fun q h1 h2 => (oq q (Nat.lt_of_lt_of_le h1 h.1)).trans (h.2.1 q h1 h2), h.2.2⟩
theorem g_new (hC : gC G p m c cc nL s args own meth ret nm) (hP : gP G T I J Q O H) (hS : va_S A s.heap H locs) {ci : Nat} {C : String} {Tt : u_T} {N index : Nat} (hc : vwCl[ci]? = some (C, Tt, N)) (hin : ∀ w ∈ u_ws C Tt N, w ∈ gtb) (ty : Nat → FieldType) (hty : ∀ k, k < N → parseFieldDescriptor (Tt k).2.2.1 = some (ty k)) (hq : Cond.classLink own index C ∈ gtb ∧ Cond.instantiable C N ∈ gtb ∧ Cond.initialized C ∈ gtb) (Vf : Nat → Value) (hV : ∀ j, j < N → defaultValue (ty j) = Vf j) (hcells : cells + 1 ≤ R.cells) (hslots : slots + N ≤ R.slots) (hdg : decode cc pc = .ok (.new index, 3))
    (kk : ∀ H1 : Heap, gP G (gu T H.size (1, ci)) I J Q (gu O H.size Vf) H1 → va_S A s.heap H1 locs → H1.size = H.size + 1 → W p l e R s m args below meth c H1 locs (cells + 1) (slots + N) Z (F0 m (pc + 3) ls (.ref H.size :: rest))) : W p l e R s m args below meth c H locs cells slots Z (F0 m pc ls rest) := by
  obtain ⟨⟨hx, hb, -, hown, hts⟩, hK, -⟩ := hC
  have hKn := hK.1.1 ci _ hc
  refine W.newcK hx hb hown (hts _ hq.1) (hts _ hq.2.1) (hts _ hq.2.2) rfl hdg hcells hslots hKn.2.1 rfl fun H1 kC hkC e1 z1 o1 => ?_
  refine kk H1 (hP.set H.size (by omega) (fun q h _ => o1 q h) (fun q h => gu_ne _ _ h) (fun _ _ => rfl) (fun _ _ => rfl) (fun _ _ => rfl) (fun q h => gu_ne _ _ h) ?_) (gS_new hS (by omega) o1) z1
  rw [gu_eq, gu_eq]
  exact ⟨fun _ => ⟨_, hc, (u_born ty hts hin hKn hkC e1 hty).to hV⟩, fun h => absurd h (by simp), fun h => absurd h (by simp), fun h => absurd h (by simp), fun h => absurd h (by simp), fun _ => by omega⟩
theorem g_newI (hC : gC G p m c cc nL s args own meth ret nm) (hP : gP G T I J Q O H) (hS : va_S A s.heap H locs) (hq : Cond.arrayClass .int ∈ gtb) {n : Nat} (hn : n < 2 ^ 20) (hcells : cells + 1 ≤ R.cells) (hslots : slots + n ≤ R.slots) (hdg : decode cc pc = .ok (.newarray .int, 2))
    (kk : ∀ H1 : Heap, gP G (gu T H.size (2, n)) (gu I H.size (fun _ => 0)) J Q O H1 → va_S A s.heap H1 locs → H1.size = H.size + 1 → W p l e R s m args below meth c H1 locs (cells + 1) (slots + n) Z (F0 m (pc + 2) ls (.ref H.size :: rest))) : W p l e R s m args below meth c H locs cells slots Z (F0 m pc ls (.int (nI n) :: rest)) := by
  refine va_newaK (atype := .int) hC.1.1 hC.1.2.1 (hC.1.2.2.2.2 _ hq) rfl hdg rfl (nI_pos (by omega)) (nI_clamp (by omega)) (by show n * 4 ≤ _; omega) hcells hslots rfl fun H1 cA e1 z1 o1 hAr hNm => ?_
  have hcy : cA = G.2.1 := Option.some.inj (hNm.symm.trans (hC.2.1.1.2 0 _ rfl).2)
  subst hcy
  refine kk H1 (hP.set H.size (by omega) (fun q h _ => o1 q h) (fun q h => gu_ne _ _ h) (fun q h => gu_ne _ _ h) (fun _ _ => rfl) (fun _ _ => rfl) (fun _ _ => rfl) ?_) (gS_new hS (by omega) o1) z1
  rw [gu_eq, gu_eq]
  exact ⟨fun h => absurd h (by simp), fun _ => e1, fun h => absurd h (by simp), fun h => absurd h (by simp), fun h => absurd h (by simp), fun _ => by omega⟩
theorem g_newJ (hC : gC G p m c cc nL s args own meth ret nm) (hP : gP G T I J Q O H) (hS : va_S A s.heap H locs) (hq : Cond.arrayClass .long ∈ gtb) {n : Nat} (hn : n < 2 ^ 20) (hcells : cells + 1 ≤ R.cells) (hslots : slots + n ≤ R.slots) (hdg : decode cc pc = .ok (.newarray .long, 2))
    (kk : ∀ H1 : Heap, gP G (gu T H.size (3, n)) I (gu J H.size (fun _ => 0)) Q O H1 → va_S A s.heap H1 locs → H1.size = H.size + 1 → W p l e R s m args below meth c H1 locs (cells + 1) (slots + n) Z (F0 m (pc + 2) ls (.ref H.size :: rest))) : W p l e R s m args below meth c H locs cells slots Z (F0 m pc ls (.int (nI n) :: rest)) := by
  refine va_newaK (atype := .long) hC.1.1 hC.1.2.1 (hC.1.2.2.2.2 _ hq) rfl hdg rfl (nI_pos (by omega)) (nI_clamp (by omega)) (by show n * 8 ≤ _; omega) hcells hslots rfl fun H1 cA e1 z1 o1 hAr hNm => ?_
  have hcy : cA = G.2.2.1 := Option.some.inj (hNm.symm.trans (hC.2.1.1.2 1 _ rfl).2)
  subst hcy
  refine kk H1 (hP.set H.size (by omega) (fun q h _ => o1 q h) (fun q h => gu_ne _ _ h) (fun _ _ => rfl) (fun q h => gu_ne _ _ h) (fun _ _ => rfl) (fun _ _ => rfl) ?_) (gS_new hS (by omega) o1) z1
  rw [gu_eq, gu_eq]
  exact ⟨fun h => absurd h (by simp), fun h => absurd h (by simp), fun _ => e1, fun h => absurd h (by simp), fun h => absurd h (by simp), fun _ => by omega⟩
theorem g_newQ (hC : gC G p m c cc nL s args own meth ret nm) (hP : gP G T I J Q O H) (hS : va_S A s.heap H locs) {index : Nat} (hq : Cond.classLink own index "GameTables$Mix" ∈ gtb) {n : Nat} (hn : n < 2 ^ 20) (hcells : cells + 1 ≤ R.cells) (hslots : slots + n ≤ R.slots) (hdg : decode cc pc = .ok (.anewarray index, 3))
    (kk : ∀ H1 : Heap, gP G (gu T H.size (4, n)) I J (gu Q H.size (fun _ => none)) O H1 → va_S A s.heap H1 locs → H1.size = H.size + 1 → W p l e R s m args below meth c H1 locs (cells + 1) (slots + n) Z (F0 m (pc + 3) ls (.ref H.size :: rest))) : W p l e R s m args below meth c H locs cells slots Z (F0 m pc ls (.int (nI n) :: rest)) := by
  have hcl : (nI n).toNatClampNeg = n := nI_clamp (by omega)
  refine W.anew hC.1.1 hC.1.2.1 hC.1.2.2.2.1 (hC.1.2.2.2.2 _ hq) (gOv.use hC.2.1.2.2.1) rfl hdg rfl (nI_pos (by omega)) (by rw [hcl]; omega) hcells (by rw [hcl]; exact hslots) fun cA kA comp f1 f2 f3 f4 => ?_
  rw [hcl]
  generalize hH1 : H.push ({ cls := cA, slots := Array.replicate n .null, vm := .none } : Cell) = H1
  have z1 : H1.size = H.size + 1 := by rw [← hH1, Array.size_push]
  have e1 : H1[H.size]? = some (arrV cA n (fun _ => .null)) := by rw [← hH1, Array.getElem?_push_size, ← arrV_new]
  have o1 : ∀ q : Nat, q < H.size → H1[q]? = H[q]? := fun q hq => by rw [← hH1, Array.getElem?_push, if_neg (Nat.ne_of_lt hq)]
  obtain ⟨kA', comp', k1, k2, k3, k4⟩ := (hC.2.1.1.2 2 _ rfl).2
  have hcy : cA = G.2.2.2.1 := Option.some.inj (f1.symm.trans k4)
  subst hcy
  refine kk H1 (hP.set H.size (by omega) (fun q h _ => o1 q h) (fun q h => gu_ne _ _ h) (fun _ _ => rfl) (fun _ _ => rfl) (fun q h => gu_ne _ _ h) (fun _ _ => rfl) ?_) (gS_new hS (by omega) o1) z1
  rw [gu_eq, gu_eq]
  exact ⟨fun h => absurd h (by simp), fun h => absurd h (by simp), fun h => absurd h (by simp), fun _ => e1, fun h => absurd h (by simp), fun _ => by omega⟩
end GA
end
section
/-! ===== new long[3][4] ===== -/
theorem vr_outer (c : ClassId) (N h0 : Nat) : ∀ i : Nat, Jvm.Free.Multi.outerC c N h0 i = arrV c N (fun j => va_rf (if j < i then some (h0 + 1 + j) else none))
  | 0 => by
    show ({ cls := c, slots := Array.replicate N .null, vm := .none } : Cell) = _
    rw [arrV_new]
    refine congrArg (arrV c N) (funext fun j => ?_)
    simp [va_rf]
  | i + 1 => by
    show (Jvm.Free.Multi.outerC c N h0 i).setSlot i (.ref (h0 + 1 + i)) = _
    rw [vr_outer c N h0 i, arrV_store]
    refine congrArg (arrV c N) (funext fun j => ?_)
    by_cases e : j = i
    · subst e
      simp [updV, va_rf]
    · by_cases h : j < i
      · simp [updV, e, h, Nat.lt_succ_of_lt h]
      · simp [updV, e, h, show ¬ j < i + 1 by omega]
def mnT (T : gTy) (h : Nat) : gTy := gu (gu (gu (gu T h (5, 3)) (h + 1) (3, 4)) (h + 2) (3, 4)) (h + 3) (3, 4)
def mnJ (J : gJ) (h : Nat) : gJ := gu (gu (gu J (h + 1) (fun _ => 0)) (h + 2) (fun _ => 0)) (h + 3) (fun _ => 0)
def mnQ (Q : gR) (h : Nat) : gR := gu Q h (fun j => if j < 3 then some (h + 1 + j) else none)
section GM
variable {p : Program} {l : Launch} {e : Env} {R : Room} {s : State} {m : MethodId} {args : Array Value} {below : List Frame} {meth : Method} {c : Code} {H : Heap} {locs : List Loc} {cells slots : Nat} {Z : State → Prop}
variable {cc : ByteArray} {pc nL : Nat} {ls : Array Slot} {rest : List Value} {A : Nat → Prop} {G : gG} {T : gTy} {I : gI} {J : gJ} {Q : gR} {O : gO} {own nm : String} {ret : Option FieldType}
theorem g_mna (hC : gC G p m c cc nL s args own meth ret nm) (hP : gP G T I J Q O H) (hS : va_S A s.heap H locs) {index : Nat} (hq : Cond.classLink own index "[[J" ∈ gtb ∧ Cond.arrayClass .long ∈ gtb) (hcells : cells + 4 ≤ R.cells) (hslots : slots + 15 ≤ R.slots) (hdg : decode cc pc = .ok (.multianewarray index 2, 4))
    (kk : ∀ H1 : Heap, gP G (mnT T H.size) I (mnJ J H.size) (mnQ Q H.size) O H1 → va_S A s.heap H1 locs → H1.size = H.size + 4 → W p l e R s m args below meth c H1 locs (cells + 4) (slots + 15) Z (F0 m (pc + 4) ls (.ref H.size :: rest))) : W p l e R s m args below meth c H locs cells slots Z (F0 m pc ls (.int (nI 4) :: .int (nI 3) :: rest)) := by
  intro T0 hT Xs
  have c3 : (nI 3).toNatClampNeg = 3 := nI_clamp (by decide)
  have c4 : (nI 4).toNatClampNeg = 4 := nI_clamp (by decide)
  obtain ⟨vm₁, cA, comp, -, fA, fC, hO, -, X', step⟩ := Xs.multianewarray2F hC.1.1 hC.1.2.2.2.1 (ty := .long) (hC.1.2.2.2.2 _ hq.1) (gOv.use hC.2.1.2.2.2) (hC.1.2.2.2.2 _ hq.2) (g := F0 m pc ls (.int (nI 4) :: .int (nI 3) :: rest)) rfl (by rw [hC.1.2.1]; exact hdg) rfl (nI_pos (by decide)) (nI_pos (by decide)) (by rw [c3]; decide) (by rw [c4]; decide) (by rw [c4]; decide) rfl rfl (by rw [c3]; omega) (by rw [c3, c4]; omega)
  have ecA : cA = G.2.2.2.2 := Option.some.inj (fA.symm.trans (hC.2.1.1.2 3 _ rfl).2)
  have eco : comp = G.2.2.1 := Option.some.inj (fC.symm.trans (hC.2.1.1.2 1 _ rfl).2)
  subst ecA
  subst eco
  rw [c3, c4] at X' step
  generalize hF : Jvm.Free.Multi.fill (T0.setVm vm₁) G.2.2.2.2 G.2.2.1 3 4 (defaultValue .long) 3 = F at X' step
  have hTh : (T0.setVm vm₁).heap = H := hT
  obtain ⟨f1, f2, -, -⟩ := Jvm.Free.Multi.fill_facts (T0.setVm vm₁) G.2.2.2.2 G.2.2.1 3 4 (defaultValue .long) 3
  rw [hF, hTh] at f1 f2
  have hold : ∀ x : Nat, x < H.size → F.heap[x]? = H[x]? := fun x hx => by
    have := Jvm.Free.Multi.fill_old (T0.setVm vm₁) G.2.2.2.2 G.2.2.1 3 4 (defaultValue .long) (a := x) (by rw [hTh]; exact hx) 3
    rw [hF, hTh] at this
    exact this
  have hrow : ∀ j : Nat, j < 3 → F.heap[H.size + 1 + j]? = some (arrV G.2.2.1 4 (fun _ => .long 0)) := fun j hj => by
    have := Jvm.Free.Multi.fill_inner (T0.setVm vm₁) G.2.2.2.2 G.2.2.1 3 4 (defaultValue .long) 3 j hj
    rw [hF, hTh] at this
    rw [this]
    exact congrArg some (arrV_new _ _ _)
  rw [vr_outer] at f2
  have hP4 : gP G (mnT T H.size) I (mnJ J H.size) (mnQ Q H.size) O F.heap := by
    intro q
    by_cases h0 : q < H.size
    · have t : mnT T H.size q = T q := by
        unfold mnT; rw [gu_ne _ _ (by omega), gu_ne _ _ (by omega), gu_ne _ _ (by omega), gu_ne _ _ (by omega)]
      have j : mnJ J H.size q = J q := by
        unfold mnJ; rw [gu_ne _ _ (by omega), gu_ne _ _ (by omega), gu_ne _ _ (by omega)]
      have r : mnQ Q H.size q = Q q := by
        unfold mnQ; rw [gu_ne _ _ (by omega)]
      rw [t, j, r]
      exact (hP q).kept (hold q h0) (by omega)
    · by_cases h1 : q = H.size
      · subst h1
        have t : mnT T H.size H.size = (5, 3) := by
          unfold mnT; rw [gu_ne _ _ (by omega), gu_ne _ _ (by omega), gu_ne _ _ (by omega), gu_eq]
        have r : mnQ Q H.size H.size = (fun j => if j < 3 then some (H.size + 1 + j) else none) := gu_eq _ _ _
        rw [t, r]
        exact ⟨fun h => absurd h (by simp), fun h => absurd h (by simp), fun h => absurd h (by simp), fun h => absurd h (by simp), fun _ => f2, fun _ => by omega⟩
      · by_cases h2 : q < H.size + 4
        · have t : mnT T H.size q = (3, 4) := by
            unfold mnT
            rcases (show q = H.size + 1 ∨ q = H.size + 2 ∨ q = H.size + 3 by omega) with e | e | e <;> simp [gu, e]
          have j : mnJ J H.size q = fun _ => 0 := by
            unfold mnJ
            rcases (show q = H.size + 1 ∨ q = H.size + 2 ∨ q = H.size + 3 by omega) with e | e | e <;> simp [gu, e]
          have e := hrow (q - (H.size + 1)) (by omega)
          rw [show H.size + 1 + (q - (H.size + 1)) = q by omega] at e
          rw [t, j]
          exact ⟨fun h => absurd h (by simp), fun h => absurd h (by simp), fun _ => e, fun h => absurd h (by simp), fun h => absurd h (by simp), fun _ => by omega⟩
        · have t : mnT T H.size q = T q := by
            unfold mnT; rw [gu_ne _ _ (by omega), gu_ne _ _ (by omega), gu_ne _ _ (by omega), gu_ne _ _ (by omega)]
          refine gAt.none ?_
          rw [t]
          by_cases h3 : (T q).1 = 0
          · exact h3
          · exact absurd (hP.lt h3) (by omega)
  obtain ⟨t, a1, b1⟩ := kk F.heap hP4 (gS_new hS (by omega) hold) f1 F rfl X'
  refine ⟨t, step t ?_, b1⟩
  rw [hT]
  exact a1
end GM
end
