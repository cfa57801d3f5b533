/-! the words of the tables that stay good under a call -/
def gtb : List Cond := lw_tbl.filter goodWord
theorem gtb_of {w : Cond} (h : w ∈ tables_1) (hg : goodWord w = true) : w ∈ gtb := List.mem_filter.mpr ⟨List.mem_append_right _ h, hg⟩
theorem gtb_1 {w : Cond} (i : Nat) (h : tables_1_1[i]? = some w) (hg : goodWord w = true) : w ∈ gtb := gtb_of (by unfold tables_1; have h := List.mem_of_getElem? h; exact List.mem_append_left _ h) hg
theorem gtn_1 {w : Cond} (i : Nat) (h : tables_1_1[i]? = some w) : w ∈ tables_1 := (by unfold tables_1; have h := List.mem_of_getElem? h; exact List.mem_append_left _ h)
theorem gtb_2 {w : Cond} (i : Nat) (h : tables_1_2[i]? = some w) (hg : goodWord w = true) : w ∈ gtb := gtb_of (by unfold tables_1; have h := List.mem_of_getElem? h; exact List.mem_append_right _ (List.mem_append_left _ h)) hg
theorem gtn_2 {w : Cond} (i : Nat) (h : tables_1_2[i]? = some w) : w ∈ tables_1 := (by unfold tables_1; have h := List.mem_of_getElem? h; exact List.mem_append_right _ (List.mem_append_left _ h))
theorem gtb_3 {w : Cond} (i : Nat) (h : tables_1_3[i]? = some w) (hg : goodWord w = true) : w ∈ gtb := gtb_of (by unfold tables_1; have h := List.mem_of_getElem? h; exact List.mem_append_right _ (List.mem_append_right _ (List.mem_append_left _ h))) hg
theorem gtn_3 {w : Cond} (i : Nat) (h : tables_1_3[i]? = some w) : w ∈ tables_1 := (by unfold tables_1; have h := List.mem_of_getElem? h; exact List.mem_append_right _ (List.mem_append_right _ (List.mem_append_left _ h)))
theorem gtb_4 {w : Cond} (i : Nat) (h : tables_1_4[i]? = some w) (hg : goodWord w = true) : w ∈ gtb := gtb_of (by unfold tables_1; have h := List.mem_of_getElem? h; exact List.mem_append_right _ (List.mem_append_right _ (List.mem_append_right _ (h)))) hg
theorem gtn_4 {w : Cond} (i : Nat) (h : tables_1_4[i]? = some w) : w ∈ tables_1 := (by unfold tables_1; have h := List.mem_of_getElem? h; exact List.mem_append_right _ (List.mem_append_right _ (List.mem_append_right _ (h))))
theorem q1_0 : (Cond.initialized "GameTablesLaw") ∈ gtb := gtb_1 0 rfl rfl
theorem q1_1 : (Cond.initialized "GameTables") ∈ gtb := gtb_1 1 rfl rfl
theorem q1_2 : (Cond.initialized "GameTables$Player") ∈ gtb := gtb_1 2 rfl rfl
theorem q1_3 : (Cond.initialized "GameTables$Corners") ∈ gtb := gtb_1 3 rfl rfl
theorem q1_4 : (Cond.initialized "GameTables$Mix") ∈ gtb := gtb_1 4 rfl rfl
theorem q1_5 : (Cond.initialized "GameTables$Dropping") ∈ gtb := gtb_1 5 rfl rfl
theorem q1_6 : (Cond.initialized "GameTablesModel") ∈ gtb := gtb_1 6 rfl rfl
theorem q1_7 : (Cond.initialized "java/lang/Math") ∈ gtb := gtb_1 7 rfl rfl
theorem q1_8 : (Cond.initialized "java/lang/Integer") ∈ gtb := gtb_1 8 rfl rfl
theorem q1_9 : (Cond.classLink "GameTablesLaw" 7 "GameTables") ∈ gtb := gtb_1 9 rfl rfl
theorem q1_10 : (Cond.instantiable "GameTables" 5) ∈ gtb := gtb_1 10 rfl rfl
theorem q1_11 : (Cond.methodLink "GameTablesLaw" 9 ⟨"GameTables", "<init>", "()V"⟩) ∈ gtb := gtb_1 11 rfl rfl
theorem q1_12 : (Cond.instanceMethod ⟨"GameTables", "<init>", "()V"⟩) ∈ gtb := gtb_1 12 rfl rfl
theorem q1_13 : (Cond.code ⟨"GameTables", "<init>", "()V"⟩ prog_1_method_1_code 1 (Option.none : Option FieldType)) ∈ gtb := gtb_1 13 rfl rfl
theorem q1_14 : (Cond.methodLink "GameTables" 1 ⟨"java/lang/Object", "<init>", "()V"⟩) ∈ gtb := gtb_1 14 rfl rfl
theorem q1_15 : (Cond.instanceMethod ⟨"java/lang/Object", "<init>", "()V"⟩) ∈ gtb := gtb_1 15 rfl rfl
theorem q1_16 : (Cond.code ⟨"java/lang/Object", "<init>", "()V"⟩ object_method_1_code 1 (Option.none : Option FieldType)) ∈ gtb := gtb_1 16 rfl rfl
theorem q1_17 : (Cond.classLink "GameTables" 7 "GameTables$Player") ∈ gtb := gtb_1 17 rfl rfl
theorem q1_18 : (Cond.instantiable "GameTables$Player" 5) ∈ gtb := gtb_1 18 rfl rfl
theorem qn1_19 : (Cond.methodLinkNest "GameTables" 9 ⟨"GameTables$Player", "<init>", "()V"⟩ "GameTables") ∈ tables_1 := gtn_1 19 rfl
theorem q1_20 : (Cond.instanceMethod ⟨"GameTables$Player", "<init>", "()V"⟩) ∈ gtb := gtb_1 20 rfl rfl
theorem q1_21 : (Cond.code ⟨"GameTables$Player", "<init>", "()V"⟩ prog_5_method_1_code 1 (Option.none : Option FieldType)) ∈ gtb := gtb_1 21 rfl rfl
theorem q1_22 : (Cond.methodLink "GameTables$Player" 3 ⟨"java/lang/Object", "<init>", "()V"⟩) ∈ gtb := gtb_1 22 rfl rfl
theorem q1_23 : (Cond.classLink "GameTables$Player" 15 "GameTables$Corners") ∈ gtb := gtb_1 23 rfl rfl
theorem q1_24 : (Cond.instantiable "GameTables$Corners" 4) ∈ gtb := gtb_1 24 rfl rfl
theorem qn1_25 : (Cond.methodLinkNest "GameTables$Player" 17 ⟨"GameTables$Corners", "<init>", "()V"⟩ "GameTables") ∈ tables_1 := gtn_1 25 rfl
theorem q1_26 : (Cond.instanceMethod ⟨"GameTables$Corners", "<init>", "()V"⟩) ∈ gtb := gtb_1 26 rfl rfl
theorem q1_27 : (Cond.code ⟨"GameTables$Corners", "<init>", "()V"⟩ prog_2_method_1_code 1 (Option.none : Option FieldType)) ∈ gtb := gtb_1 27 rfl rfl
theorem q1_28 : (Cond.methodLink "GameTables$Corners" 3 ⟨"java/lang/Object", "<init>", "()V"⟩) ∈ gtb := gtb_1 28 rfl rfl
theorem q1_29 : (Cond.classLink "GameTables$Corners" 9 "GameTables$Mix") ∈ gtb := gtb_1 29 rfl rfl
theorem qn1_30 : (Cond.arrayOver (FieldType.object "GameTables$Mix")) ∈ tables_1 := gtn_1 30 rfl
theorem q1_31 : (Cond.instantiable "GameTables$Mix" 4) ∈ gtb := gtb_1 31 rfl rfl
theorem qn1_32 : (Cond.methodLinkNest "GameTables$Corners" 17 ⟨"GameTables$Mix", "<init>", "()V"⟩ "GameTables") ∈ tables_1 := gtn_1 32 rfl
theorem q1_33 : (Cond.instanceMethod ⟨"GameTables$Mix", "<init>", "()V"⟩) ∈ gtb := gtb_1 33 rfl rfl
theorem q1_34 : (Cond.code ⟨"GameTables$Mix", "<init>", "()V"⟩ prog_4_method_1_code 1 (Option.none : Option FieldType)) ∈ gtb := gtb_1 34 rfl rfl
theorem q1_35 : (Cond.methodLink "GameTables$Mix" 3 ⟨"java/lang/Object", "<init>", "()V"⟩) ∈ gtb := gtb_1 35 rfl rfl
theorem q1_36 : (Cond.fieldLink "GameTables$Mix" 9 "GameTables$Mix" "parts" "[J") ∈ gtb := gtb_1 36 rfl rfl
theorem q1_37 : (Cond.fieldLink "GameTables$Player" 36 "GameTables$Mix" "parts" "[J") ∈ gtb := gtb_1 37 rfl rfl
theorem q1_38 : (Cond.fieldLink "GameTables$Corners" 93 "GameTables$Mix" "parts" "[J") ∈ gtb := gtb_1 38 rfl rfl
theorem q1_39 : (Cond.fieldLink "GameTables" 144 "GameTables$Mix" "parts" "[J") ∈ gtb := gtb_1 39 rfl rfl
theorem q1_40 : (Cond.fieldLink "GameTables$Mix" 15 "GameTables$Mix" "total" "J") ∈ gtb := gtb_1 40 rfl rfl
theorem q1_41 : (Cond.fieldLink "GameTables$Player" 43 "GameTables$Mix" "total" "J") ∈ gtb := gtb_1 41 rfl rfl
theorem q1_42 : (Cond.fieldLink "GameTables" 148 "GameTables$Mix" "total" "J") ∈ gtb := gtb_1 42 rfl rfl
theorem q1_43 : (Cond.fieldLink "GameTables$Mix" 19 "GameTables$Mix" "used" "I") ∈ gtb := gtb_1 43 rfl rfl
theorem q1_44 : (Cond.fieldLink "GameTables" 90 "GameTables$Mix" "used" "I") ∈ gtb := gtb_1 44 rfl rfl
theorem q1_45 : (Cond.fieldLink "GameTables$Mix" 23 "GameTables$Mix" "answerBits" "I") ∈ gtb := gtb_1 45 rfl rfl
theorem q1_46 : (Cond.fieldLink "GameTables$Corners" 72 "GameTables$Mix" "answerBits" "I") ∈ gtb := gtb_1 46 rfl rfl
theorem q1_47 : (Cond.fieldLink "GameTables" 80 "GameTables$Mix" "answerBits" "I") ∈ gtb := gtb_1 47 rfl rfl
theorem q1_48 : (Cond.fieldLink "GameTables$Player" 51 "GameTables$Mix" "answerBits" "I") ∈ gtb := gtb_1 48 rfl rfl
theorem q1_49 : (Cond.laysFinal "GameTables$Mix" "GameTables$Mix" "parts" "[J") ∈ gtb := gtb_1 49 rfl rfl
theorem q1_51 : (Cond.lays "GameTables$Mix" "GameTables$Mix" "total" "J") ∈ gtb := gtb_1 51 rfl rfl
theorem q1_53 : (Cond.lays "GameTables$Mix" "GameTables$Mix" "used" "I") ∈ gtb := gtb_1 53 rfl rfl
theorem q1_55 : (Cond.lays "GameTables$Mix" "GameTables$Mix" "answerBits" "I") ∈ gtb := gtb_1 55 rfl rfl
theorem q1_58 : (Cond.arrayClass FieldType.long) ∈ gtb := gtb_1 58 rfl rfl
theorem q1_59 : (Cond.classLink "GameTables$Corners" 22 "[[J") ∈ gtb := gtb_1 59 rfl rfl
theorem qn1_60 : (Cond.arrayOver (FieldType.array FieldType.long)) ∈ tables_1 := gtn_1 60 rfl
theorem q1_61 : (Cond.fieldLink "GameTables$Corners" 27 "GameTables$Corners" "count" "I") ∈ gtb := gtb_1 61 rfl rfl
theorem q1_62 : (Cond.fieldLink "GameTables" 136 "GameTables$Corners" "count" "I") ∈ gtb := gtb_1 62 rfl rfl
theorem q1_63 : (Cond.fieldLink "GameTables$Corners" 11 "GameTables$Corners" "places" "[LGameTables$Mix;") ∈ gtb := gtb_1 63 rfl rfl
theorem q1_64 : (Cond.fieldLink "GameTables$Corners" 18 "GameTables$Corners" "spare" "LGameTables$Mix;") ∈ gtb := gtb_1 64 rfl rfl
theorem q1_65 : (Cond.fieldLink "GameTables$Corners" 24 "GameTables$Corners" "gaps" "[[J") ∈ gtb := gtb_1 65 rfl rfl
theorem q1_66 : (Cond.lays "GameTables$Corners" "GameTables$Corners" "count" "I") ∈ gtb := gtb_1 66 rfl rfl
theorem q1_68 : (Cond.laysFinal "GameTables$Corners" "GameTables$Corners" "places" "[LGameTables$Mix;") ∈ gtb := gtb_1 68 rfl rfl
theorem q1_70 : (Cond.lays "GameTables$Corners" "GameTables$Corners" "spare" "LGameTables$Mix;") ∈ gtb := gtb_1 70 rfl rfl
theorem q1_72 : (Cond.laysFinal "GameTables$Corners" "GameTables$Corners" "gaps" "[[J") ∈ gtb := gtb_1 72 rfl rfl
theorem q1_75 : (Cond.classLink "GameTables$Player" 29 "GameTables$Mix") ∈ gtb := gtb_1 75 rfl rfl
theorem qn1_76 : (Cond.methodLinkNest "GameTables$Player" 31 ⟨"GameTables$Mix", "<init>", "()V"⟩ "GameTables") ∈ tables_1 := gtn_1 76 rfl
theorem q1_77 : (Cond.fieldLink "GameTables$Player" 9 "GameTables$Player" "choices" "I") ∈ gtb := gtb_1 77 rfl rfl
theorem q1_78 : (Cond.fieldLink "GameTables" 120 "GameTables$Player" "choices" "I") ∈ gtb := gtb_1 78 rfl rfl
theorem q1_79 : (Cond.fieldLink "GameTables$Player" 18 "GameTables$Player" "ownCorners" "LGameTables$Corners;") ∈ gtb := gtb_1 79 rfl rfl
theorem q1_80 : (Cond.fieldLink "GameTables" 132 "GameTables$Player" "ownCorners" "LGameTables$Corners;") ∈ gtb := gtb_1 80 rfl rfl
theorem q1_81 : (Cond.fieldLink "GameTables$Player" 22 "GameTables$Player" "pays" "[I") ∈ gtb := gtb_1 81 rfl rfl
theorem q1_82 : (Cond.fieldLink "GameTables$Player" 26 "GameTables$Player" "weights" "[I") ∈ gtb := gtb_1 82 rfl rfl
theorem q1_83 : (Cond.fieldLink "GameTables$Player" 32 "GameTables$Player" "tray" "LGameTables$Mix;") ∈ gtb := gtb_1 83 rfl rfl
theorem q1_84 : (Cond.lays "GameTables$Player" "GameTables$Player" "choices" "I") ∈ gtb := gtb_1 84 rfl rfl
theorem q1_86 : (Cond.laysFinal "GameTables$Player" "GameTables$Player" "ownCorners" "LGameTables$Corners;") ∈ gtb := gtb_1 86 rfl rfl
theorem q1_88 : (Cond.laysFinal "GameTables$Player" "GameTables$Player" "pays" "[I") ∈ gtb := gtb_1 88 rfl rfl
theorem q1_90 : (Cond.laysFinal "GameTables$Player" "GameTables$Player" "weights" "[I") ∈ gtb := gtb_1 90 rfl rfl
theorem q1_92 : (Cond.laysFinal "GameTables$Player" "GameTables$Player" "tray" "LGameTables$Mix;") ∈ gtb := gtb_1 92 rfl rfl
theorem q1_95 : (Cond.arrayClass FieldType.int) ∈ gtb := gtb_1 95 rfl rfl
theorem q1_96 : (Cond.classLink "GameTables" 19 "GameTables$Dropping") ∈ gtb := gtb_1 96 rfl rfl
theorem q1_97 : (Cond.instantiable "GameTables$Dropping" 3) ∈ gtb := gtb_1 97 rfl rfl
theorem qn1_98 : (Cond.methodLinkNest "GameTables" 21 ⟨"GameTables$Dropping", "<init>", "()V"⟩ "GameTables") ∈ tables_1 := gtn_1 98 rfl
theorem q1_99 : (Cond.instanceMethod ⟨"GameTables$Dropping", "<init>", "()V"⟩) ∈ gtb := gtb_1 99 rfl rfl
theorem q1_100 : (Cond.code ⟨"GameTables$Dropping", "<init>", "()V"⟩ prog_3_method_1_code 1 (Option.none : Option FieldType)) ∈ gtb := gtb_1 100 rfl rfl
theorem q1_101 : (Cond.methodLink "GameTables$Dropping" 3 ⟨"java/lang/Object", "<init>", "()V"⟩) ∈ gtb := gtb_1 101 rfl rfl
theorem q1_102 : (Cond.fieldLink "GameTables$Dropping" 15 "GameTables$Dropping" "rowsLeft" "I") ∈ gtb := gtb_1 102 rfl rfl
theorem q1_103 : (Cond.fieldLink "GameTables" 111 "GameTables$Dropping" "rowsLeft" "I") ∈ gtb := gtb_1 103 rfl rfl
theorem q1_104 : (Cond.fieldLink "GameTables$Dropping" 21 "GameTables$Dropping" "columnsLeft" "I") ∈ gtb := gtb_1 104 rfl rfl
theorem q1_105 : (Cond.fieldLink "GameTables" 114 "GameTables$Dropping" "columnsLeft" "I") ∈ gtb := gtb_1 105 rfl rfl
theorem q1_106 : (Cond.fieldLink "GameTables$Dropping" 24 "GameTables$Dropping" "rounds" "I") ∈ gtb := gtb_1 106 rfl rfl
theorem q1_107 : (Cond.fieldLink "GameTables" 117 "GameTables$Dropping" "rounds" "I") ∈ gtb := gtb_1 107 rfl rfl
theorem q1_108 : (Cond.lays "GameTables$Dropping" "GameTables$Dropping" "rowsLeft" "I") ∈ gtb := gtb_1 108 rfl rfl
theorem q1_110 : (Cond.lays "GameTables$Dropping" "GameTables$Dropping" "columnsLeft" "I") ∈ gtb := gtb_1 110 rfl rfl
theorem q1_112 : (Cond.lays "GameTables$Dropping" "GameTables$Dropping" "rounds" "I") ∈ gtb := gtb_1 112 rfl rfl
theorem q1_115 : (Cond.fieldLink "GameTables" 10 "GameTables" "row" "LGameTables$Player;") ∈ gtb := gtb_1 115 rfl rfl
theorem q1_116 : (Cond.fieldLink "GameTables" 16 "GameTables" "column" "LGameTables$Player;") ∈ gtb := gtb_1 116 rfl rfl
theorem q1_117 : (Cond.fieldLink "GameTables" 22 "GameTables" "dropping" "LGameTables$Dropping;") ∈ gtb := gtb_1 117 rfl rfl
theorem q1_118 : (Cond.fieldLink "GameTables" 26 "GameTables" "refusals" "[I") ∈ gtb := gtb_1 118 rfl rfl
theorem q1_119 : (Cond.fieldLink "GameTables" 30 "GameTables" "cornersKnown" "Z") ∈ gtb := gtb_1 119 rfl rfl
theorem q1_120 : (Cond.lays "GameTables" "GameTables" "row" "LGameTables$Player;") ∈ gtb := gtb_1 120 rfl rfl
theorem q1_122 : (Cond.lays "GameTables" "GameTables" "column" "LGameTables$Player;") ∈ gtb := gtb_1 122 rfl rfl
theorem q1_124 : (Cond.laysFinal "GameTables" "GameTables" "dropping" "LGameTables$Dropping;") ∈ gtb := gtb_1 124 rfl rfl
theorem q1_126 : (Cond.laysFinal "GameTables" "GameTables" "refusals" "[I") ∈ gtb := gtb_1 126 rfl rfl
theorem q1_128 : (Cond.lays "GameTables" "GameTables" "cornersKnown" "Z") ∈ gtb := gtb_1 128 rfl rfl
theorem q1_131 : (Cond.methodLink "GameTablesLaw" 13 ⟨"GameTables", "game", "(II)I"⟩) ∈ gtb := gtb_1 131 rfl rfl
theorem q1_132 : (Cond.instanceMethod ⟨"GameTables", "game", "(II)I"⟩) ∈ gtb := gtb_1 132 rfl rfl
theorem q1_133 : (Cond.selects "GameTables" ⟨"GameTables", "game", "(II)I"⟩ ⟨"GameTables", "game", "(II)I"⟩) ∈ gtb := gtb_1 133 rfl rfl
theorem q1_134 : (Cond.code ⟨"GameTables", "game", "(II)I"⟩ prog_1_method_2_code 3 (Option.some FieldType.int)) ∈ gtb := gtb_1 134 rfl rfl
theorem q1_135 : (Cond.methodLink "GameTables" 34 ⟨"GameTables", "refuse", "(I)I"⟩) ∈ gtb := gtb_1 135 rfl rfl
theorem q1_137 : (Cond.instanceMethod ⟨"GameTables", "refuse", "(I)I"⟩) ∈ gtb := gtb_1 137 rfl rfl
theorem q1_138 : (Cond.code ⟨"GameTables", "refuse", "(I)I"⟩ prog_1_method_25_code 2 (Option.some FieldType.int)) ∈ gtb := gtb_1 138 rfl rfl
theorem q1_139 : (Cond.methodLink "GameTables" 38 ⟨"GameTables$Player", "startAnew", "(I)V"⟩) ∈ gtb := gtb_1 139 rfl rfl
theorem q1_140 : (Cond.instanceMethod ⟨"GameTables$Player", "startAnew", "(I)V"⟩) ∈ gtb := gtb_1 140 rfl rfl
theorem q1_141 : (Cond.selects "GameTables$Player" ⟨"GameTables$Player", "startAnew", "(I)V"⟩ ⟨"GameTables$Player", "startAnew", "(I)V"⟩) ∈ gtb := gtb_1 141 rfl rfl
theorem q1_142 : (Cond.code ⟨"GameTables$Player", "startAnew", "(I)V"⟩ prog_5_method_2_code 3 (Option.none : Option FieldType)) ∈ gtb := gtb_1 142 rfl rfl
theorem q1_143 : (Cond.methodLink "GameTablesLaw" 18 ⟨"GameTables", "pay", "(IIII)I"⟩) ∈ gtb := gtb_1 143 rfl rfl
theorem q1_144 : (Cond.instanceMethod ⟨"GameTables", "pay", "(IIII)I"⟩) ∈ gtb := gtb_1 144 rfl rfl
theorem q1_145 : (Cond.selects "GameTables" ⟨"GameTables", "pay", "(IIII)I"⟩ ⟨"GameTables", "pay", "(IIII)I"⟩) ∈ gtb := gtb_1 145 rfl rfl
theorem q1_146 : (Cond.code ⟨"GameTables", "pay", "(IIII)I"⟩ prog_1_method_3_code 8 (Option.some FieldType.int)) ∈ gtb := gtb_1 146 rfl rfl
theorem q1_147 : (Cond.methodLink "GameTables" 42 ⟨"GameTables", "isPlace", "(III)Z"⟩) ∈ gtb := gtb_1 147 rfl rfl
theorem q1_149 : (Cond.instanceMethod ⟨"GameTables", "isPlace", "(III)Z"⟩) ∈ gtb := gtb_1 149 rfl rfl
theorem q1_150 : (Cond.code ⟨"GameTables", "isPlace", "(III)Z"⟩ prog_1_method_29_code 4 (Option.some FieldType.boolean)) ∈ gtb := gtb_1 150 rfl rfl
theorem q1_151 : (Cond.methodLink "GameTables" 61 ⟨"GameTables", "isWho", "(I)Z"⟩) ∈ gtb := gtb_1 151 rfl rfl
theorem q1_152 : (Cond.static ⟨"GameTables", "isWho", "(I)Z"⟩) ∈ gtb := gtb_1 152 rfl rfl
theorem q1_153 : (Cond.code ⟨"GameTables", "isWho", "(I)Z"⟩ prog_1_method_28_code 1 (Option.some FieldType.boolean)) ∈ gtb := gtb_1 153 rfl rfl
theorem q1_154 : (Cond.methodLink "GameTables" 96 ⟨"GameTables$Player", "hasChoice", "(I)Z"⟩) ∈ gtb := gtb_1 154 rfl rfl
theorem q1_155 : (Cond.instanceMethod ⟨"GameTables$Player", "hasChoice", "(I)Z"⟩) ∈ gtb := gtb_1 155 rfl rfl
theorem q1_156 : (Cond.selects "GameTables$Player" ⟨"GameTables$Player", "hasChoice", "(I)Z"⟩ ⟨"GameTables$Player", "hasChoice", "(I)Z"⟩) ∈ gtb := gtb_1 156 rfl rfl
theorem q1_157 : (Cond.code ⟨"GameTables$Player", "hasChoice", "(I)Z"⟩ prog_5_method_3_code 2 (Option.some FieldType.boolean)) ∈ gtb := gtb_1 157 rfl rfl
theorem q1_158 : (Cond.methodLink "GameTables" 46 ⟨"GameTables", "refuseAmongPays", "(I)I"⟩) ∈ gtb := gtb_1 158 rfl rfl
theorem q1_160 : (Cond.instanceMethod ⟨"GameTables", "refuseAmongPays", "(I)I"⟩) ∈ gtb := gtb_1 160 rfl rfl
theorem q1_161 : (Cond.code ⟨"GameTables", "refuseAmongPays", "(I)I"⟩ prog_1_method_26_code 2 (Option.some FieldType.int)) ∈ gtb := gtb_1 161 rfl rfl
theorem q1_162 : (Cond.constant "GameTables" 200 (1000000000 : Int32)) ∈ gtb := gtb_1 162 rfl rfl
theorem q1_163 : (Cond.methodLink "GameTables" 49 ⟨"GameTables", "player", "(I)LGameTables$Player;"⟩) ∈ gtb := gtb_1 163 rfl rfl
theorem q1_165 : (Cond.instanceMethod ⟨"GameTables", "player", "(I)LGameTables$Player;"⟩) ∈ gtb := gtb_1 165 rfl rfl
theorem q1_166 : (Cond.code ⟨"GameTables", "player", "(I)LGameTables$Player;"⟩ prog_1_method_30_code 2 (Option.some (FieldType.object "GameTables$Player"))) ∈ gtb := gtb_1 166 rfl rfl
theorem q1_167 : (Cond.methodLink "GameTables" 53 ⟨"GameTables$Player", "payFor", "(II)I"⟩) ∈ gtb := gtb_1 167 rfl rfl
theorem q1_168 : (Cond.instanceMethod ⟨"GameTables$Player", "payFor", "(II)I"⟩) ∈ gtb := gtb_1 168 rfl rfl
theorem q1_169 : (Cond.selects "GameTables$Player" ⟨"GameTables$Player", "payFor", "(II)I"⟩ ⟨"GameTables$Player", "payFor", "(II)I"⟩) ∈ gtb := gtb_1 169 rfl rfl
theorem q1_170 : (Cond.code ⟨"GameTables$Player", "payFor", "(II)I"⟩ prog_5_method_5_code 3 (Option.some FieldType.int)) ∈ gtb := gtb_1 170 rfl rfl
theorem q1_171 : (Cond.methodLink "GameTables" 57 ⟨"GameTables$Player", "setPay", "(III)V"⟩) ∈ gtb := gtb_1 171 rfl rfl
theorem q1_172 : (Cond.instanceMethod ⟨"GameTables$Player", "setPay", "(III)V"⟩) ∈ gtb := gtb_1 172 rfl rfl
theorem q1_173 : (Cond.selects "GameTables$Player" ⟨"GameTables$Player", "setPay", "(III)V"⟩ ⟨"GameTables$Player", "setPay", "(III)V"⟩) ∈ gtb := gtb_1 173 rfl rfl
theorem q1_174 : (Cond.code ⟨"GameTables$Player", "setPay", "(III)V"⟩ prog_5_method_6_code 4 (Option.none : Option FieldType)) ∈ gtb := gtb_1 174 rfl rfl
theorem q1_175 : (Cond.methodLink "GameTablesLaw" 23 ⟨"GameTables", "paid", "(III)I"⟩) ∈ gtb := gtb_1 175 rfl rfl
theorem q1_176 : (Cond.instanceMethod ⟨"GameTables", "paid", "(III)I"⟩) ∈ gtb := gtb_1 176 rfl rfl
theorem q1_177 : (Cond.selects "GameTables" ⟨"GameTables", "paid", "(III)I"⟩ ⟨"GameTables", "paid", "(III)I"⟩) ∈ gtb := gtb_1 177 rfl rfl
theorem q1_178 : (Cond.code ⟨"GameTables", "paid", "(III)I"⟩ prog_1_method_4_code 4 (Option.some FieldType.int)) ∈ gtb := gtb_1 178 rfl rfl
theorem q1_179 : (Cond.methodLink "GameTablesLaw" 28 ⟨"GameTables", "weight", "(III)I"⟩) ∈ gtb := gtb_1 179 rfl rfl
theorem q1_180 : (Cond.instanceMethod ⟨"GameTables", "weight", "(III)I"⟩) ∈ gtb := gtb_1 180 rfl rfl
theorem q1_181 : (Cond.selects "GameTables" ⟨"GameTables", "weight", "(III)I"⟩ ⟨"GameTables", "weight", "(III)I"⟩) ∈ gtb := gtb_1 181 rfl rfl
theorem q1_182 : (Cond.code ⟨"GameTables", "weight", "(III)I"⟩ prog_1_method_5_code 4 (Option.some FieldType.int)) ∈ gtb := gtb_1 182 rfl rfl
theorem q1_183 : (Cond.methodLink "GameTables" 65 ⟨"GameTables$Player", "changeWeight", "(II)I"⟩) ∈ gtb := gtb_1 183 rfl rfl
theorem q1_184 : (Cond.instanceMethod ⟨"GameTables$Player", "changeWeight", "(II)I"⟩) ∈ gtb := gtb_1 184 rfl rfl
theorem q1_185 : (Cond.selects "GameTables$Player" ⟨"GameTables$Player", "changeWeight", "(II)I"⟩ ⟨"GameTables$Player", "changeWeight", "(II)I"⟩) ∈ gtb := gtb_1 185 rfl rfl
theorem q1_186 : (Cond.code ⟨"GameTables$Player", "changeWeight", "(II)I"⟩ prog_5_method_7_code 4 (Option.some FieldType.int)) ∈ gtb := gtb_1 186 rfl rfl
theorem q1_187 : (Cond.methodLink "GameTablesLaw" 32 ⟨"GameTables", "mean", "(II)J"⟩) ∈ gtb := gtb_1 187 rfl rfl
theorem q1_188 : (Cond.instanceMethod ⟨"GameTables", "mean", "(II)J"⟩) ∈ gtb := gtb_1 188 rfl rfl
theorem q1_189 : (Cond.selects "GameTables" ⟨"GameTables", "mean", "(II)J"⟩ ⟨"GameTables", "mean", "(II)J"⟩) ∈ gtb := gtb_1 189 rfl rfl
theorem q1_190 : (Cond.code ⟨"GameTables", "mean", "(II)J"⟩ prog_1_method_6_code 5 (Option.some FieldType.long)) ∈ gtb := gtb_1 190 rfl rfl
theorem q1_191 : (Cond.methodLink "GameTables" 68 ⟨"GameTables", "refuseAmongLongs", "(I)J"⟩) ∈ gtb := gtb_1 191 rfl rfl
theorem q1_193 : (Cond.instanceMethod ⟨"GameTables", "refuseAmongLongs", "(I)J"⟩) ∈ gtb := gtb_1 193 rfl rfl
theorem q1_194 : (Cond.code ⟨"GameTables", "refuseAmongLongs", "(I)J"⟩ prog_1_method_27_code 2 (Option.some FieldType.long)) ∈ gtb := gtb_1 194 rfl rfl
theorem q1_195 : (Cond.constantLong "GameTables" 201 (4000000000000000000 : Int64)) ∈ gtb := gtb_1 195 rfl rfl
theorem q1_196 : (Cond.methodLink "GameTables" 72 ⟨"GameTables", "trayOf", "(I)LGameTables$Mix;"⟩) ∈ gtb := gtb_1 196 rfl rfl
theorem q1_198 : (Cond.instanceMethod ⟨"GameTables", "trayOf", "(I)LGameTables$Mix;"⟩) ∈ gtb := gtb_1 198 rfl rfl
theorem q1_199 : (Cond.code ⟨"GameTables", "trayOf", "(I)LGameTables$Mix;"⟩ prog_1_method_31_code 2 (Option.some (FieldType.object "GameTables$Mix"))) ∈ gtb := gtb_1 199 rfl rfl
theorem q1_200 : (Cond.methodLink "GameTables" 203 ⟨"GameTables$Player", "trayMix", "(LGameTables$Player;)LGameTables$Mix;"⟩) ∈ gtb := gtb_1 200 rfl rfl
theorem q1_201 : (Cond.instanceMethod ⟨"GameTables$Player", "trayMix", "(LGameTables$Player;)LGameTables$Mix;"⟩) ∈ gtb := gtb_1 201 rfl rfl
theorem q1_202 : (Cond.selects "GameTables$Player" ⟨"GameTables$Player", "trayMix", "(LGameTables$Player;)LGameTables$Mix;"⟩ ⟨"GameTables$Player", "trayMix", "(LGameTables$Player;)LGameTables$Mix;"⟩) ∈ gtb := gtb_1 202 rfl rfl
theorem q1_203 : (Cond.code ⟨"GameTables$Player", "trayMix", "(LGameTables$Player;)LGameTables$Mix;"⟩ prog_5_method_8_code 3 (Option.some (FieldType.object "GameTables$Mix"))) ∈ gtb := gtb_1 203 rfl rfl
theorem q1_204 : (Cond.methodLink "GameTables$Player" 40 ⟨"GameTables$Mix", "sumUp", "()V"⟩) ∈ gtb := gtb_1 204 rfl rfl
theorem q1_205 : (Cond.instanceMethod ⟨"GameTables$Mix", "sumUp", "()V"⟩) ∈ gtb := gtb_1 205 rfl rfl
theorem q1_206 : (Cond.selects "GameTables$Mix" ⟨"GameTables$Mix", "sumUp", "()V"⟩ ⟨"GameTables$Mix", "sumUp", "()V"⟩) ∈ gtb := gtb_1 206 rfl rfl
theorem q1_207 : (Cond.code ⟨"GameTables$Mix", "sumUp", "()V"⟩ prog_4_method_2_code 2 (Option.none : Option FieldType)) ∈ gtb := gtb_1 207 rfl rfl
theorem q1_208 : (Cond.methodLink "GameTables$Player" 47 ⟨"GameTables$Player", "answersTo", "(LGameTables$Mix;)I"⟩) ∈ gtb := gtb_1 208 rfl rfl
theorem q1_209 : (Cond.instanceMethod ⟨"GameTables$Player", "answersTo", "(LGameTables$Mix;)I"⟩) ∈ gtb := gtb_1 209 rfl rfl
theorem q1_210 : (Cond.selects "GameTables$Player" ⟨"GameTables$Player", "answersTo", "(LGameTables$Mix;)I"⟩ ⟨"GameTables$Player", "answersTo", "(LGameTables$Mix;)I"⟩) ∈ gtb := gtb_1 210 rfl rfl
theorem q1_211 : (Cond.code ⟨"GameTables$Player", "answersTo", "(LGameTables$Mix;)I"⟩ prog_5_method_10_code 8 (Option.some FieldType.int)) ∈ gtb := gtb_1 211 rfl rfl
theorem q1_212 : (Cond.methodLink "GameTables$Player" 58 ⟨"GameTables$Player", "worthOf", "(ILGameTables$Mix;)J"⟩) ∈ gtb := gtb_1 212 rfl rfl
theorem q1_214 : (Cond.instanceMethod ⟨"GameTables$Player", "worthOf", "(ILGameTables$Mix;)J"⟩) ∈ gtb := gtb_1 214 rfl rfl
theorem q1_215 : (Cond.code ⟨"GameTables$Player", "worthOf", "(ILGameTables$Mix;)J"⟩ prog_5_method_9_code 6 (Option.some FieldType.long)) ∈ gtb := gtb_1 215 rfl rfl
theorem q1_216 : (Cond.methodLink "GameTables$Player" 54 ⟨"GameTables$Player", "payFor", "(II)I"⟩) ∈ gtb := gtb_1 216 rfl rfl
theorem q1_217 : (Cond.methodLink "GameTables" 76 ⟨"GameTables$Player", "meanPart", "(LGameTables$Mix;LGameTables$Mix;I)J"⟩) ∈ gtb := gtb_1 217 rfl rfl
theorem q1_218 : (Cond.instanceMethod ⟨"GameTables$Player", "meanPart", "(LGameTables$Mix;LGameTables$Mix;I)J"⟩) ∈ gtb := gtb_1 218 rfl rfl
theorem q1_219 : (Cond.selects "GameTables$Player" ⟨"GameTables$Player", "meanPart", "(LGameTables$Mix;LGameTables$Mix;I)J"⟩ ⟨"GameTables$Player", "meanPart", "(LGameTables$Mix;LGameTables$Mix;I)J"⟩) ∈ gtb := gtb_1 219 rfl rfl
theorem q1_220 : (Cond.code ⟨"GameTables$Player", "meanPart", "(LGameTables$Mix;LGameTables$Mix;I)J"⟩ prog_5_method_11_code 7 (Option.some FieldType.long)) ∈ gtb := gtb_1 220 rfl rfl
theorem qn1_221 : (Cond.methodLinkNest "GameTables$Player" 62 ⟨"GameTables", "lowest", "(JJI)J"⟩ "GameTables") ∈ tables_1 := gtn_1 221 rfl
theorem q1_222 : (Cond.static ⟨"GameTables", "lowest", "(JJI)J"⟩) ∈ gtb := gtb_1 222 rfl rfl
theorem q1_223 : (Cond.code ⟨"GameTables", "lowest", "(JJI)J"⟩ prog_1_method_39_code 7 (Option.some FieldType.long)) ∈ gtb := gtb_1 223 rfl rfl
theorem q1_224 : (Cond.methodLink "GameTables" 224 ⟨"java/lang/Math", "abs", "(J)J"⟩) ∈ gtb := gtb_1 224 rfl rfl
theorem q1_225 : (Cond.static ⟨"java/lang/Math", "abs", "(J)J"⟩) ∈ gtb := gtb_1 225 rfl rfl
theorem q1_226 : (Cond.code ⟨"java/lang/Math", "abs", "(J)J"⟩ prog_9_method_61_code 2 (Option.some FieldType.long)) ∈ gtb := gtb_1 226 rfl rfl
theorem q1_227 : (Cond.methodLink "GameTables" 230 ⟨"GameTables", "commonFactor", "(JJ)J"⟩) ∈ gtb := gtb_1 227 rfl rfl
theorem q1_228 : (Cond.static ⟨"GameTables", "commonFactor", "(JJ)J"⟩) ∈ gtb := gtb_1 228 rfl rfl
theorem q1_229 : (Cond.code ⟨"GameTables", "commonFactor", "(JJ)J"⟩ prog_1_method_40_code 11 (Option.some FieldType.long)) ∈ gtb := gtb_1 229 rfl rfl
theorem q1_230 : (Cond.methodLink "GameTablesLaw" 37 ⟨"GameTables", "answers", "(I)I"⟩) ∈ gtb := gtb_1 230 rfl rfl
theorem q1_231 : (Cond.instanceMethod ⟨"GameTables", "answers", "(I)I"⟩) ∈ gtb := gtb_1 231 rfl rfl
theorem q1_232 : (Cond.selects "GameTables" ⟨"GameTables", "answers", "(I)I"⟩ ⟨"GameTables", "answers", "(I)I"⟩) ∈ gtb := gtb_1 232 rfl rfl
theorem q1_233 : (Cond.code ⟨"GameTables", "answers", "(I)I"⟩ prog_1_method_7_code 3 (Option.some FieldType.int)) ∈ gtb := gtb_1 233 rfl rfl
theorem q1_234 : (Cond.methodLink "GameTablesLaw" 42 ⟨"GameTables", "is", "()I"⟩) ∈ gtb := gtb_1 234 rfl rfl
theorem q1_235 : (Cond.instanceMethod ⟨"GameTables", "is", "()I"⟩) ∈ gtb := gtb_1 235 rfl rfl
theorem q1_236 : (Cond.selects "GameTables" ⟨"GameTables", "is", "()I"⟩ ⟨"GameTables", "is", "()I"⟩) ∈ gtb := gtb_1 236 rfl rfl
theorem q1_237 : (Cond.code ⟨"GameTables", "is", "()I"⟩ prog_1_method_8_code 3 (Option.some FieldType.int)) ∈ gtb := gtb_1 237 rfl rfl
theorem q1_238 : (Cond.methodLink "GameTables" 86 ⟨"GameTables$Mix", "fits", "(LGameTables$Mix;)Z"⟩) ∈ gtb := gtb_1 238 rfl rfl
theorem q1_239 : (Cond.instanceMethod ⟨"GameTables$Mix", "fits", "(LGameTables$Mix;)Z"⟩) ∈ gtb := gtb_1 239 rfl rfl
theorem q2_0 : (Cond.selects "GameTables$Mix" ⟨"GameTables$Mix", "fits", "(LGameTables$Mix;)Z"⟩ ⟨"GameTables$Mix", "fits", "(LGameTables$Mix;)Z"⟩) ∈ gtb := gtb_2 0 rfl rfl
theorem q2_1 : (Cond.code ⟨"GameTables$Mix", "fits", "(LGameTables$Mix;)Z"⟩ prog_4_method_4_code 2 (Option.some FieldType.boolean)) ∈ gtb := gtb_2 1 rfl rfl
theorem q2_2 : (Cond.methodLink "GameTablesLaw" 47 ⟨"GameTables", "why", "()I"⟩) ∈ gtb := gtb_2 2 rfl rfl
theorem q2_3 : (Cond.instanceMethod ⟨"GameTables", "why", "()I"⟩) ∈ gtb := gtb_2 3 rfl rfl
theorem q2_4 : (Cond.selects "GameTables" ⟨"GameTables", "why", "()I"⟩ ⟨"GameTables", "why", "()I"⟩) ∈ gtb := gtb_2 4 rfl rfl
theorem q2_5 : (Cond.code ⟨"GameTables", "why", "()I"⟩ prog_1_method_9_code 5 (Option.some FieldType.int)) ∈ gtb := gtb_2 5 rfl rfl
theorem q2_6 : (Cond.methodLink "GameTables" 93 ⟨"GameTables", "firstOf", "(I)I"⟩) ∈ gtb := gtb_2 6 rfl rfl
theorem q2_7 : (Cond.static ⟨"GameTables", "firstOf", "(I)I"⟩) ∈ gtb := gtb_2 7 rfl rfl
theorem q2_8 : (Cond.code ⟨"GameTables", "firstOf", "(I)I"⟩ prog_1_method_38_code 2 (Option.some FieldType.int)) ∈ gtb := gtb_2 8 rfl rfl
theorem q2_9 : (Cond.methodLink "GameTables" 220 ⟨"GameTables", "hasBit", "(II)Z"⟩) ∈ gtb := gtb_2 9 rfl rfl
theorem q2_10 : (Cond.static ⟨"GameTables", "hasBit", "(II)Z"⟩) ∈ gtb := gtb_2 10 rfl rfl
theorem q2_11 : (Cond.code ⟨"GameTables", "hasBit", "(II)Z"⟩ prog_1_method_37_code 2 (Option.some FieldType.boolean)) ∈ gtb := gtb_2 11 rfl rfl
theorem q2_12 : (Cond.methodLink "GameTablesLaw" 51 ⟨"GameTables", "worse", "(II)I"⟩) ∈ gtb := gtb_2 12 rfl rfl
theorem q2_13 : (Cond.instanceMethod ⟨"GameTables", "worse", "(II)I"⟩) ∈ gtb := gtb_2 13 rfl rfl
theorem q2_14 : (Cond.selects "GameTables" ⟨"GameTables", "worse", "(II)I"⟩ ⟨"GameTables", "worse", "(II)I"⟩) ∈ gtb := gtb_2 14 rfl rfl
theorem q2_15 : (Cond.code ⟨"GameTables", "worse", "(II)I"⟩ prog_1_method_10_code 3 (Option.some FieldType.int)) ∈ gtb := gtb_2 15 rfl rfl
theorem q2_16 : (Cond.methodLink "GameTables" 99 ⟨"GameTables$Player", "allBits", "()I"⟩) ∈ gtb := gtb_2 16 rfl rfl
theorem q2_17 : (Cond.instanceMethod ⟨"GameTables$Player", "allBits", "()I"⟩) ∈ gtb := gtb_2 17 rfl rfl
theorem q2_18 : (Cond.selects "GameTables$Player" ⟨"GameTables$Player", "allBits", "()I"⟩ ⟨"GameTables$Player", "allBits", "()I"⟩) ∈ gtb := gtb_2 18 rfl rfl
theorem q2_19 : (Cond.code ⟨"GameTables$Player", "allBits", "()I"⟩ prog_5_method_4_code 1 (Option.some FieldType.int)) ∈ gtb := gtb_2 19 rfl rfl
theorem q2_20 : (Cond.methodLink "GameTables" 103 ⟨"GameTables$Player", "firstBetter", "(III)I"⟩) ∈ gtb := gtb_2 20 rfl rfl
theorem q2_21 : (Cond.instanceMethod ⟨"GameTables$Player", "firstBetter", "(III)I"⟩) ∈ gtb := gtb_2 21 rfl rfl
theorem q2_22 : (Cond.selects "GameTables$Player" ⟨"GameTables$Player", "firstBetter", "(III)I"⟩ ⟨"GameTables$Player", "firstBetter", "(III)I"⟩) ∈ gtb := gtb_2 22 rfl rfl
theorem q2_23 : (Cond.code ⟨"GameTables$Player", "firstBetter", "(III)I"⟩ prog_5_method_13_code 5 (Option.some FieldType.int)) ∈ gtb := gtb_2 23 rfl rfl
theorem qn2_24 : (Cond.methodLinkNest "GameTables$Player" 66 ⟨"GameTables", "hasBit", "(II)Z"⟩ "GameTables") ∈ tables_1 := gtn_2 24 rfl
theorem q2_25 : (Cond.methodLink "GameTables$Player" 70 ⟨"GameTables$Player", "paysMore", "(III)Z"⟩) ∈ gtb := gtb_2 25 rfl rfl
theorem q2_27 : (Cond.instanceMethod ⟨"GameTables$Player", "paysMore", "(III)Z"⟩) ∈ gtb := gtb_2 27 rfl rfl
theorem q2_28 : (Cond.code ⟨"GameTables$Player", "paysMore", "(III)Z"⟩ prog_5_method_12_code 5 (Option.some FieldType.boolean)) ∈ gtb := gtb_2 28 rfl rfl
theorem q2_29 : (Cond.methodLink "GameTablesLaw" 55 ⟨"GameTables", "left", "(I)I"⟩) ∈ gtb := gtb_2 29 rfl rfl
theorem q2_30 : (Cond.instanceMethod ⟨"GameTables", "left", "(I)I"⟩) ∈ gtb := gtb_2 30 rfl rfl
theorem q2_31 : (Cond.selects "GameTables" ⟨"GameTables", "left", "(I)I"⟩ ⟨"GameTables", "left", "(I)I"⟩) ∈ gtb := gtb_2 31 rfl rfl
theorem q2_32 : (Cond.code ⟨"GameTables", "left", "(I)I"⟩ prog_1_method_11_code 2 (Option.some FieldType.int)) ∈ gtb := gtb_2 32 rfl rfl
theorem q2_33 : (Cond.methodLink "GameTables" 107 ⟨"GameTables$Dropping", "run", "(LGameTables$Player;LGameTables$Player;)V"⟩) ∈ gtb := gtb_2 33 rfl rfl
theorem q2_34 : (Cond.instanceMethod ⟨"GameTables$Dropping", "run", "(LGameTables$Player;LGameTables$Player;)V"⟩) ∈ gtb := gtb_2 34 rfl rfl
theorem q2_35 : (Cond.selects "GameTables$Dropping" ⟨"GameTables$Dropping", "run", "(LGameTables$Player;LGameTables$Player;)V"⟩ ⟨"GameTables$Dropping", "run", "(LGameTables$Player;LGameTables$Player;)V"⟩) ∈ gtb := gtb_2 35 rfl rfl
theorem q2_36 : (Cond.code ⟨"GameTables$Dropping", "run", "(LGameTables$Player;LGameTables$Player;)V"⟩ prog_3_method_2_code 7 (Option.none : Option FieldType)) ∈ gtb := gtb_2 36 rfl rfl
theorem q2_37 : (Cond.methodLink "GameTables$Dropping" 9 ⟨"GameTables$Player", "allBits", "()I"⟩) ∈ gtb := gtb_2 37 rfl rfl
theorem q2_38 : (Cond.methodLink "GameTables$Dropping" 27 ⟨"GameTables$Player", "notWorse", "(II)I"⟩) ∈ gtb := gtb_2 38 rfl rfl
theorem q2_39 : (Cond.instanceMethod ⟨"GameTables$Player", "notWorse", "(II)I"⟩) ∈ gtb := gtb_2 39 rfl rfl
theorem q2_40 : (Cond.selects "GameTables$Player" ⟨"GameTables$Player", "notWorse", "(II)I"⟩ ⟨"GameTables$Player", "notWorse", "(II)I"⟩) ∈ gtb := gtb_2 40 rfl rfl
theorem q2_41 : (Cond.code ⟨"GameTables$Player", "notWorse", "(II)I"⟩ prog_5_method_14_code 5 (Option.some FieldType.int)) ∈ gtb := gtb_2 41 rfl rfl
theorem q2_42 : (Cond.methodLink "GameTables$Player" 74 ⟨"GameTables$Player", "firstBetter", "(III)I"⟩) ∈ gtb := gtb_2 42 rfl rfl
theorem q2_43 : (Cond.methodLink "GameTablesLaw" 59 ⟨"GameTables", "times", "()I"⟩) ∈ gtb := gtb_2 43 rfl rfl
theorem q2_44 : (Cond.instanceMethod ⟨"GameTables", "times", "()I"⟩) ∈ gtb := gtb_2 44 rfl rfl
theorem q2_45 : (Cond.selects "GameTables" ⟨"GameTables", "times", "()I"⟩ ⟨"GameTables", "times", "()I"⟩) ∈ gtb := gtb_2 45 rfl rfl
theorem q2_46 : (Cond.code ⟨"GameTables", "times", "()I"⟩ prog_1_method_12_code 1 (Option.some FieldType.int)) ∈ gtb := gtb_2 46 rfl rfl
theorem q2_47 : (Cond.methodLink "GameTablesLaw" 63 ⟨"GameTables", "sure", "(I)I"⟩) ∈ gtb := gtb_2 47 rfl rfl
theorem q2_48 : (Cond.instanceMethod ⟨"GameTables", "sure", "(I)I"⟩) ∈ gtb := gtb_2 48 rfl rfl
theorem q2_49 : (Cond.selects "GameTables" ⟨"GameTables", "sure", "(I)I"⟩ ⟨"GameTables", "sure", "(I)I"⟩) ∈ gtb := gtb_2 49 rfl rfl
theorem q2_50 : (Cond.code ⟨"GameTables", "sure", "(I)I"⟩ prog_1_method_13_code 2 (Option.some FieldType.int)) ∈ gtb := gtb_2 50 rfl rfl
theorem q2_51 : (Cond.methodLink "GameTables" 123 ⟨"GameTables$Player", "surePay", "(I)I"⟩) ∈ gtb := gtb_2 51 rfl rfl
theorem q2_52 : (Cond.instanceMethod ⟨"GameTables$Player", "surePay", "(I)I"⟩) ∈ gtb := gtb_2 52 rfl rfl
theorem q2_53 : (Cond.selects "GameTables$Player" ⟨"GameTables$Player", "surePay", "(I)I"⟩ ⟨"GameTables$Player", "surePay", "(I)I"⟩) ∈ gtb := gtb_2 53 rfl rfl
theorem q2_54 : (Cond.code ⟨"GameTables$Player", "surePay", "(I)I"⟩ prog_5_method_18_code 4 (Option.some FieldType.int)) ∈ gtb := gtb_2 54 rfl rfl
theorem q2_55 : (Cond.methodLink "GameTables$Player" 86 ⟨"GameTables$Player", "leastFor", "(II)I"⟩) ∈ gtb := gtb_2 55 rfl rfl
theorem q2_57 : (Cond.instanceMethod ⟨"GameTables$Player", "leastFor", "(II)I"⟩) ∈ gtb := gtb_2 57 rfl rfl
theorem q2_58 : (Cond.code ⟨"GameTables$Player", "leastFor", "(II)I"⟩ prog_5_method_15_code 5 (Option.some FieldType.int)) ∈ gtb := gtb_2 58 rfl rfl
theorem q2_59 : (Cond.methodLink "GameTables$Player" 78 ⟨"java/lang/Math", "min", "(II)I"⟩) ∈ gtb := gtb_2 59 rfl rfl
theorem q2_60 : (Cond.static ⟨"java/lang/Math", "min", "(II)I"⟩) ∈ gtb := gtb_2 60 rfl rfl
theorem q2_61 : (Cond.code ⟨"java/lang/Math", "min", "(II)I"⟩ prog_9_method_69_code 2 (Option.some FieldType.int)) ∈ gtb := gtb_2 61 rfl rfl
theorem q2_62 : (Cond.methodLink "GameTables$Player" 83 ⟨"java/lang/Math", "max", "(II)I"⟩) ∈ gtb := gtb_2 62 rfl rfl
theorem q2_63 : (Cond.static ⟨"java/lang/Math", "max", "(II)I"⟩) ∈ gtb := gtb_2 63 rfl rfl
theorem q2_64 : (Cond.code ⟨"java/lang/Math", "max", "(II)I"⟩ prog_9_method_65_code 2 (Option.some FieldType.int)) ∈ gtb := gtb_2 64 rfl rfl
theorem q2_65 : (Cond.methodLink "GameTablesLaw" 67 ⟨"GameTables", "hold", "(I)I"⟩) ∈ gtb := gtb_2 65 rfl rfl
theorem q2_66 : (Cond.instanceMethod ⟨"GameTables", "hold", "(I)I"⟩) ∈ gtb := gtb_2 66 rfl rfl
theorem q2_67 : (Cond.selects "GameTables" ⟨"GameTables", "hold", "(I)I"⟩ ⟨"GameTables", "hold", "(I)I"⟩) ∈ gtb := gtb_2 67 rfl rfl
theorem q2_68 : (Cond.code ⟨"GameTables", "hold", "(I)I"⟩ prog_1_method_14_code 2 (Option.some FieldType.int)) ∈ gtb := gtb_2 68 rfl rfl
theorem q2_69 : (Cond.methodLink "GameTables" 126 ⟨"GameTables$Player", "holdPay", "(I)I"⟩) ∈ gtb := gtb_2 69 rfl rfl
theorem q2_70 : (Cond.instanceMethod ⟨"GameTables$Player", "holdPay", "(I)I"⟩) ∈ gtb := gtb_2 70 rfl rfl
theorem q2_71 : (Cond.selects "GameTables$Player" ⟨"GameTables$Player", "holdPay", "(I)I"⟩ ⟨"GameTables$Player", "holdPay", "(I)I"⟩) ∈ gtb := gtb_2 71 rfl rfl
theorem q2_72 : (Cond.code ⟨"GameTables$Player", "holdPay", "(I)I"⟩ prog_5_method_19_code 4 (Option.some FieldType.int)) ∈ gtb := gtb_2 72 rfl rfl
theorem q2_73 : (Cond.methodLink "GameTables$Player" 89 ⟨"GameTables$Player", "mostAgainst", "(I)I"⟩) ∈ gtb := gtb_2 73 rfl rfl
theorem q2_74 : (Cond.instanceMethod ⟨"GameTables$Player", "mostAgainst", "(I)I"⟩) ∈ gtb := gtb_2 74 rfl rfl
theorem q2_75 : (Cond.selects "GameTables$Player" ⟨"GameTables$Player", "mostAgainst", "(I)I"⟩ ⟨"GameTables$Player", "mostAgainst", "(I)I"⟩) ∈ gtb := gtb_2 75 rfl rfl
theorem q2_76 : (Cond.code ⟨"GameTables$Player", "mostAgainst", "(I)I"⟩ prog_5_method_17_code 4 (Option.some FieldType.int)) ∈ gtb := gtb_2 76 rfl rfl
theorem q2_77 : (Cond.methodLink "GameTablesLaw" 71 ⟨"GameTables", "corners", "(I)I"⟩) ∈ gtb := gtb_2 77 rfl rfl
theorem q2_78 : (Cond.instanceMethod ⟨"GameTables", "corners", "(I)I"⟩) ∈ gtb := gtb_2 78 rfl rfl
theorem q2_79 : (Cond.selects "GameTables" ⟨"GameTables", "corners", "(I)I"⟩ ⟨"GameTables", "corners", "(I)I"⟩) ∈ gtb := gtb_2 79 rfl rfl
theorem q2_80 : (Cond.code ⟨"GameTables", "corners", "(I)I"⟩ prog_1_method_15_code 2 (Option.some FieldType.int)) ∈ gtb := gtb_2 80 rfl rfl
theorem q2_81 : (Cond.methodLink "GameTables" 129 ⟨"GameTables", "knowCorners", "()V"⟩) ∈ gtb := gtb_2 81 rfl rfl
theorem q2_83 : (Cond.instanceMethod ⟨"GameTables", "knowCorners", "()V"⟩) ∈ gtb := gtb_2 83 rfl rfl
theorem q2_84 : (Cond.code ⟨"GameTables", "knowCorners", "()V"⟩ prog_1_method_32_code 1 (Option.none : Option FieldType)) ∈ gtb := gtb_2 84 rfl rfl
theorem q2_85 : (Cond.methodLink "GameTables" 207 ⟨"GameTables$Corners", "searchAll", "(ILGameTables$Player;)V"⟩) ∈ gtb := gtb_2 85 rfl rfl
theorem q2_86 : (Cond.instanceMethod ⟨"GameTables$Corners", "searchAll", "(ILGameTables$Player;)V"⟩) ∈ gtb := gtb_2 86 rfl rfl
theorem q2_87 : (Cond.selects "GameTables$Corners" ⟨"GameTables$Corners", "searchAll", "(ILGameTables$Player;)V"⟩ ⟨"GameTables$Corners", "searchAll", "(ILGameTables$Player;)V"⟩) ∈ gtb := gtb_2 87 rfl rfl
theorem q2_88 : (Cond.code ⟨"GameTables$Corners", "searchAll", "(ILGameTables$Player;)V"⟩ prog_2_method_4_code 5 (Option.none : Option FieldType)) ∈ gtb := gtb_2 88 rfl rfl
theorem q2_89 : (Cond.methodLink "GameTables$Corners" 39 ⟨"GameTables$Player", "allBits", "()I"⟩) ∈ gtb := gtb_2 89 rfl rfl
theorem q2_90 : (Cond.methodLink "GameTables$Corners" 45 ⟨"java/lang/Integer", "bitCount", "(I)I"⟩) ∈ gtb := gtb_2 90 rfl rfl
theorem q2_91 : (Cond.static ⟨"java/lang/Integer", "bitCount", "(I)I"⟩) ∈ gtb := gtb_2 91 rfl rfl
theorem q2_92 : (Cond.code ⟨"java/lang/Integer", "bitCount", "(I)I"⟩ prog_8_method_49_code 1 (Option.some FieldType.int)) ∈ gtb := gtb_2 92 rfl rfl
theorem q2_93 : (Cond.constant "java/lang/Integer" 265 (1431655765 : Int32)) ∈ gtb := gtb_2 93 rfl rfl
theorem q2_94 : (Cond.constant "java/lang/Integer" 266 (858993459 : Int32)) ∈ gtb := gtb_2 94 rfl rfl
theorem q2_95 : (Cond.constant "java/lang/Integer" 267 (252645135 : Int32)) ∈ gtb := gtb_2 95 rfl rfl
theorem q2_96 : (Cond.methodLink "GameTables$Corners" 51 ⟨"GameTables$Corners", "search", "(IILGameTables$Player;)V"⟩) ∈ gtb := gtb_2 96 rfl rfl
theorem q2_98 : (Cond.instanceMethod ⟨"GameTables$Corners", "search", "(IILGameTables$Player;)V"⟩) ∈ gtb := gtb_2 98 rfl rfl
theorem q2_99 : (Cond.code ⟨"GameTables$Corners", "search", "(IILGameTables$Player;)V"⟩ prog_2_method_5_code 4 (Option.none : Option FieldType)) ∈ gtb := gtb_2 99 rfl rfl
theorem q2_100 : (Cond.methodLink "GameTables$Corners" 55 ⟨"GameTables$Corners", "layGaps", "(IILGameTables$Player;)V"⟩) ∈ gtb := gtb_2 100 rfl rfl
theorem q2_102 : (Cond.instanceMethod ⟨"GameTables$Corners", "layGaps", "(IILGameTables$Player;)V"⟩) ∈ gtb := gtb_2 102 rfl rfl
theorem q2_103 : (Cond.code ⟨"GameTables$Corners", "layGaps", "(IILGameTables$Player;)V"⟩ prog_2_method_6_code 7 (Option.none : Option FieldType)) ∈ gtb := gtb_2 103 rfl rfl
theorem qn2_104 : (Cond.methodLinkNest "GameTables$Corners" 78 ⟨"GameTables", "firstOf", "(I)I"⟩ "GameTables") ∈ tables_1 := gtn_2 104 rfl
theorem qn2_105 : (Cond.methodLinkNest "GameTables$Corners" 81 ⟨"GameTables", "hasBit", "(II)Z"⟩ "GameTables") ∈ tables_1 := gtn_2 105 rfl
theorem q2_106 : (Cond.methodLink "GameTables$Corners" 85 ⟨"GameTables$Corners", "layLine", "(IILGameTables$Player;II)V"⟩) ∈ gtb := gtb_2 106 rfl rfl
theorem q2_108 : (Cond.instanceMethod ⟨"GameTables$Corners", "layLine", "(IILGameTables$Player;II)V"⟩) ∈ gtb := gtb_2 108 rfl rfl
theorem q2_109 : (Cond.code ⟨"GameTables$Corners", "layLine", "(IILGameTables$Player;II)V"⟩ prog_2_method_7_code 8 (Option.none : Option FieldType)) ∈ gtb := gtb_2 109 rfl rfl
theorem q2_110 : (Cond.methodLink "GameTables$Corners" 89 ⟨"GameTables$Player", "payFor", "(II)I"⟩) ∈ gtb := gtb_2 110 rfl rfl
theorem q2_111 : (Cond.methodLink "GameTables$Corners" 58 ⟨"GameTables$Corners", "layParts", "(I)V"⟩) ∈ gtb := gtb_2 111 rfl rfl
theorem q2_113 : (Cond.instanceMethod ⟨"GameTables$Corners", "layParts", "(I)V"⟩) ∈ gtb := gtb_2 113 rfl rfl
theorem q2_114 : (Cond.code ⟨"GameTables$Corners", "layParts", "(I)V"⟩ prog_2_method_8_code 7 (Option.none : Option FieldType)) ∈ gtb := gtb_2 114 rfl rfl
theorem q2_115 : (Cond.methodLink "GameTables$Corners" 97 ⟨"GameTables$Corners", "gapsWithout", "(II)J"⟩) ∈ gtb := gtb_2 115 rfl rfl
theorem q2_117 : (Cond.instanceMethod ⟨"GameTables$Corners", "gapsWithout", "(II)J"⟩) ∈ gtb := gtb_2 117 rfl rfl
theorem q2_118 : (Cond.code ⟨"GameTables$Corners", "gapsWithout", "(II)J"⟩ prog_2_method_9_code 6 (Option.some FieldType.long)) ∈ gtb := gtb_2 118 rfl rfl
theorem q2_119 : (Cond.methodLink "GameTables$Corners" 101 ⟨"GameTables$Corners", "twoLines", "(IIII)J"⟩) ∈ gtb := gtb_2 119 rfl rfl
theorem q2_121 : (Cond.instanceMethod ⟨"GameTables$Corners", "twoLines", "(IIII)J"⟩) ∈ gtb := gtb_2 121 rfl rfl
theorem q2_122 : (Cond.code ⟨"GameTables$Corners", "twoLines", "(IIII)J"⟩ prog_2_method_10_code 5 (Option.some FieldType.long)) ∈ gtb := gtb_2 122 rfl rfl
theorem q2_123 : (Cond.methodLink "GameTables$Corners" 62 ⟨"GameTables$Corners", "makePositive", "(I)Z"⟩) ∈ gtb := gtb_2 123 rfl rfl
theorem q2_125 : (Cond.instanceMethod ⟨"GameTables$Corners", "makePositive", "(I)Z"⟩) ∈ gtb := gtb_2 125 rfl rfl
theorem q2_126 : (Cond.code ⟨"GameTables$Corners", "makePositive", "(I)Z"⟩ prog_2_method_11_code 5 (Option.some FieldType.boolean)) ∈ gtb := gtb_2 126 rfl rfl
theorem q2_127 : (Cond.methodLink "GameTables$Corners" 105 ⟨"GameTables$Corners", "signOfFirst", "(I)J"⟩) ∈ gtb := gtb_2 127 rfl rfl
theorem q2_129 : (Cond.instanceMethod ⟨"GameTables$Corners", "signOfFirst", "(I)J"⟩) ∈ gtb := gtb_2 129 rfl rfl
theorem q2_130 : (Cond.code ⟨"GameTables$Corners", "signOfFirst", "(I)J"⟩ prog_2_method_12_code 3 (Option.some FieldType.long)) ∈ gtb := gtb_2 130 rfl rfl
theorem q2_131 : (Cond.constantLong "GameTables$Corners" 109 (-1 : Int64)) ∈ gtb := gtb_2 131 rfl rfl
theorem q2_132 : (Cond.methodLink "GameTables$Corners" 66 ⟨"GameTables$Mix", "sumUp", "()V"⟩) ∈ gtb := gtb_2 132 rfl rfl
theorem q2_133 : (Cond.methodLink "GameTables$Corners" 69 ⟨"GameTables$Player", "answersTo", "(LGameTables$Mix;)I"⟩) ∈ gtb := gtb_2 133 rfl rfl
theorem q2_134 : (Cond.methodLink "GameTables$Corners" 75 ⟨"GameTables$Corners", "keepSpare", "()V"⟩) ∈ gtb := gtb_2 134 rfl rfl
theorem q2_136 : (Cond.instanceMethod ⟨"GameTables$Corners", "keepSpare", "()V"⟩) ∈ gtb := gtb_2 136 rfl rfl
theorem q2_137 : (Cond.code ⟨"GameTables$Corners", "keepSpare", "()V"⟩ prog_2_method_13_code 5 (Option.none : Option FieldType)) ∈ gtb := gtb_2 137 rfl rfl
theorem q2_138 : (Cond.methodLink "GameTables$Corners" 35 ⟨"GameTables$Mix", "orderTo", "(LGameTables$Mix;)I"⟩) ∈ gtb := gtb_2 138 rfl rfl
theorem q2_139 : (Cond.instanceMethod ⟨"GameTables$Mix", "orderTo", "(LGameTables$Mix;)I"⟩) ∈ gtb := gtb_2 139 rfl rfl
theorem q2_140 : (Cond.selects "GameTables$Mix" ⟨"GameTables$Mix", "orderTo", "(LGameTables$Mix;)I"⟩ ⟨"GameTables$Mix", "orderTo", "(LGameTables$Mix;)I"⟩) ∈ gtb := gtb_2 140 rfl rfl
theorem q2_141 : (Cond.code ⟨"GameTables$Mix", "orderTo", "(LGameTables$Mix;)I"⟩ prog_4_method_3_code 7 (Option.some FieldType.int)) ∈ gtb := gtb_2 141 rfl rfl
theorem q2_142 : (Cond.methodLink "GameTables$Corners" 111 ⟨"GameTables$Corners", "insertSpare", "(I)V"⟩) ∈ gtb := gtb_2 142 rfl rfl
theorem q2_144 : (Cond.instanceMethod ⟨"GameTables$Corners", "insertSpare", "(I)V"⟩) ∈ gtb := gtb_2 144 rfl rfl
theorem q2_145 : (Cond.code ⟨"GameTables$Corners", "insertSpare", "(I)V"⟩ prog_2_method_14_code 4 (Option.none : Option FieldType)) ∈ gtb := gtb_2 145 rfl rfl
theorem q2_146 : (Cond.methodLink "GameTablesLaw" 75 ⟨"GameTables", "corner", "(IIII)I"⟩) ∈ gtb := gtb_2 146 rfl rfl
theorem q2_147 : (Cond.instanceMethod ⟨"GameTables", "corner", "(IIII)I"⟩) ∈ gtb := gtb_2 147 rfl rfl
theorem q2_148 : (Cond.selects "GameTables" ⟨"GameTables", "corner", "(IIII)I"⟩ ⟨"GameTables", "corner", "(IIII)I"⟩) ∈ gtb := gtb_2 148 rfl rfl
theorem q2_149 : (Cond.code ⟨"GameTables", "corner", "(IIII)I"⟩ prog_1_method_16_code 6 (Option.some FieldType.int)) ∈ gtb := gtb_2 149 rfl rfl
theorem q2_150 : (Cond.methodLink "GameTables" 141 ⟨"GameTables$Corners", "mixAt", "(I)LGameTables$Mix;"⟩) ∈ gtb := gtb_2 150 rfl rfl
theorem q2_151 : (Cond.instanceMethod ⟨"GameTables$Corners", "mixAt", "(I)LGameTables$Mix;"⟩) ∈ gtb := gtb_2 151 rfl rfl
theorem q2_152 : (Cond.selects "GameTables$Corners" ⟨"GameTables$Corners", "mixAt", "(I)LGameTables$Mix;"⟩ ⟨"GameTables$Corners", "mixAt", "(I)LGameTables$Mix;"⟩) ∈ gtb := gtb_2 152 rfl rfl
theorem q2_153 : (Cond.code ⟨"GameTables$Corners", "mixAt", "(I)LGameTables$Mix;"⟩ prog_2_method_2_code 2 (Option.some (FieldType.object "GameTables$Mix"))) ∈ gtb := gtb_2 153 rfl rfl
theorem q2_154 : (Cond.methodLink "GameTables" 152 ⟨"GameTables", "lowest", "(JJI)J"⟩) ∈ gtb := gtb_2 154 rfl rfl
theorem q2_155 : (Cond.methodLink "GameTablesLaw" 79 ⟨"GameTables", "balances", "()I"⟩) ∈ gtb := gtb_2 155 rfl rfl
theorem q2_156 : (Cond.instanceMethod ⟨"GameTables", "balances", "()I"⟩) ∈ gtb := gtb_2 156 rfl rfl
theorem q2_157 : (Cond.selects "GameTables" ⟨"GameTables", "balances", "()I"⟩ ⟨"GameTables", "balances", "()I"⟩) ∈ gtb := gtb_2 157 rfl rfl
theorem q2_158 : (Cond.code ⟨"GameTables", "balances", "()I"⟩ prog_1_method_17_code 1 (Option.some FieldType.int)) ∈ gtb := gtb_2 158 rfl rfl
theorem q2_159 : (Cond.methodLink "GameTables" 156 ⟨"GameTables", "balancesBefore", "(II)I"⟩) ∈ gtb := gtb_2 159 rfl rfl
theorem q2_161 : (Cond.instanceMethod ⟨"GameTables", "balancesBefore", "(II)I"⟩) ∈ gtb := gtb_2 161 rfl rfl
theorem q2_162 : (Cond.code ⟨"GameTables", "balancesBefore", "(II)I"⟩ prog_1_method_33_code 6 (Option.some FieldType.int)) ∈ gtb := gtb_2 162 rfl rfl
theorem q2_163 : (Cond.methodLink "GameTables" 211 ⟨"GameTables", "balancesOf", "(LGameTables$Mix;I)I"⟩) ∈ gtb := gtb_2 163 rfl rfl
theorem q2_165 : (Cond.instanceMethod ⟨"GameTables", "balancesOf", "(LGameTables$Mix;I)I"⟩) ∈ gtb := gtb_2 165 rfl rfl
theorem q2_166 : (Cond.code ⟨"GameTables", "balancesOf", "(LGameTables$Mix;I)I"⟩ prog_1_method_34_code 7 (Option.some FieldType.int)) ∈ gtb := gtb_2 166 rfl rfl
theorem q2_167 : (Cond.methodLink "GameTablesLaw" 83 ⟨"GameTables", "balance", "(II)J"⟩) ∈ gtb := gtb_2 167 rfl rfl
theorem q2_168 : (Cond.instanceMethod ⟨"GameTables", "balance", "(II)J"⟩) ∈ gtb := gtb_2 168 rfl rfl
theorem q2_169 : (Cond.selects "GameTables" ⟨"GameTables", "balance", "(II)J"⟩ ⟨"GameTables", "balance", "(II)J"⟩) ∈ gtb := gtb_2 169 rfl rfl
theorem q2_170 : (Cond.code ⟨"GameTables", "balance", "(II)J"⟩ prog_1_method_18_code 6 (Option.some FieldType.long)) ∈ gtb := gtb_2 170 rfl rfl
theorem q2_171 : (Cond.methodLink "GameTables" 159 ⟨"GameTables", "pairOf", "(I)I"⟩) ∈ gtb := gtb_2 171 rfl rfl
theorem q2_173 : (Cond.instanceMethod ⟨"GameTables", "pairOf", "(I)I"⟩) ∈ gtb := gtb_2 173 rfl rfl
theorem q2_174 : (Cond.code ⟨"GameTables", "pairOf", "(I)I"⟩ prog_1_method_35_code 7 (Option.some FieldType.int)) ∈ gtb := gtb_2 174 rfl rfl
theorem q2_175 : (Cond.methodLink "GameTables" 162 ⟨"GameTables", "kindOf", "(LGameTables$Mix;LGameTables$Mix;)I"⟩) ∈ gtb := gtb_2 175 rfl rfl
theorem q2_177 : (Cond.instanceMethod ⟨"GameTables", "kindOf", "(LGameTables$Mix;LGameTables$Mix;)I"⟩) ∈ gtb := gtb_2 177 rfl rfl
theorem q2_178 : (Cond.code ⟨"GameTables", "kindOf", "(LGameTables$Mix;LGameTables$Mix;)I"⟩ prog_1_method_36_code 6 (Option.some FieldType.int)) ∈ gtb := gtb_2 178 rfl rfl
theorem q2_179 : (Cond.methodLink "GameTables" 215 ⟨"java/lang/Integer", "bitCount", "(I)I"⟩) ∈ gtb := gtb_2 179 rfl rfl
theorem q2_180 : (Cond.methodLink "GameTablesLaw" 87 ⟨"GameTables", "find", "()I"⟩) ∈ gtb := gtb_2 180 rfl rfl
theorem q2_181 : (Cond.instanceMethod ⟨"GameTables", "find", "()I"⟩) ∈ gtb := gtb_2 181 rfl rfl
theorem q2_182 : (Cond.selects "GameTables" ⟨"GameTables", "find", "()I"⟩ ⟨"GameTables", "find", "()I"⟩) ∈ gtb := gtb_2 182 rfl rfl
theorem q2_183 : (Cond.code ⟨"GameTables", "find", "()I"⟩ prog_1_method_19_code 5 (Option.some FieldType.int)) ∈ gtb := gtb_2 183 rfl rfl
theorem q2_184 : (Cond.methodLink "GameTables" 166 ⟨"GameTables$Corners", "numberOf", "(LGameTables$Mix;)I"⟩) ∈ gtb := gtb_2 184 rfl rfl
theorem q2_185 : (Cond.instanceMethod ⟨"GameTables$Corners", "numberOf", "(LGameTables$Mix;)I"⟩) ∈ gtb := gtb_2 185 rfl rfl
theorem q2_186 : (Cond.selects "GameTables$Corners" ⟨"GameTables$Corners", "numberOf", "(LGameTables$Mix;)I"⟩ ⟨"GameTables$Corners", "numberOf", "(LGameTables$Mix;)I"⟩) ∈ gtb := gtb_2 186 rfl rfl
theorem q2_187 : (Cond.code ⟨"GameTables$Corners", "numberOf", "(LGameTables$Mix;)I"⟩ prog_2_method_3_code 4 (Option.some FieldType.int)) ∈ gtb := gtb_2 187 rfl rfl
theorem q2_188 : (Cond.methodLink "GameTables$Corners" 31 ⟨"GameTables$Corners", "mixAt", "(I)LGameTables$Mix;"⟩) ∈ gtb := gtb_2 188 rfl rfl
theorem q2_189 : (Cond.methodLink "GameTablesLaw" 91 ⟨"GameTables", "turn", "()I"⟩) ∈ gtb := gtb_2 189 rfl rfl
theorem q2_190 : (Cond.instanceMethod ⟨"GameTables", "turn", "()I"⟩) ∈ gtb := gtb_2 190 rfl rfl
theorem q2_191 : (Cond.selects "GameTables" ⟨"GameTables", "turn", "()I"⟩ ⟨"GameTables", "turn", "()I"⟩) ∈ gtb := gtb_2 191 rfl rfl
theorem q2_192 : (Cond.code ⟨"GameTables", "turn", "()I"⟩ prog_1_method_20_code 2 (Option.some FieldType.int)) ∈ gtb := gtb_2 192 rfl rfl
theorem q2_193 : (Cond.methodLink "GameTablesLaw" 95 ⟨"GameTables", "raise", "(III)I"⟩) ∈ gtb := gtb_2 193 rfl rfl
theorem q2_194 : (Cond.instanceMethod ⟨"GameTables", "raise", "(III)I"⟩) ∈ gtb := gtb_2 194 rfl rfl
theorem q2_195 : (Cond.selects "GameTables" ⟨"GameTables", "raise", "(III)I"⟩ ⟨"GameTables", "raise", "(III)I"⟩) ∈ gtb := gtb_2 195 rfl rfl
theorem q2_196 : (Cond.code ⟨"GameTables", "raise", "(III)I"⟩ prog_1_method_21_code 5 (Option.some FieldType.int)) ∈ gtb := gtb_2 196 rfl rfl
theorem q2_197 : (Cond.methodLink "GameTables" 170 ⟨"GameTables$Player", "leastAgainst", "(I)I"⟩) ∈ gtb := gtb_2 197 rfl rfl
theorem q2_198 : (Cond.instanceMethod ⟨"GameTables$Player", "leastAgainst", "(I)I"⟩) ∈ gtb := gtb_2 198 rfl rfl
theorem q2_199 : (Cond.selects "GameTables$Player" ⟨"GameTables$Player", "leastAgainst", "(I)I"⟩ ⟨"GameTables$Player", "leastAgainst", "(I)I"⟩) ∈ gtb := gtb_2 199 rfl rfl
theorem q2_200 : (Cond.code ⟨"GameTables$Player", "leastAgainst", "(I)I"⟩ prog_5_method_16_code 4 (Option.some FieldType.int)) ∈ gtb := gtb_2 200 rfl rfl
theorem q2_201 : (Cond.constantLong "GameTables" 173 (-20 : Int64)) ∈ gtb := gtb_2 201 rfl rfl
theorem q2_202 : (Cond.methodLink "GameTables" 175 ⟨"GameTables$Player", "mostAgainst", "(I)I"⟩) ∈ gtb := gtb_2 202 rfl rfl
theorem q2_203 : (Cond.constantLong "GameTables" 178 (20 : Int64)) ∈ gtb := gtb_2 203 rfl rfl
theorem q2_204 : (Cond.methodLink "GameTables" 180 ⟨"GameTables$Player", "addAgainst", "(II)V"⟩) ∈ gtb := gtb_2 204 rfl rfl
theorem q2_205 : (Cond.instanceMethod ⟨"GameTables$Player", "addAgainst", "(II)V"⟩) ∈ gtb := gtb_2 205 rfl rfl
theorem q2_206 : (Cond.selects "GameTables$Player" ⟨"GameTables$Player", "addAgainst", "(II)V"⟩ ⟨"GameTables$Player", "addAgainst", "(II)V"⟩) ∈ gtb := gtb_2 206 rfl rfl
theorem q2_207 : (Cond.code ⟨"GameTables$Player", "addAgainst", "(II)V"⟩ prog_5_method_21_code 4 (Option.none : Option FieldType)) ∈ gtb := gtb_2 207 rfl rfl
theorem q2_208 : (Cond.methodLink "GameTables$Player" 96 ⟨"GameTables$Player", "setPay", "(III)V"⟩) ∈ gtb := gtb_2 208 rfl rfl
theorem q2_209 : (Cond.methodLink "GameTablesLaw" 99 ⟨"GameTables", "scale", "(II)I"⟩) ∈ gtb := gtb_2 209 rfl rfl
theorem q2_210 : (Cond.instanceMethod ⟨"GameTables", "scale", "(II)I"⟩) ∈ gtb := gtb_2 210 rfl rfl
theorem q2_211 : (Cond.selects "GameTables" ⟨"GameTables", "scale", "(II)I"⟩ ⟨"GameTables", "scale", "(II)I"⟩) ∈ gtb := gtb_2 211 rfl rfl
theorem q2_212 : (Cond.code ⟨"GameTables", "scale", "(II)I"⟩ prog_1_method_22_code 3 (Option.some FieldType.int)) ∈ gtb := gtb_2 212 rfl rfl
theorem q2_213 : (Cond.methodLink "GameTables" 184 ⟨"GameTables$Player", "farthestPay", "()I"⟩) ∈ gtb := gtb_2 213 rfl rfl
theorem q2_214 : (Cond.instanceMethod ⟨"GameTables$Player", "farthestPay", "()I"⟩) ∈ gtb := gtb_2 214 rfl rfl
theorem q2_215 : (Cond.selects "GameTables$Player" ⟨"GameTables$Player", "farthestPay", "()I"⟩ ⟨"GameTables$Player", "farthestPay", "()I"⟩) ∈ gtb := gtb_2 215 rfl rfl
theorem q2_216 : (Cond.code ⟨"GameTables$Player", "farthestPay", "()I"⟩ prog_5_method_20_code 3 (Option.some FieldType.int)) ∈ gtb := gtb_2 216 rfl rfl
theorem q2_217 : (Cond.methodLink "GameTables$Player" 93 ⟨"java/lang/Math", "abs", "(I)I"⟩) ∈ gtb := gtb_2 217 rfl rfl
theorem q2_218 : (Cond.static ⟨"java/lang/Math", "abs", "(I)I"⟩) ∈ gtb := gtb_2 218 rfl rfl
theorem q2_219 : (Cond.code ⟨"java/lang/Math", "abs", "(I)I"⟩ prog_9_method_59_code 1 (Option.some FieldType.int)) ∈ gtb := gtb_2 219 rfl rfl
theorem q2_220 : (Cond.methodLink "GameTables" 187 ⟨"GameTables$Player", "multiplyPays", "(I)V"⟩) ∈ gtb := gtb_2 220 rfl rfl
theorem q2_221 : (Cond.instanceMethod ⟨"GameTables$Player", "multiplyPays", "(I)V"⟩) ∈ gtb := gtb_2 221 rfl rfl
theorem q2_222 : (Cond.selects "GameTables$Player" ⟨"GameTables$Player", "multiplyPays", "(I)V"⟩ ⟨"GameTables$Player", "multiplyPays", "(I)V"⟩) ∈ gtb := gtb_2 222 rfl rfl
theorem q2_223 : (Cond.code ⟨"GameTables$Player", "multiplyPays", "(I)V"⟩ prog_5_method_22_code 3 (Option.none : Option FieldType)) ∈ gtb := gtb_2 223 rfl rfl
theorem q2_224 : (Cond.methodLink "GameTablesLaw" 103 ⟨"GameTables", "status", "(I)I"⟩) ∈ gtb := gtb_2 224 rfl rfl
theorem q2_225 : (Cond.instanceMethod ⟨"GameTables", "status", "(I)I"⟩) ∈ gtb := gtb_2 225 rfl rfl
theorem q2_226 : (Cond.selects "GameTables" ⟨"GameTables", "status", "(I)I"⟩ ⟨"GameTables", "status", "(I)I"⟩) ∈ gtb := gtb_2 226 rfl rfl
theorem q2_227 : (Cond.code ⟨"GameTables", "status", "(I)I"⟩ prog_1_method_23_code 2 (Option.some FieldType.int)) ∈ gtb := gtb_2 227 rfl rfl
theorem q2_228 : (Cond.methodLink "GameTables" 190 ⟨"GameTables$Player", "takesFrom", "(LGameTables$Player;)Z"⟩) ∈ gtb := gtb_2 228 rfl rfl
theorem q2_229 : (Cond.instanceMethod ⟨"GameTables$Player", "takesFrom", "(LGameTables$Player;)Z"⟩) ∈ gtb := gtb_2 229 rfl rfl
theorem q2_230 : (Cond.selects "GameTables$Player" ⟨"GameTables$Player", "takesFrom", "(LGameTables$Player;)Z"⟩ ⟨"GameTables$Player", "takesFrom", "(LGameTables$Player;)Z"⟩) ∈ gtb := gtb_2 230 rfl rfl
theorem q2_231 : (Cond.code ⟨"GameTables$Player", "takesFrom", "(LGameTables$Player;)Z"⟩ prog_5_method_23_code 4 (Option.some FieldType.boolean)) ∈ gtb := gtb_2 231 rfl rfl
theorem q2_232 : (Cond.methodLink "GameTables" 194 ⟨"GameTables$Player", "isLike", "(LGameTables$Player;)Z"⟩) ∈ gtb := gtb_2 232 rfl rfl
theorem q2_233 : (Cond.instanceMethod ⟨"GameTables$Player", "isLike", "(LGameTables$Player;)Z"⟩) ∈ gtb := gtb_2 233 rfl rfl
theorem q2_234 : (Cond.selects "GameTables$Player" ⟨"GameTables$Player", "isLike", "(LGameTables$Player;)Z"⟩ ⟨"GameTables$Player", "isLike", "(LGameTables$Player;)Z"⟩) ∈ gtb := gtb_2 234 rfl rfl
theorem q2_235 : (Cond.code ⟨"GameTables$Player", "isLike", "(LGameTables$Player;)Z"⟩ prog_5_method_24_code 3 (Option.some FieldType.boolean)) ∈ gtb := gtb_2 235 rfl rfl
theorem q2_236 : (Cond.methodLink "GameTables" 197 ⟨"GameTables", "refusalsCounted", "(I)I"⟩) ∈ gtb := gtb_2 236 rfl rfl
theorem q2_238 : (Cond.instanceMethod ⟨"GameTables", "refusalsCounted", "(I)I"⟩) ∈ gtb := gtb_2 238 rfl rfl
theorem q2_239 : (Cond.code ⟨"GameTables", "refusalsCounted", "(I)I"⟩ prog_1_method_24_code 2 (Option.some FieldType.int)) ∈ gtb := gtb_2 239 rfl rfl
theorem q3_0 : (Cond.classLink "GameTablesLaw" 10 "GameTablesModel") ∈ gtb := gtb_3 0 rfl rfl
theorem q3_1 : (Cond.instantiable "GameTablesModel" 19) ∈ gtb := gtb_3 1 rfl rfl
theorem q3_2 : (Cond.methodLink "GameTablesLaw" 12 ⟨"GameTablesModel", "<init>", "()V"⟩) ∈ gtb := gtb_3 2 rfl rfl
theorem q3_3 : (Cond.instanceMethod ⟨"GameTablesModel", "<init>", "()V"⟩) ∈ gtb := gtb_3 3 rfl rfl
theorem q3_4 : (Cond.code ⟨"GameTablesModel", "<init>", "()V"⟩ prog_7_method_1_code 1 (Option.none : Option FieldType)) ∈ gtb := gtb_3 4 rfl rfl
theorem q3_5 : (Cond.methodLink "GameTablesModel" 1 ⟨"java/lang/Object", "<init>", "()V"⟩) ∈ gtb := gtb_3 5 rfl rfl
theorem q3_6 : (Cond.fieldLink "GameTablesModel" 7 "GameTablesModel" "many" "[I") ∈ gtb := gtb_3 6 rfl rfl
theorem q3_7 : (Cond.fieldLink "GameTablesModel" 13 "GameTablesModel" "pays" "[I") ∈ gtb := gtb_3 7 rfl rfl
theorem q3_8 : (Cond.fieldLink "GameTablesModel" 16 "GameTablesModel" "weights" "[I") ∈ gtb := gtb_3 8 rfl rfl
theorem q3_9 : (Cond.fieldLink "GameTablesModel" 19 "GameTablesModel" "refused" "[I") ∈ gtb := gtb_3 9 rfl rfl
theorem q3_10 : (Cond.fieldLink "GameTablesModel" 22 "GameTablesModel" "trayRow" "[J") ∈ gtb := gtb_3 10 rfl rfl
theorem q3_11 : (Cond.fieldLink "GameTablesModel" 26 "GameTablesModel" "trayColumn" "[J") ∈ gtb := gtb_3 11 rfl rfl
theorem q3_12 : (Cond.fieldLink "GameTablesModel" 120 "GameTablesModel" "leftRow" "I") ∈ gtb := gtb_3 12 rfl rfl
theorem q3_13 : (Cond.fieldLink "GameTablesModel" 124 "GameTablesModel" "leftColumn" "I") ∈ gtb := gtb_3 13 rfl rfl
theorem q3_14 : (Cond.fieldLink "GameTablesModel" 127 "GameTablesModel" "drops" "I") ∈ gtb := gtb_3 14 rfl rfl
theorem q3_15 : (Cond.fieldLink "GameTablesModel" 29 "GameTablesModel" "found" "[I") ∈ gtb := gtb_3 15 rfl rfl
theorem q3_16 : (Cond.fieldLink "GameTablesModel" 32 "GameTablesModel" "share" "[J") ∈ gtb := gtb_3 16 rfl rfl
theorem q3_17 : (Cond.fieldLink "GameTablesModel" 35 "GameTablesModel" "whole" "[J") ∈ gtb := gtb_3 17 rfl rfl
theorem q3_18 : (Cond.fieldLink "GameTablesModel" 38 "GameTablesModel" "bitsOf" "[I") ∈ gtb := gtb_3 18 rfl rfl
theorem q3_19 : (Cond.fieldLink "GameTablesModel" 41 "GameTablesModel" "answersOf" "[I") ∈ gtb := gtb_3 19 rfl rfl
theorem q3_20 : (Cond.fieldLink "GameTablesModel" 44 "GameTablesModel" "square" "[J") ∈ gtb := gtb_3 20 rfl rfl
theorem q3_21 : (Cond.fieldLink "GameTablesModel" 47 "GameTablesModel" "chosen" "[I") ∈ gtb := gtb_3 21 rfl rfl
theorem q3_22 : (Cond.fieldLink "GameTablesModel" 50 "GameTablesModel" "answered" "[I") ∈ gtb := gtb_3 22 rfl rfl
theorem q3_23 : (Cond.fieldLink "GameTablesModel" 53 "GameTablesModel" "shares" "[J") ∈ gtb := gtb_3 23 rfl rfl
theorem q3_24 : (Cond.fieldLink "GameTablesModel" 56 "GameTablesModel" "before" "[I") ∈ gtb := gtb_3 24 rfl rfl
theorem q3_25 : (Cond.laysFinal "GameTablesModel" "GameTablesModel" "many" "[I") ∈ gtb := gtb_3 25 rfl rfl
theorem q3_27 : (Cond.laysFinal "GameTablesModel" "GameTablesModel" "pays" "[I") ∈ gtb := gtb_3 27 rfl rfl
theorem q3_29 : (Cond.laysFinal "GameTablesModel" "GameTablesModel" "weights" "[I") ∈ gtb := gtb_3 29 rfl rfl
theorem q3_31 : (Cond.laysFinal "GameTablesModel" "GameTablesModel" "refused" "[I") ∈ gtb := gtb_3 31 rfl rfl
theorem q3_33 : (Cond.laysFinal "GameTablesModel" "GameTablesModel" "trayRow" "[J") ∈ gtb := gtb_3 33 rfl rfl
theorem q3_35 : (Cond.laysFinal "GameTablesModel" "GameTablesModel" "trayColumn" "[J") ∈ gtb := gtb_3 35 rfl rfl
theorem q3_37 : (Cond.lays "GameTablesModel" "GameTablesModel" "leftRow" "I") ∈ gtb := gtb_3 37 rfl rfl
theorem q3_39 : (Cond.lays "GameTablesModel" "GameTablesModel" "leftColumn" "I") ∈ gtb := gtb_3 39 rfl rfl
theorem q3_41 : (Cond.lays "GameTablesModel" "GameTablesModel" "drops" "I") ∈ gtb := gtb_3 41 rfl rfl
theorem q3_43 : (Cond.laysFinal "GameTablesModel" "GameTablesModel" "found" "[I") ∈ gtb := gtb_3 43 rfl rfl
theorem q3_45 : (Cond.laysFinal "GameTablesModel" "GameTablesModel" "share" "[J") ∈ gtb := gtb_3 45 rfl rfl
theorem q3_47 : (Cond.laysFinal "GameTablesModel" "GameTablesModel" "whole" "[J") ∈ gtb := gtb_3 47 rfl rfl
theorem q3_49 : (Cond.laysFinal "GameTablesModel" "GameTablesModel" "bitsOf" "[I") ∈ gtb := gtb_3 49 rfl rfl
theorem q3_51 : (Cond.laysFinal "GameTablesModel" "GameTablesModel" "answersOf" "[I") ∈ gtb := gtb_3 51 rfl rfl
theorem q3_53 : (Cond.laysFinal "GameTablesModel" "GameTablesModel" "square" "[J") ∈ gtb := gtb_3 53 rfl rfl
theorem q3_55 : (Cond.laysFinal "GameTablesModel" "GameTablesModel" "chosen" "[I") ∈ gtb := gtb_3 55 rfl rfl
theorem q3_57 : (Cond.laysFinal "GameTablesModel" "GameTablesModel" "answered" "[I") ∈ gtb := gtb_3 57 rfl rfl
theorem q3_59 : (Cond.laysFinal "GameTablesModel" "GameTablesModel" "shares" "[J") ∈ gtb := gtb_3 59 rfl rfl
theorem q3_61 : (Cond.laysFinal "GameTablesModel" "GameTablesModel" "before" "[I") ∈ gtb := gtb_3 61 rfl rfl
theorem q3_64 : (Cond.methodLink "GameTablesLaw" 17 ⟨"GameTablesModel", "game", "(II)I"⟩) ∈ gtb := gtb_3 64 rfl rfl
theorem q3_65 : (Cond.instanceMethod ⟨"GameTablesModel", "game", "(II)I"⟩) ∈ gtb := gtb_3 65 rfl rfl
theorem q3_66 : (Cond.selects "GameTablesModel" ⟨"GameTablesModel", "game", "(II)I"⟩ ⟨"GameTablesModel", "game", "(II)I"⟩) ∈ gtb := gtb_3 66 rfl rfl
theorem q3_67 : (Cond.code ⟨"GameTablesModel", "game", "(II)I"⟩ prog_7_method_10_code 4 (Option.some FieldType.int)) ∈ gtb := gtb_3 67 rfl rfl
theorem q3_68 : (Cond.methodLink "GameTablesModel" 70 ⟨"GameTablesModel", "refuse", "(I)I"⟩) ∈ gtb := gtb_3 68 rfl rfl
theorem q3_70 : (Cond.instanceMethod ⟨"GameTablesModel", "refuse", "(I)I"⟩) ∈ gtb := gtb_3 70 rfl rfl
theorem q3_71 : (Cond.code ⟨"GameTablesModel", "refuse", "(I)I"⟩ prog_7_method_4_code 2 (Option.some FieldType.int)) ∈ gtb := gtb_3 71 rfl rfl
theorem q3_72 : (Cond.methodLink "GameTablesLaw" 22 ⟨"GameTablesModel", "pay", "(IIII)I"⟩) ∈ gtb := gtb_3 72 rfl rfl
theorem q3_73 : (Cond.instanceMethod ⟨"GameTablesModel", "pay", "(IIII)I"⟩) ∈ gtb := gtb_3 73 rfl rfl
theorem q3_74 : (Cond.selects "GameTablesModel" ⟨"GameTablesModel", "pay", "(IIII)I"⟩ ⟨"GameTablesModel", "pay", "(IIII)I"⟩) ∈ gtb := gtb_3 74 rfl rfl
theorem q3_75 : (Cond.code ⟨"GameTablesModel", "pay", "(IIII)I"⟩ prog_7_method_11_code 7 (Option.some FieldType.int)) ∈ gtb := gtb_3 75 rfl rfl
theorem q3_76 : (Cond.methodLink "GameTablesModel" 62 ⟨"GameTablesModel", "isWho", "(I)Z"⟩) ∈ gtb := gtb_3 76 rfl rfl
theorem q3_77 : (Cond.static ⟨"GameTablesModel", "isWho", "(I)Z"⟩) ∈ gtb := gtb_3 77 rfl rfl
theorem q3_78 : (Cond.code ⟨"GameTablesModel", "isWho", "(I)Z"⟩ prog_7_method_7_code 1 (Option.some FieldType.boolean)) ∈ gtb := gtb_3 78 rfl rfl
theorem q3_79 : (Cond.methodLink "GameTablesModel" 74 ⟨"GameTablesModel", "isChoice", "(II)Z"⟩) ∈ gtb := gtb_3 79 rfl rfl
theorem q3_81 : (Cond.instanceMethod ⟨"GameTablesModel", "isChoice", "(II)Z"⟩) ∈ gtb := gtb_3 81 rfl rfl
theorem q3_82 : (Cond.code ⟨"GameTablesModel", "isChoice", "(II)Z"⟩ prog_7_method_8_code 3 (Option.some FieldType.boolean)) ∈ gtb := gtb_3 82 rfl rfl
theorem q3_83 : (Cond.methodLink "GameTablesModel" 66 ⟨"GameTablesModel", "in", "(JJJ)Z"⟩) ∈ gtb := gtb_3 83 rfl rfl
theorem q3_84 : (Cond.static ⟨"GameTablesModel", "in", "(JJJ)Z"⟩) ∈ gtb := gtb_3 84 rfl rfl
theorem q3_85 : (Cond.code ⟨"GameTablesModel", "in", "(JJJ)Z"⟩ prog_7_method_3_code 6 (Option.some FieldType.boolean)) ∈ gtb := gtb_3 85 rfl rfl
theorem q3_86 : (Cond.methodLink "GameTablesModel" 78 ⟨"GameTablesModel", "refuseBig", "(I)I"⟩) ∈ gtb := gtb_3 86 rfl rfl
theorem q3_88 : (Cond.instanceMethod ⟨"GameTablesModel", "refuseBig", "(I)I"⟩) ∈ gtb := gtb_3 88 rfl rfl
theorem q3_89 : (Cond.code ⟨"GameTablesModel", "refuseBig", "(I)I"⟩ prog_7_method_5_code 2 (Option.some FieldType.int)) ∈ gtb := gtb_3 89 rfl rfl
theorem q3_90 : (Cond.constant "GameTablesModel" 59 (1000000000 : Int32)) ∈ gtb := gtb_3 90 rfl rfl
theorem q3_91 : (Cond.methodLink "GameTablesLaw" 27 ⟨"GameTablesModel", "paid", "(III)I"⟩) ∈ gtb := gtb_3 91 rfl rfl
theorem q3_92 : (Cond.instanceMethod ⟨"GameTablesModel", "paid", "(III)I"⟩) ∈ gtb := gtb_3 92 rfl rfl
theorem q3_93 : (Cond.selects "GameTablesModel" ⟨"GameTablesModel", "paid", "(III)I"⟩ ⟨"GameTablesModel", "paid", "(III)I"⟩) ∈ gtb := gtb_3 93 rfl rfl
theorem q3_94 : (Cond.code ⟨"GameTablesModel", "paid", "(III)I"⟩ prog_7_method_12_code 4 (Option.some FieldType.int)) ∈ gtb := gtb_3 94 rfl rfl
theorem q3_95 : (Cond.methodLink "GameTablesLaw" 31 ⟨"GameTablesModel", "weight", "(III)I"⟩) ∈ gtb := gtb_3 95 rfl rfl
theorem q3_96 : (Cond.instanceMethod ⟨"GameTablesModel", "weight", "(III)I"⟩) ∈ gtb := gtb_3 96 rfl rfl
theorem q3_97 : (Cond.selects "GameTablesModel" ⟨"GameTablesModel", "weight", "(III)I"⟩ ⟨"GameTablesModel", "weight", "(III)I"⟩) ∈ gtb := gtb_3 97 rfl rfl
theorem q3_98 : (Cond.code ⟨"GameTablesModel", "weight", "(III)I"⟩ prog_7_method_13_code 5 (Option.some FieldType.int)) ∈ gtb := gtb_3 98 rfl rfl
theorem q3_99 : (Cond.constantLong "GameTablesModel" 81 (3 : Int64)) ∈ gtb := gtb_3 99 rfl rfl
theorem q3_100 : (Cond.methodLink "GameTablesLaw" 36 ⟨"GameTablesModel", "mean", "(II)J"⟩) ∈ gtb := gtb_3 100 rfl rfl
theorem q3_101 : (Cond.instanceMethod ⟨"GameTablesModel", "mean", "(II)J"⟩) ∈ gtb := gtb_3 101 rfl rfl
theorem q3_102 : (Cond.selects "GameTablesModel" ⟨"GameTablesModel", "mean", "(II)J"⟩ ⟨"GameTablesModel", "mean", "(II)J"⟩) ∈ gtb := gtb_3 102 rfl rfl
theorem q3_103 : (Cond.code ⟨"GameTablesModel", "mean", "(II)J"⟩ prog_7_method_18_code 9 (Option.some FieldType.long)) ∈ gtb := gtb_3 103 rfl rfl
theorem q3_104 : (Cond.methodLink "GameTablesModel" 83 ⟨"GameTablesModel", "refuseGreat", "(I)J"⟩) ∈ gtb := gtb_3 104 rfl rfl
theorem q3_106 : (Cond.instanceMethod ⟨"GameTablesModel", "refuseGreat", "(I)J"⟩) ∈ gtb := gtb_3 106 rfl rfl
theorem q3_107 : (Cond.code ⟨"GameTablesModel", "refuseGreat", "(I)J"⟩ prog_7_method_6_code 2 (Option.some FieldType.long)) ∈ gtb := gtb_3 107 rfl rfl
theorem q3_108 : (Cond.constantLong "GameTablesModel" 60 (4000000000000000000 : Int64)) ∈ gtb := gtb_3 108 rfl rfl
theorem q3_109 : (Cond.methodLink "GameTablesModel" 87 ⟨"GameTablesModel", "sumOf", "(I)I"⟩) ∈ gtb := gtb_3 109 rfl rfl
theorem q3_111 : (Cond.instanceMethod ⟨"GameTablesModel", "sumOf", "(I)I"⟩) ∈ gtb := gtb_3 111 rfl rfl
theorem q3_112 : (Cond.code ⟨"GameTablesModel", "sumOf", "(I)I"⟩ prog_7_method_14_code 4 (Option.some FieldType.int)) ∈ gtb := gtb_3 112 rfl rfl
theorem q3_113 : (Cond.methodLink "GameTablesModel" 90 ⟨"GameTablesModel", "showTray", "()V"⟩) ∈ gtb := gtb_3 113 rfl rfl
theorem q3_115 : (Cond.instanceMethod ⟨"GameTablesModel", "showTray", "()V"⟩) ∈ gtb := gtb_3 115 rfl rfl
theorem q3_116 : (Cond.code ⟨"GameTablesModel", "showTray", "()V"⟩ prog_7_method_17_code 2 (Option.none : Option FieldType)) ∈ gtb := gtb_3 116 rfl rfl
theorem q3_117 : (Cond.methodLink "GameTablesModel" 93 ⟨"GameTablesModel", "meanOf", "(I[JI[JI)J"⟩) ∈ gtb := gtb_3 117 rfl rfl
theorem q3_119 : (Cond.instanceMethod ⟨"GameTablesModel", "meanOf", "(I[JI[JI)J"⟩) ∈ gtb := gtb_3 119 rfl rfl
theorem q3_120 : (Cond.code ⟨"GameTablesModel", "meanOf", "(I[JI[JI)J"⟩ prog_7_method_16_code 10 (Option.some FieldType.long)) ∈ gtb := gtb_3 120 rfl rfl
theorem q3_121 : (Cond.methodLink "GameTablesModel" 97 ⟨"GameTablesModel", "common", "(JJ)J"⟩) ∈ gtb := gtb_3 121 rfl rfl
theorem q3_122 : (Cond.static ⟨"GameTablesModel", "common", "(JJ)J"⟩) ∈ gtb := gtb_3 122 rfl rfl
theorem q3_123 : (Cond.code ⟨"GameTablesModel", "common", "(JJ)J"⟩ prog_7_method_15_code 10 (Option.some FieldType.long)) ∈ gtb := gtb_3 123 rfl rfl
theorem q3_124 : (Cond.methodLink "GameTablesLaw" 41 ⟨"GameTablesModel", "answers", "(I)I"⟩) ∈ gtb := gtb_3 124 rfl rfl
theorem q3_125 : (Cond.instanceMethod ⟨"GameTablesModel", "answers", "(I)I"⟩) ∈ gtb := gtb_3 125 rfl rfl
theorem q3_126 : (Cond.selects "GameTablesModel" ⟨"GameTablesModel", "answers", "(I)I"⟩ ⟨"GameTablesModel", "answers", "(I)I"⟩) ∈ gtb := gtb_3 126 rfl rfl
theorem q3_127 : (Cond.code ⟨"GameTablesModel", "answers", "(I)I"⟩ prog_7_method_21_code 2 (Option.some FieldType.int)) ∈ gtb := gtb_3 127 rfl rfl
theorem q3_128 : (Cond.methodLink "GameTablesModel" 109 ⟨"GameTablesModel", "trayAnswers", "(I)I"⟩) ∈ gtb := gtb_3 128 rfl rfl
theorem q3_130 : (Cond.instanceMethod ⟨"GameTablesModel", "trayAnswers", "(I)I"⟩) ∈ gtb := gtb_3 130 rfl rfl
theorem q3_131 : (Cond.code ⟨"GameTablesModel", "trayAnswers", "(I)I"⟩ prog_7_method_20_code 2 (Option.some FieldType.int)) ∈ gtb := gtb_3 131 rfl rfl
theorem q3_132 : (Cond.methodLink "GameTablesModel" 105 ⟨"GameTablesModel", "answersTo", "(I[JI)I"⟩) ∈ gtb := gtb_3 132 rfl rfl
theorem q3_134 : (Cond.instanceMethod ⟨"GameTablesModel", "answersTo", "(I[JI)I"⟩) ∈ gtb := gtb_3 134 rfl rfl
theorem q3_135 : (Cond.code ⟨"GameTablesModel", "answersTo", "(I[JI)I"⟩ prog_7_method_19_code 11 (Option.some FieldType.int)) ∈ gtb := gtb_3 135 rfl rfl
theorem q3_136 : (Cond.methodLink "GameTablesModel" 101 ⟨"GameTablesModel", "get", "(III)I"⟩) ∈ gtb := gtb_3 136 rfl rfl
theorem q3_138 : (Cond.instanceMethod ⟨"GameTablesModel", "get", "(III)I"⟩) ∈ gtb := gtb_3 138 rfl rfl
theorem q3_139 : (Cond.code ⟨"GameTablesModel", "get", "(III)I"⟩ prog_7_method_9_code 4 (Option.some FieldType.int)) ∈ gtb := gtb_3 139 rfl rfl
theorem q3_140 : (Cond.methodLink "GameTablesLaw" 46 ⟨"GameTablesModel", "is", "()I"⟩) ∈ gtb := gtb_3 140 rfl rfl
theorem q3_141 : (Cond.instanceMethod ⟨"GameTablesModel", "is", "()I"⟩) ∈ gtb := gtb_3 141 rfl rfl
theorem q3_142 : (Cond.selects "GameTablesModel" ⟨"GameTablesModel", "is", "()I"⟩ ⟨"GameTablesModel", "is", "()I"⟩) ∈ gtb := gtb_3 142 rfl rfl
theorem q3_143 : (Cond.code ⟨"GameTablesModel", "is", "()I"⟩ prog_7_method_23_code 1 (Option.some FieldType.int)) ∈ gtb := gtb_3 143 rfl rfl
theorem q3_144 : (Cond.methodLink "GameTablesModel" 112 ⟨"GameTablesModel", "whyNot", "()I"⟩) ∈ gtb := gtb_3 144 rfl rfl
theorem q3_146 : (Cond.instanceMethod ⟨"GameTablesModel", "whyNot", "()I"⟩) ∈ gtb := gtb_3 146 rfl rfl
theorem q3_147 : (Cond.code ⟨"GameTablesModel", "whyNot", "()I"⟩ prog_7_method_22_code 4 (Option.some FieldType.int)) ∈ gtb := gtb_3 147 rfl rfl
theorem q3_148 : (Cond.methodLink "GameTablesLaw" 50 ⟨"GameTablesModel", "why", "()I"⟩) ∈ gtb := gtb_3 148 rfl rfl
theorem q3_149 : (Cond.instanceMethod ⟨"GameTablesModel", "why", "()I"⟩) ∈ gtb := gtb_3 149 rfl rfl
theorem q3_150 : (Cond.selects "GameTablesModel" ⟨"GameTablesModel", "why", "()I"⟩ ⟨"GameTablesModel", "why", "()I"⟩) ∈ gtb := gtb_3 150 rfl rfl
theorem q3_151 : (Cond.code ⟨"GameTablesModel", "why", "()I"⟩ prog_7_method_24_code 1 (Option.some FieldType.int)) ∈ gtb := gtb_3 151 rfl rfl
theorem q3_152 : (Cond.methodLink "GameTablesLaw" 54 ⟨"GameTablesModel", "worse", "(II)I"⟩) ∈ gtb := gtb_3 152 rfl rfl
theorem q3_153 : (Cond.instanceMethod ⟨"GameTablesModel", "worse", "(II)I"⟩) ∈ gtb := gtb_3 153 rfl rfl
theorem q3_154 : (Cond.selects "GameTablesModel" ⟨"GameTablesModel", "worse", "(II)I"⟩ ⟨"GameTablesModel", "worse", "(II)I"⟩) ∈ gtb := gtb_3 154 rfl rfl
theorem q3_155 : (Cond.code ⟨"GameTablesModel", "worse", "(II)I"⟩ prog_7_method_26_code 3 (Option.some FieldType.int)) ∈ gtb := gtb_3 155 rfl rfl
theorem q3_156 : (Cond.methodLink "GameTablesModel" 116 ⟨"GameTablesModel", "worseBy", "(IIII)I"⟩) ∈ gtb := gtb_3 156 rfl rfl
theorem q3_158 : (Cond.instanceMethod ⟨"GameTablesModel", "worseBy", "(IIII)I"⟩) ∈ gtb := gtb_3 158 rfl rfl
theorem q3_159 : (Cond.code ⟨"GameTablesModel", "worseBy", "(IIII)I"⟩ prog_7_method_25_code 8 (Option.some FieldType.int)) ∈ gtb := gtb_3 159 rfl rfl
theorem q3_160 : (Cond.methodLink "GameTablesLaw" 58 ⟨"GameTablesModel", "left", "(I)I"⟩) ∈ gtb := gtb_3 160 rfl rfl
theorem q3_161 : (Cond.instanceMethod ⟨"GameTablesModel", "left", "(I)I"⟩) ∈ gtb := gtb_3 161 rfl rfl
theorem q3_162 : (Cond.selects "GameTablesModel" ⟨"GameTablesModel", "left", "(I)I"⟩ ⟨"GameTablesModel", "left", "(I)I"⟩) ∈ gtb := gtb_3 162 rfl rfl
theorem q3_163 : (Cond.code ⟨"GameTablesModel", "left", "(I)I"⟩ prog_7_method_28_code 2 (Option.some FieldType.int)) ∈ gtb := gtb_3 163 rfl rfl
theorem q3_164 : (Cond.methodLink "GameTablesModel" 130 ⟨"GameTablesModel", "drop", "()V"⟩) ∈ gtb := gtb_3 164 rfl rfl
theorem q3_166 : (Cond.instanceMethod ⟨"GameTablesModel", "drop", "()V"⟩) ∈ gtb := gtb_3 166 rfl rfl
theorem q3_167 : (Cond.code ⟨"GameTablesModel", "drop", "()V"⟩ prog_7_method_27_code 6 (Option.none : Option FieldType)) ∈ gtb := gtb_3 167 rfl rfl
theorem q3_168 : (Cond.methodLink "GameTablesLaw" 62 ⟨"GameTablesModel", "times", "()I"⟩) ∈ gtb := gtb_3 168 rfl rfl
theorem q3_169 : (Cond.instanceMethod ⟨"GameTablesModel", "times", "()I"⟩) ∈ gtb := gtb_3 169 rfl rfl
theorem q3_170 : (Cond.selects "GameTablesModel" ⟨"GameTablesModel", "times", "()I"⟩ ⟨"GameTablesModel", "times", "()I"⟩) ∈ gtb := gtb_3 170 rfl rfl
theorem q3_171 : (Cond.code ⟨"GameTablesModel", "times", "()I"⟩ prog_7_method_29_code 1 (Option.some FieldType.int)) ∈ gtb := gtb_3 171 rfl rfl
theorem q3_172 : (Cond.methodLink "GameTablesLaw" 66 ⟨"GameTablesModel", "sure", "(I)I"⟩) ∈ gtb := gtb_3 172 rfl rfl
theorem q3_173 : (Cond.instanceMethod ⟨"GameTablesModel", "sure", "(I)I"⟩) ∈ gtb := gtb_3 173 rfl rfl
theorem q3_174 : (Cond.selects "GameTablesModel" ⟨"GameTablesModel", "sure", "(I)I"⟩ ⟨"GameTablesModel", "sure", "(I)I"⟩) ∈ gtb := gtb_3 174 rfl rfl
theorem q3_175 : (Cond.code ⟨"GameTablesModel", "sure", "(I)I"⟩ prog_7_method_30_code 6 (Option.some FieldType.int)) ∈ gtb := gtb_3 175 rfl rfl
theorem q3_176 : (Cond.methodLink "GameTablesLaw" 70 ⟨"GameTablesModel", "hold", "(I)I"⟩) ∈ gtb := gtb_3 176 rfl rfl
theorem q3_177 : (Cond.instanceMethod ⟨"GameTablesModel", "hold", "(I)I"⟩) ∈ gtb := gtb_3 177 rfl rfl
theorem q3_178 : (Cond.selects "GameTablesModel" ⟨"GameTablesModel", "hold", "(I)I"⟩ ⟨"GameTablesModel", "hold", "(I)I"⟩) ∈ gtb := gtb_3 178 rfl rfl
theorem q3_179 : (Cond.code ⟨"GameTablesModel", "hold", "(I)I"⟩ prog_7_method_31_code 6 (Option.some FieldType.int)) ∈ gtb := gtb_3 179 rfl rfl
theorem q3_180 : (Cond.methodLink "GameTablesLaw" 74 ⟨"GameTablesModel", "corners", "(I)I"⟩) ∈ gtb := gtb_3 180 rfl rfl
theorem q3_181 : (Cond.instanceMethod ⟨"GameTablesModel", "corners", "(I)I"⟩) ∈ gtb := gtb_3 181 rfl rfl
theorem q3_182 : (Cond.selects "GameTablesModel" ⟨"GameTablesModel", "corners", "(I)I"⟩ ⟨"GameTablesModel", "corners", "(I)I"⟩) ∈ gtb := gtb_3 182 rfl rfl
theorem q3_183 : (Cond.code ⟨"GameTablesModel", "corners", "(I)I"⟩ prog_7_method_39_code 2 (Option.some FieldType.int)) ∈ gtb := gtb_3 183 rfl rfl
theorem q3_184 : (Cond.methodLink "GameTablesModel" 154 ⟨"GameTablesModel", "findCorners", "(I)V"⟩) ∈ gtb := gtb_3 184 rfl rfl
theorem q3_186 : (Cond.instanceMethod ⟨"GameTablesModel", "findCorners", "(I)V"⟩) ∈ gtb := gtb_3 186 rfl rfl
theorem q3_187 : (Cond.code ⟨"GameTablesModel", "findCorners", "(I)V"⟩ prog_7_method_38_code 7 (Option.none : Option FieldType)) ∈ gtb := gtb_3 187 rfl rfl
theorem q3_188 : (Cond.methodLink "GameTablesModel" 140 ⟨"GameTablesModel", "manyIn", "(I)I"⟩) ∈ gtb := gtb_3 188 rfl rfl
theorem q3_189 : (Cond.static ⟨"GameTablesModel", "manyIn", "(I)I"⟩) ∈ gtb := gtb_3 189 rfl rfl
theorem q3_190 : (Cond.code ⟨"GameTablesModel", "manyIn", "(I)I"⟩ prog_7_method_32_code 1 (Option.some FieldType.int)) ∈ gtb := gtb_3 190 rfl rfl
theorem q3_191 : (Cond.methodLink "GameTablesModel" 143 ⟨"GameTablesModel", "listed", "(I[I)I"⟩) ∈ gtb := gtb_3 191 rfl rfl
theorem q3_192 : (Cond.static ⟨"GameTablesModel", "listed", "(I[I)I"⟩) ∈ gtb := gtb_3 192 rfl rfl
theorem q3_193 : (Cond.code ⟨"GameTablesModel", "listed", "(I[I)I"⟩ prog_7_method_33_code 4 (Option.some FieldType.int)) ∈ gtb := gtb_3 193 rfl rfl
theorem q3_194 : (Cond.methodLink "GameTablesModel" 147 ⟨"GameTablesModel", "solve", "(II)Z"⟩) ∈ gtb := gtb_3 194 rfl rfl
theorem q3_196 : (Cond.instanceMethod ⟨"GameTablesModel", "solve", "(II)Z"⟩) ∈ gtb := gtb_3 196 rfl rfl
theorem q3_197 : (Cond.code ⟨"GameTablesModel", "solve", "(II)Z"⟩ prog_7_method_35_code 9 (Option.some FieldType.boolean)) ∈ gtb := gtb_3 197 rfl rfl
theorem q3_198 : (Cond.methodLink "GameTablesModel" 133 ⟨"GameTablesModel", "without", "(III)J"⟩) ∈ gtb := gtb_3 198 rfl rfl
theorem q3_200 : (Cond.instanceMethod ⟨"GameTablesModel", "without", "(III)J"⟩) ∈ gtb := gtb_3 200 rfl rfl
theorem q3_201 : (Cond.code ⟨"GameTablesModel", "without", "(III)J"⟩ prog_7_method_34_code 7 (Option.some FieldType.long)) ∈ gtb := gtb_3 201 rfl rfl
theorem q3_202 : (Cond.methodLink "GameTablesModel" 150 ⟨"GameTablesModel", "put", "(III)V"⟩) ∈ gtb := gtb_3 202 rfl rfl
theorem q3_204 : (Cond.instanceMethod ⟨"GameTablesModel", "put", "(III)V"⟩) ∈ gtb := gtb_3 204 rfl rfl
theorem q3_205 : (Cond.code ⟨"GameTablesModel", "put", "(III)V"⟩ prog_7_method_37_code 7 (Option.none : Option FieldType)) ∈ gtb := gtb_3 205 rfl rfl
theorem q3_206 : (Cond.methodLink "GameTablesModel" 137 ⟨"GameTablesModel", "ahead", "(I)I"⟩) ∈ gtb := gtb_3 206 rfl rfl
theorem q3_208 : (Cond.instanceMethod ⟨"GameTablesModel", "ahead", "(I)I"⟩) ∈ gtb := gtb_3 208 rfl rfl
theorem q3_209 : (Cond.code ⟨"GameTablesModel", "ahead", "(I)I"⟩ prog_7_method_36_code 9 (Option.some FieldType.int)) ∈ gtb := gtb_3 209 rfl rfl
theorem q3_210 : (Cond.methodLink "GameTablesLaw" 78 ⟨"GameTablesModel", "corner", "(IIII)I"⟩) ∈ gtb := gtb_3 210 rfl rfl
theorem q3_211 : (Cond.instanceMethod ⟨"GameTablesModel", "corner", "(IIII)I"⟩) ∈ gtb := gtb_3 211 rfl rfl
theorem q3_212 : (Cond.selects "GameTablesModel" ⟨"GameTablesModel", "corner", "(IIII)I"⟩ ⟨"GameTablesModel", "corner", "(IIII)I"⟩) ∈ gtb := gtb_3 212 rfl rfl
theorem q3_213 : (Cond.code ⟨"GameTablesModel", "corner", "(IIII)I"⟩ prog_7_method_40_code 8 (Option.some FieldType.int)) ∈ gtb := gtb_3 213 rfl rfl
theorem q3_214 : (Cond.methodLink "GameTablesLaw" 82 ⟨"GameTablesModel", "balances", "()I"⟩) ∈ gtb := gtb_3 214 rfl rfl
theorem q3_215 : (Cond.instanceMethod ⟨"GameTablesModel", "balances", "()I"⟩) ∈ gtb := gtb_3 215 rfl rfl
theorem q3_216 : (Cond.selects "GameTablesModel" ⟨"GameTablesModel", "balances", "()I"⟩ ⟨"GameTablesModel", "balances", "()I"⟩) ∈ gtb := gtb_3 216 rfl rfl
theorem q3_217 : (Cond.code ⟨"GameTablesModel", "balances", "()I"⟩ prog_7_method_42_code 4 (Option.some FieldType.int)) ∈ gtb := gtb_3 217 rfl rfl
theorem q3_218 : (Cond.methodLink "GameTablesModel" 158 ⟨"GameTablesModel", "isBalance", "(II)Z"⟩) ∈ gtb := gtb_3 218 rfl rfl
theorem q3_220 : (Cond.instanceMethod ⟨"GameTablesModel", "isBalance", "(II)Z"⟩) ∈ gtb := gtb_3 220 rfl rfl
theorem q3_221 : (Cond.code ⟨"GameTablesModel", "isBalance", "(II)Z"⟩ prog_7_method_41_code 3 (Option.some FieldType.boolean)) ∈ gtb := gtb_3 221 rfl rfl
theorem q3_222 : (Cond.methodLink "GameTablesLaw" 86 ⟨"GameTablesModel", "balance", "(II)J"⟩) ∈ gtb := gtb_3 222 rfl rfl
theorem q3_223 : (Cond.instanceMethod ⟨"GameTablesModel", "balance", "(II)J"⟩) ∈ gtb := gtb_3 223 rfl rfl
theorem q3_224 : (Cond.selects "GameTablesModel" ⟨"GameTablesModel", "balance", "(II)J"⟩ ⟨"GameTablesModel", "balance", "(II)J"⟩) ∈ gtb := gtb_3 224 rfl rfl
theorem q3_225 : (Cond.code ⟨"GameTablesModel", "balance", "(II)J"⟩ prog_7_method_45_code 6 (Option.some FieldType.long)) ∈ gtb := gtb_3 225 rfl rfl
theorem q3_226 : (Cond.constantLong "GameTablesModel" 165 (6 : Int64)) ∈ gtb := gtb_3 226 rfl rfl
theorem q3_227 : (Cond.methodLink "GameTablesModel" 167 ⟨"GameTablesModel", "told", "(III)J"⟩) ∈ gtb := gtb_3 227 rfl rfl
theorem q3_229 : (Cond.instanceMethod ⟨"GameTablesModel", "told", "(III)J"⟩) ∈ gtb := gtb_3 229 rfl rfl
theorem q3_230 : (Cond.code ⟨"GameTablesModel", "told", "(III)J"⟩ prog_7_method_44_code 10 (Option.some FieldType.long)) ∈ gtb := gtb_3 230 rfl rfl
theorem q3_231 : (Cond.methodLink "GameTablesModel" 161 ⟨"GameTablesModel", "kindOf", "(II)I"⟩) ∈ gtb := gtb_3 231 rfl rfl
theorem q3_233 : (Cond.instanceMethod ⟨"GameTablesModel", "kindOf", "(II)I"⟩) ∈ gtb := gtb_3 233 rfl rfl
theorem q3_234 : (Cond.code ⟨"GameTablesModel", "kindOf", "(II)I"⟩ prog_7_method_43_code 5 (Option.some FieldType.int)) ∈ gtb := gtb_3 234 rfl rfl
theorem q3_235 : (Cond.methodLink "GameTablesLaw" 90 ⟨"GameTablesModel", "find", "()I"⟩) ∈ gtb := gtb_3 235 rfl rfl
theorem q3_236 : (Cond.instanceMethod ⟨"GameTablesModel", "find", "()I"⟩) ∈ gtb := gtb_3 236 rfl rfl
theorem q3_237 : (Cond.selects "GameTablesModel" ⟨"GameTablesModel", "find", "()I"⟩ ⟨"GameTablesModel", "find", "()I"⟩) ∈ gtb := gtb_3 237 rfl rfl
theorem q3_238 : (Cond.code ⟨"GameTablesModel", "find", "()I"⟩ prog_7_method_47_code 6 (Option.some FieldType.int)) ∈ gtb := gtb_3 238 rfl rfl
theorem q3_239 : (Cond.methodLink "GameTablesModel" 170 ⟨"GameTablesModel", "cornerOfTray", "(I)I"⟩) ∈ gtb := gtb_3 239 rfl rfl
theorem q4_1 : (Cond.instanceMethod ⟨"GameTablesModel", "cornerOfTray", "(I)I"⟩) ∈ gtb := gtb_4 1 rfl rfl
theorem q4_2 : (Cond.code ⟨"GameTablesModel", "cornerOfTray", "(I)I"⟩ prog_7_method_46_code 3 (Option.some FieldType.int)) ∈ gtb := gtb_4 2 rfl rfl
theorem q4_3 : (Cond.methodLink "GameTablesLaw" 94 ⟨"GameTablesModel", "turn", "()I"⟩) ∈ gtb := gtb_4 3 rfl rfl
theorem q4_4 : (Cond.instanceMethod ⟨"GameTablesModel", "turn", "()I"⟩) ∈ gtb := gtb_4 4 rfl rfl
theorem q4_5 : (Cond.selects "GameTablesModel" ⟨"GameTablesModel", "turn", "()I"⟩ ⟨"GameTablesModel", "turn", "()I"⟩) ∈ gtb := gtb_4 5 rfl rfl
theorem q4_6 : (Cond.code ⟨"GameTablesModel", "turn", "()I"⟩ prog_7_method_48_code 3 (Option.some FieldType.int)) ∈ gtb := gtb_4 6 rfl rfl
theorem q4_7 : (Cond.methodLink "GameTablesLaw" 98 ⟨"GameTablesModel", "raise", "(III)I"⟩) ∈ gtb := gtb_4 7 rfl rfl
theorem q4_8 : (Cond.instanceMethod ⟨"GameTablesModel", "raise", "(III)I"⟩) ∈ gtb := gtb_4 8 rfl rfl
theorem q4_9 : (Cond.selects "GameTablesModel" ⟨"GameTablesModel", "raise", "(III)I"⟩ ⟨"GameTablesModel", "raise", "(III)I"⟩) ∈ gtb := gtb_4 9 rfl rfl
theorem q4_10 : (Cond.code ⟨"GameTablesModel", "raise", "(III)I"⟩ prog_7_method_50_code 9 (Option.some FieldType.int)) ∈ gtb := gtb_4 10 rfl rfl
theorem q4_11 : (Cond.constantLong "GameTablesModel" 173 (-20 : Int64)) ∈ gtb := gtb_4 11 rfl rfl
theorem q4_12 : (Cond.constantLong "GameTablesModel" 175 (20 : Int64)) ∈ gtb := gtb_4 12 rfl rfl
theorem q4_13 : (Cond.methodLink "GameTablesModel" 177 ⟨"GameTablesModel", "placeOf", "(III)I"⟩) ∈ gtb := gtb_4 13 rfl rfl
theorem q4_15 : (Cond.instanceMethod ⟨"GameTablesModel", "placeOf", "(III)I"⟩) ∈ gtb := gtb_4 15 rfl rfl
theorem q4_16 : (Cond.code ⟨"GameTablesModel", "placeOf", "(III)I"⟩ prog_7_method_49_code 4 (Option.some FieldType.int)) ∈ gtb := gtb_4 16 rfl rfl
theorem q4_17 : (Cond.methodLink "GameTablesLaw" 102 ⟨"GameTablesModel", "scale", "(II)I"⟩) ∈ gtb := gtb_4 17 rfl rfl
theorem q4_18 : (Cond.instanceMethod ⟨"GameTablesModel", "scale", "(II)I"⟩) ∈ gtb := gtb_4 18 rfl rfl
theorem q4_19 : (Cond.selects "GameTablesModel" ⟨"GameTablesModel", "scale", "(II)I"⟩ ⟨"GameTablesModel", "scale", "(II)I"⟩) ∈ gtb := gtb_4 19 rfl rfl
theorem q4_20 : (Cond.code ⟨"GameTablesModel", "scale", "(II)I"⟩ prog_7_method_51_code 4 (Option.some FieldType.int)) ∈ gtb := gtb_4 20 rfl rfl
theorem q4_21 : (Cond.methodLink "GameTablesLaw" 106 ⟨"GameTablesModel", "status", "(I)I"⟩) ∈ gtb := gtb_4 21 rfl rfl
theorem q4_22 : (Cond.instanceMethod ⟨"GameTablesModel", "status", "(I)I"⟩) ∈ gtb := gtb_4 22 rfl rfl
theorem q4_23 : (Cond.selects "GameTablesModel" ⟨"GameTablesModel", "status", "(I)I"⟩ ⟨"GameTablesModel", "status", "(I)I"⟩) ∈ gtb := gtb_4 23 rfl rfl
theorem q4_24 : (Cond.code ⟨"GameTablesModel", "status", "(I)I"⟩ prog_7_method_52_code 6 (Option.some FieldType.int)) ∈ gtb := gtb_4 24 rfl rfl
theorem q4_25 : (Cond.constantLong "GameTablesModel" 180 (11 : Int64)) ∈ gtb := gtb_4 25 rfl rfl
theorem q4_26 : (Cond.constantLong "GameTablesModel" 182 (16 : Int64)) ∈ gtb := gtb_4 26 rfl rfl
theorem gtb_s {q : MethodName × Nat} (i : Nat) (h : lw_privs[i]? = some q) : Cond.selects q.1.cls q.1 q.1 ∈ gtb := List.mem_filter.mpr ⟨List.mem_append_left _ (List.mem_map.mpr ⟨q, List.mem_of_getElem? h, rfl⟩), rfl⟩
theorem qs_0 : (Cond.selects "GameTables" ⟨"GameTables", "refuse", "(I)I"⟩ ⟨"GameTables", "refuse", "(I)I"⟩) ∈ gtb := gtb_s (q := (⟨"GameTables", "refuse", "(I)I"⟩, 5)) 0 rfl
theorem qs_1 : (Cond.selects "GameTables" ⟨"GameTables", "isPlace", "(III)Z"⟩ ⟨"GameTables", "isPlace", "(III)Z"⟩) ∈ gtb := gtb_s (q := (⟨"GameTables", "isPlace", "(III)Z"⟩, 5)) 1 rfl
theorem qs_2 : (Cond.selects "GameTables" ⟨"GameTables", "refuseAmongPays", "(I)I"⟩ ⟨"GameTables", "refuseAmongPays", "(I)I"⟩) ∈ gtb := gtb_s (q := (⟨"GameTables", "refuseAmongPays", "(I)I"⟩, 5)) 2 rfl
theorem qs_3 : (Cond.selects "GameTables" ⟨"GameTables", "player", "(I)LGameTables$Player;"⟩ ⟨"GameTables", "player", "(I)LGameTables$Player;"⟩) ∈ gtb := gtb_s (q := (⟨"GameTables", "player", "(I)LGameTables$Player;"⟩, 5)) 3 rfl
theorem qs_4 : (Cond.selects "GameTables" ⟨"GameTables", "refuseAmongLongs", "(I)J"⟩ ⟨"GameTables", "refuseAmongLongs", "(I)J"⟩) ∈ gtb := gtb_s (q := (⟨"GameTables", "refuseAmongLongs", "(I)J"⟩, 5)) 4 rfl
theorem qs_5 : (Cond.selects "GameTables" ⟨"GameTables", "trayOf", "(I)LGameTables$Mix;"⟩ ⟨"GameTables", "trayOf", "(I)LGameTables$Mix;"⟩) ∈ gtb := gtb_s (q := (⟨"GameTables", "trayOf", "(I)LGameTables$Mix;"⟩, 5)) 5 rfl
theorem qs_6 : (Cond.selects "GameTables$Player" ⟨"GameTables$Player", "worthOf", "(ILGameTables$Mix;)J"⟩ ⟨"GameTables$Player", "worthOf", "(ILGameTables$Mix;)J"⟩) ∈ gtb := gtb_s (q := (⟨"GameTables$Player", "worthOf", "(ILGameTables$Mix;)J"⟩, 5)) 6 rfl
theorem qs_7 : (Cond.selects "GameTables$Player" ⟨"GameTables$Player", "paysMore", "(III)Z"⟩ ⟨"GameTables$Player", "paysMore", "(III)Z"⟩) ∈ gtb := gtb_s (q := (⟨"GameTables$Player", "paysMore", "(III)Z"⟩, 5)) 7 rfl
theorem qs_8 : (Cond.selects "GameTables$Player" ⟨"GameTables$Player", "leastFor", "(II)I"⟩ ⟨"GameTables$Player", "leastFor", "(II)I"⟩) ∈ gtb := gtb_s (q := (⟨"GameTables$Player", "leastFor", "(II)I"⟩, 5)) 8 rfl
theorem qs_9 : (Cond.selects "GameTables" ⟨"GameTables", "knowCorners", "()V"⟩ ⟨"GameTables", "knowCorners", "()V"⟩) ∈ gtb := gtb_s (q := (⟨"GameTables", "knowCorners", "()V"⟩, 5)) 9 rfl
theorem qs_10 : (Cond.selects "GameTables$Corners" ⟨"GameTables$Corners", "search", "(IILGameTables$Player;)V"⟩ ⟨"GameTables$Corners", "search", "(IILGameTables$Player;)V"⟩) ∈ gtb := gtb_s (q := (⟨"GameTables$Corners", "search", "(IILGameTables$Player;)V"⟩, 4)) 10 rfl
theorem qs_11 : (Cond.selects "GameTables$Corners" ⟨"GameTables$Corners", "layGaps", "(IILGameTables$Player;)V"⟩ ⟨"GameTables$Corners", "layGaps", "(IILGameTables$Player;)V"⟩) ∈ gtb := gtb_s (q := (⟨"GameTables$Corners", "layGaps", "(IILGameTables$Player;)V"⟩, 4)) 11 rfl
theorem qs_12 : (Cond.selects "GameTables$Corners" ⟨"GameTables$Corners", "layLine", "(IILGameTables$Player;II)V"⟩ ⟨"GameTables$Corners", "layLine", "(IILGameTables$Player;II)V"⟩) ∈ gtb := gtb_s (q := (⟨"GameTables$Corners", "layLine", "(IILGameTables$Player;II)V"⟩, 4)) 12 rfl
theorem qs_13 : (Cond.selects "GameTables$Corners" ⟨"GameTables$Corners", "layParts", "(I)V"⟩ ⟨"GameTables$Corners", "layParts", "(I)V"⟩) ∈ gtb := gtb_s (q := (⟨"GameTables$Corners", "layParts", "(I)V"⟩, 4)) 13 rfl
theorem qs_14 : (Cond.selects "GameTables$Corners" ⟨"GameTables$Corners", "gapsWithout", "(II)J"⟩ ⟨"GameTables$Corners", "gapsWithout", "(II)J"⟩) ∈ gtb := gtb_s (q := (⟨"GameTables$Corners", "gapsWithout", "(II)J"⟩, 4)) 14 rfl
theorem qs_15 : (Cond.selects "GameTables$Corners" ⟨"GameTables$Corners", "twoLines", "(IIII)J"⟩ ⟨"GameTables$Corners", "twoLines", "(IIII)J"⟩) ∈ gtb := gtb_s (q := (⟨"GameTables$Corners", "twoLines", "(IIII)J"⟩, 4)) 15 rfl
theorem qs_16 : (Cond.selects "GameTables$Corners" ⟨"GameTables$Corners", "makePositive", "(I)Z"⟩ ⟨"GameTables$Corners", "makePositive", "(I)Z"⟩) ∈ gtb := gtb_s (q := (⟨"GameTables$Corners", "makePositive", "(I)Z"⟩, 4)) 16 rfl
theorem qs_17 : (Cond.selects "GameTables$Corners" ⟨"GameTables$Corners", "signOfFirst", "(I)J"⟩ ⟨"GameTables$Corners", "signOfFirst", "(I)J"⟩) ∈ gtb := gtb_s (q := (⟨"GameTables$Corners", "signOfFirst", "(I)J"⟩, 4)) 17 rfl
theorem qs_18 : (Cond.selects "GameTables$Corners" ⟨"GameTables$Corners", "keepSpare", "()V"⟩ ⟨"GameTables$Corners", "keepSpare", "()V"⟩) ∈ gtb := gtb_s (q := (⟨"GameTables$Corners", "keepSpare", "()V"⟩, 4)) 18 rfl
theorem qs_19 : (Cond.selects "GameTables$Corners" ⟨"GameTables$Corners", "insertSpare", "(I)V"⟩ ⟨"GameTables$Corners", "insertSpare", "(I)V"⟩) ∈ gtb := gtb_s (q := (⟨"GameTables$Corners", "insertSpare", "(I)V"⟩, 4)) 19 rfl
theorem qs_20 : (Cond.selects "GameTables" ⟨"GameTables", "balancesBefore", "(II)I"⟩ ⟨"GameTables", "balancesBefore", "(II)I"⟩) ∈ gtb := gtb_s (q := (⟨"GameTables", "balancesBefore", "(II)I"⟩, 5)) 20 rfl
theorem qs_21 : (Cond.selects "GameTables" ⟨"GameTables", "balancesOf", "(LGameTables$Mix;I)I"⟩ ⟨"GameTables", "balancesOf", "(LGameTables$Mix;I)I"⟩) ∈ gtb := gtb_s (q := (⟨"GameTables", "balancesOf", "(LGameTables$Mix;I)I"⟩, 5)) 21 rfl
theorem qs_22 : (Cond.selects "GameTables" ⟨"GameTables", "pairOf", "(I)I"⟩ ⟨"GameTables", "pairOf", "(I)I"⟩) ∈ gtb := gtb_s (q := (⟨"GameTables", "pairOf", "(I)I"⟩, 5)) 22 rfl
theorem qs_23 : (Cond.selects "GameTables" ⟨"GameTables", "kindOf", "(LGameTables$Mix;LGameTables$Mix;)I"⟩ ⟨"GameTables", "kindOf", "(LGameTables$Mix;LGameTables$Mix;)I"⟩) ∈ gtb := gtb_s (q := (⟨"GameTables", "kindOf", "(LGameTables$Mix;LGameTables$Mix;)I"⟩, 5)) 23 rfl
theorem qs_24 : (Cond.selects "GameTables" ⟨"GameTables", "refusalsCounted", "(I)I"⟩ ⟨"GameTables", "refusalsCounted", "(I)I"⟩) ∈ gtb := gtb_s (q := (⟨"GameTables", "refusalsCounted", "(I)I"⟩, 5)) 24 rfl
theorem qs_25 : (Cond.selects "GameTablesModel" ⟨"GameTablesModel", "refuse", "(I)I"⟩ ⟨"GameTablesModel", "refuse", "(I)I"⟩) ∈ gtb := gtb_s (q := (⟨"GameTablesModel", "refuse", "(I)I"⟩, 19)) 25 rfl
theorem qs_26 : (Cond.selects "GameTablesModel" ⟨"GameTablesModel", "isChoice", "(II)Z"⟩ ⟨"GameTablesModel", "isChoice", "(II)Z"⟩) ∈ gtb := gtb_s (q := (⟨"GameTablesModel", "isChoice", "(II)Z"⟩, 19)) 26 rfl
theorem qs_27 : (Cond.selects "GameTablesModel" ⟨"GameTablesModel", "refuseBig", "(I)I"⟩ ⟨"GameTablesModel", "refuseBig", "(I)I"⟩) ∈ gtb := gtb_s (q := (⟨"GameTablesModel", "refuseBig", "(I)I"⟩, 19)) 27 rfl
theorem qs_28 : (Cond.selects "GameTablesModel" ⟨"GameTablesModel", "refuseGreat", "(I)J"⟩ ⟨"GameTablesModel", "refuseGreat", "(I)J"⟩) ∈ gtb := gtb_s (q := (⟨"GameTablesModel", "refuseGreat", "(I)J"⟩, 19)) 28 rfl
theorem qs_29 : (Cond.selects "GameTablesModel" ⟨"GameTablesModel", "sumOf", "(I)I"⟩ ⟨"GameTablesModel", "sumOf", "(I)I"⟩) ∈ gtb := gtb_s (q := (⟨"GameTablesModel", "sumOf", "(I)I"⟩, 19)) 29 rfl
theorem qs_30 : (Cond.selects "GameTablesModel" ⟨"GameTablesModel", "showTray", "()V"⟩ ⟨"GameTablesModel", "showTray", "()V"⟩) ∈ gtb := gtb_s (q := (⟨"GameTablesModel", "showTray", "()V"⟩, 19)) 30 rfl
theorem qs_31 : (Cond.selects "GameTablesModel" ⟨"GameTablesModel", "meanOf", "(I[JI[JI)J"⟩ ⟨"GameTablesModel", "meanOf", "(I[JI[JI)J"⟩) ∈ gtb := gtb_s (q := (⟨"GameTablesModel", "meanOf", "(I[JI[JI)J"⟩, 19)) 31 rfl
theorem qs_32 : (Cond.selects "GameTablesModel" ⟨"GameTablesModel", "trayAnswers", "(I)I"⟩ ⟨"GameTablesModel", "trayAnswers", "(I)I"⟩) ∈ gtb := gtb_s (q := (⟨"GameTablesModel", "trayAnswers", "(I)I"⟩, 19)) 32 rfl
theorem qs_33 : (Cond.selects "GameTablesModel" ⟨"GameTablesModel", "answersTo", "(I[JI)I"⟩ ⟨"GameTablesModel", "answersTo", "(I[JI)I"⟩) ∈ gtb := gtb_s (q := (⟨"GameTablesModel", "answersTo", "(I[JI)I"⟩, 19)) 33 rfl
theorem qs_34 : (Cond.selects "GameTablesModel" ⟨"GameTablesModel", "get", "(III)I"⟩ ⟨"GameTablesModel", "get", "(III)I"⟩) ∈ gtb := gtb_s (q := (⟨"GameTablesModel", "get", "(III)I"⟩, 19)) 34 rfl
theorem qs_35 : (Cond.selects "GameTablesModel" ⟨"GameTablesModel", "whyNot", "()I"⟩ ⟨"GameTablesModel", "whyNot", "()I"⟩) ∈ gtb := gtb_s (q := (⟨"GameTablesModel", "whyNot", "()I"⟩, 19)) 35 rfl
theorem qs_36 : (Cond.selects "GameTablesModel" ⟨"GameTablesModel", "worseBy", "(IIII)I"⟩ ⟨"GameTablesModel", "worseBy", "(IIII)I"⟩) ∈ gtb := gtb_s (q := (⟨"GameTablesModel", "worseBy", "(IIII)I"⟩, 19)) 36 rfl
theorem qs_37 : (Cond.selects "GameTablesModel" ⟨"GameTablesModel", "drop", "()V"⟩ ⟨"GameTablesModel", "drop", "()V"⟩) ∈ gtb := gtb_s (q := (⟨"GameTablesModel", "drop", "()V"⟩, 19)) 37 rfl
theorem qs_38 : (Cond.selects "GameTablesModel" ⟨"GameTablesModel", "findCorners", "(I)V"⟩ ⟨"GameTablesModel", "findCorners", "(I)V"⟩) ∈ gtb := gtb_s (q := (⟨"GameTablesModel", "findCorners", "(I)V"⟩, 19)) 38 rfl
theorem qs_39 : (Cond.selects "GameTablesModel" ⟨"GameTablesModel", "solve", "(II)Z"⟩ ⟨"GameTablesModel", "solve", "(II)Z"⟩) ∈ gtb := gtb_s (q := (⟨"GameTablesModel", "solve", "(II)Z"⟩, 19)) 39 rfl
theorem qs_40 : (Cond.selects "GameTablesModel" ⟨"GameTablesModel", "without", "(III)J"⟩ ⟨"GameTablesModel", "without", "(III)J"⟩) ∈ gtb := gtb_s (q := (⟨"GameTablesModel", "without", "(III)J"⟩, 19)) 40 rfl
theorem qs_41 : (Cond.selects "GameTablesModel" ⟨"GameTablesModel", "put", "(III)V"⟩ ⟨"GameTablesModel", "put", "(III)V"⟩) ∈ gtb := gtb_s (q := (⟨"GameTablesModel", "put", "(III)V"⟩, 19)) 41 rfl
theorem qs_42 : (Cond.selects "GameTablesModel" ⟨"GameTablesModel", "ahead", "(I)I"⟩ ⟨"GameTablesModel", "ahead", "(I)I"⟩) ∈ gtb := gtb_s (q := (⟨"GameTablesModel", "ahead", "(I)I"⟩, 19)) 42 rfl
theorem qs_43 : (Cond.selects "GameTablesModel" ⟨"GameTablesModel", "isBalance", "(II)Z"⟩ ⟨"GameTablesModel", "isBalance", "(II)Z"⟩) ∈ gtb := gtb_s (q := (⟨"GameTablesModel", "isBalance", "(II)Z"⟩, 19)) 43 rfl
theorem qs_44 : (Cond.selects "GameTablesModel" ⟨"GameTablesModel", "told", "(III)J"⟩ ⟨"GameTablesModel", "told", "(III)J"⟩) ∈ gtb := gtb_s (q := (⟨"GameTablesModel", "told", "(III)J"⟩, 19)) 44 rfl
theorem qs_45 : (Cond.selects "GameTablesModel" ⟨"GameTablesModel", "kindOf", "(II)I"⟩ ⟨"GameTablesModel", "kindOf", "(II)I"⟩) ∈ gtb := gtb_s (q := (⟨"GameTablesModel", "kindOf", "(II)I"⟩, 19)) 45 rfl
theorem qs_46 : (Cond.selects "GameTablesModel" ⟨"GameTablesModel", "cornerOfTray", "(I)I"⟩ ⟨"GameTablesModel", "cornerOfTray", "(I)I"⟩) ∈ gtb := gtb_s (q := (⟨"GameTablesModel", "cornerOfTray", "(I)I"⟩, 19)) 46 rfl
theorem qs_47 : (Cond.selects "GameTablesModel" ⟨"GameTablesModel", "placeOf", "(III)I"⟩ ⟨"GameTablesModel", "placeOf", "(III)I"⟩) ∈ gtb := gtb_s (q := (⟨"GameTablesModel", "placeOf", "(III)I"⟩, 19)) 47 rfl
theorem inX0 : ∀ w ∈ wsX00, w ∈ gtb := by
  intro w h
  obtain ⟨k, hk, rfl⟩ := List.mem_map.mp h
  have hk := List.mem_range.mp hk
  rcases (show k = 0 ∨ k = 1 ∨ k = 2 ∨ k = 3 by omega) with rfl | rfl | rfl | rfl
  · exact q1_66
  · exact q1_68
  · exact q1_70
  · exact q1_72
theorem inX1 : ∀ w ∈ wsX10, w ∈ gtb := by
  intro w h
  obtain ⟨k, hk, rfl⟩ := List.mem_map.mp h
  have hk := List.mem_range.mp hk
  rcases (show k = 0 ∨ k = 1 ∨ k = 2 by omega) with rfl | rfl | rfl
  · exact q1_108
  · exact q1_110
  · exact q1_112
theorem inX2 : ∀ w ∈ wsX20, w ∈ gtb := by
  intro w h
  obtain ⟨k, hk, rfl⟩ := List.mem_map.mp h
  have hk := List.mem_range.mp hk
  rcases (show k = 0 ∨ k = 1 ∨ k = 2 ∨ k = 3 by omega) with rfl | rfl | rfl | rfl
  · exact q1_49
  · exact q1_51
  · exact q1_53
  · exact q1_55
theorem inX3 : ∀ w ∈ wsX30, w ∈ gtb := by
  intro w h
  obtain ⟨k, hk, rfl⟩ := List.mem_map.mp h
  have hk := List.mem_range.mp hk
  rcases (show k = 0 ∨ k = 1 ∨ k = 2 ∨ k = 3 ∨ k = 4 by omega) with rfl | rfl | rfl | rfl | rfl
  · exact q1_84
  · exact q1_86
  · exact q1_88
  · exact q1_90
  · exact q1_92
theorem inX4 : ∀ w ∈ wsX40, w ∈ gtb := by
  intro w h
  obtain ⟨k, hk, rfl⟩ := List.mem_map.mp h
  have hk := List.mem_range.mp hk
  rcases (show k = 0 ∨ k = 1 ∨ k = 2 ∨ k = 3 ∨ k = 4 by omega) with rfl | rfl | rfl | rfl | rfl
  · exact q1_120
  · exact q1_122
  · exact q1_124
  · exact q1_126
  · exact q1_128
theorem inX5 : ∀ w ∈ wsX50, w ∈ gtb := by
  intro w h
  obtain ⟨k, hk, rfl⟩ := List.mem_map.mp h
  have hk := List.mem_range.mp hk
  rcases (show k = 0 ∨ k = 1 ∨ k = 2 ∨ k = 3 ∨ k = 4 ∨ k = 5 ∨ k = 6 ∨ k = 7 ∨ k = 8 ∨ k = 9 ∨ k = 10 ∨ k = 11 ∨ k = 12 ∨ k = 13 ∨ k = 14 ∨ k = 15 ∨ k = 16 ∨ k = 17 ∨ k = 18 by omega) with rfl | rfl | rfl | rfl | rfl | rfl | rfl | rfl | rfl | rfl | rfl | rfl | rfl | rfl | rfl | rfl | rfl | rfl | rfl
  · exact q3_25
  · exact q3_27
  · exact q3_29
  · exact q3_31
  · exact q3_33
  · exact q3_35
  · exact q3_37
  · exact q3_39
  · exact q3_41
  · exact q3_43
  · exact q3_45
  · exact q3_47
  · exact q3_49
  · exact q3_51
  · exact q3_53
  · exact q3_55
  · exact q3_57
  · exact q3_59
  · exact q3_61
