-- the tables' words of the private methods (starting text of the task), names of classes, fields, methods (printed from the program)
/-- a private method of a class that the tables say can be made, by its rows of tables_1 -/
def lw_okq (q : MethodName × Nat) : Prop := (q.1.cls ≠ "java/lang/invoke/MethodHandle" ∧ q.1.cls ≠ "java/lang/invoke/VarHandle") ∧ Cond.instantiable q.1.cls q.2 ∈ tables_1 ∧ Cond.privateMethod q.1 ∈ tables_1 ∧ Cond.instanceMethod q.1 ∈ tables_1
theorem lw_p0 : lw_okq (⟨"HandedWorks", "tapeByte", "(IZ)V"⟩, 8) := ⟨⟨by decide +kernel, by decide +kernel⟩, List.mem_of_getElem? (i := 16) (by decide +kernel), List.mem_of_getElem? (i := 290) (by decide +kernel), List.mem_of_getElem? (i := 291) (by decide +kernel)⟩
theorem lw_p1 : lw_okq (⟨"HandedWorks", "isRawText", "(I)Z"⟩, 8) := ⟨⟨by decide +kernel, by decide +kernel⟩, List.mem_of_getElem? (i := 16) (by decide +kernel), List.mem_of_getElem? (i := 307) (by decide +kernel), List.mem_of_getElem? (i := 308) (by decide +kernel)⟩
theorem lw_p2 : lw_okq (⟨"HandedWorks", "isMissing", "(I)Z"⟩, 8) := ⟨⟨by decide +kernel, by decide +kernel⟩, List.mem_of_getElem? (i := 16) (by decide +kernel), List.mem_of_getElem? (i := 332) (by decide +kernel), List.mem_of_getElem? (i := 333) (by decide +kernel)⟩
theorem lw_p3 : lw_okq (⟨"HandedWorks$Reading", "setPrint", "(IIZ)V"⟩, 7) := ⟨⟨by decide +kernel, by decide +kernel⟩, List.mem_of_getElem? (i := 63) (by decide +kernel), List.mem_of_getElem? (i := 486) (by decide +kernel), List.mem_of_getElem? (i := 487) (by decide +kernel)⟩
theorem lw_p4 : lw_okq (⟨"HandedWorks$Reading", "lastOfLeast", "(III)I"⟩, 7) := ⟨⟨by decide +kernel, by decide +kernel⟩, List.mem_of_getElem? (i := 63) (by decide +kernel), List.mem_of_getElem? (i := 490) (by decide +kernel), List.mem_of_getElem? (i := 491) (by decide +kernel)⟩
theorem lw_p5 : lw_okq (⟨"HandedWorks$Forms", "formOf", "(LHandedWorks$Reading;III)I"⟩, 9) := ⟨⟨by decide +kernel, by decide +kernel⟩, List.mem_of_getElem? (i := 93) (by decide +kernel), List.mem_of_getElem? (i := 504) (by decide +kernel), List.mem_of_getElem? (i := 505) (by decide +kernel)⟩
theorem lw_p6 : lw_okq (⟨"HandedWorks$Forms", "add", "(II)I"⟩, 9) := ⟨⟨by decide +kernel, by decide +kernel⟩, List.mem_of_getElem? (i := 93) (by decide +kernel), List.mem_of_getElem? (i := 514) (by decide +kernel), List.mem_of_getElem? (i := 515) (by decide +kernel)⟩
theorem lw_p7 : lw_okq (⟨"HandedWorks$Forms", "seeIn", "(III)V"⟩, 9) := ⟨⟨by decide +kernel, by decide +kernel⟩, List.mem_of_getElem? (i := 93) (by decide +kernel), List.mem_of_getElem? (i := 522) (by decide +kernel), List.mem_of_getElem? (i := 523) (by decide +kernel)⟩
theorem lw_p8 : lw_okq (⟨"HandedWorks$Forms", "isForm", "(I)Z"⟩, 9) := ⟨⟨by decide +kernel, by decide +kernel⟩, List.mem_of_getElem? (i := 93) (by decide +kernel), List.mem_of_getElem? (i := 526) (by decide +kernel), List.mem_of_getElem? (i := 527) (by decide +kernel)⟩
theorem lw_p9 : lw_okq (⟨"HandedWorks$Matches", "isBegin", "(II)Z"⟩, 10) := ⟨⟨by decide +kernel, by decide +kernel⟩, List.mem_of_getElem? (i := 128) (by decide +kernel), List.mem_of_getElem? (i := 594) (by decide +kernel), List.mem_of_getElem? (i := 595) (by decide +kernel)⟩
theorem lw_p10 : lw_okq (⟨"HandedWorks$Matches", "addRun", "(III)V"⟩, 10) := ⟨⟨by decide +kernel, by decide +kernel⟩, List.mem_of_getElem? (i := 128) (by decide +kernel), List.mem_of_getElem? (i := 599) (by decide +kernel), List.mem_of_getElem? (i := 600) (by decide +kernel)⟩
theorem lw_p11 : lw_okq (⟨"HandedWorks$Matches", "heaviestBehind", "(I)I"⟩, 10) := ⟨⟨by decide +kernel, by decide +kernel⟩, List.mem_of_getElem? (i := 128) (by decide +kernel), List.mem_of_getElem? (i := 608) (by decide +kernel), List.mem_of_getElem? (i := 609) (by decide +kernel)⟩
theorem lw_p12 : lw_okq (⟨"HandedWorks$Matches", "isChained", "(I)Z"⟩, 10) := ⟨⟨by decide +kernel, by decide +kernel⟩, List.mem_of_getElem? (i := 128) (by decide +kernel), List.mem_of_getElem? (i := 621) (by decide +kernel), List.mem_of_getElem? (i := 622) (by decide +kernel)⟩
theorem lw_p13 : lw_okq (⟨"HandedWorks$Study", "flagPrintsOf", "(II)V"⟩, 5) := ⟨⟨by decide +kernel, by decide +kernel⟩, List.mem_of_getElem? (i := 57) (by decide +kernel), List.mem_of_getElem? (i := 646) (by decide +kernel), List.mem_of_getElem? (i := 647) (by decide +kernel)⟩
theorem lw_p14 : lw_okq (⟨"HandedWorks$Spans", "isBetter", "(III[I)Z"⟩, 9) := ⟨⟨by decide +kernel, by decide +kernel⟩, List.mem_of_getElem? (i := 186) (by decide +kernel), List.mem_of_getElem? (i := 693) (by decide +kernel), List.mem_of_getElem? (i := 694) (by decide +kernel)⟩
theorem lw_p15 : lw_okq (⟨"HandedWorks$Spans", "extend", "(IIZ)V"⟩, 9) := ⟨⟨by decide +kernel, by decide +kernel⟩, List.mem_of_getElem? (i := 186) (by decide +kernel), List.mem_of_getElem? (i := 707) (by decide +kernel), List.mem_of_getElem? (i := 708) (by decide +kernel)⟩
def lw_privs_1 : List (MethodName × Nat) := [(⟨"HandedWorks", "tapeByte", "(IZ)V"⟩, 8), (⟨"HandedWorks", "isRawText", "(I)Z"⟩, 8), (⟨"HandedWorks", "isMissing", "(I)Z"⟩, 8), (⟨"HandedWorks$Reading", "setPrint", "(IIZ)V"⟩, 7), (⟨"HandedWorks$Reading", "lastOfLeast", "(III)I"⟩, 7), (⟨"HandedWorks$Forms", "formOf", "(LHandedWorks$Reading;III)I"⟩, 9), (⟨"HandedWorks$Forms", "add", "(II)I"⟩, 9), (⟨"HandedWorks$Forms", "seeIn", "(III)V"⟩, 9), (⟨"HandedWorks$Forms", "isForm", "(I)Z"⟩, 9), (⟨"HandedWorks$Matches", "isBegin", "(II)Z"⟩, 10), (⟨"HandedWorks$Matches", "addRun", "(III)V"⟩, 10), (⟨"HandedWorks$Matches", "heaviestBehind", "(I)I"⟩, 10), (⟨"HandedWorks$Matches", "isChained", "(I)Z"⟩, 10), (⟨"HandedWorks$Study", "flagPrintsOf", "(II)V"⟩, 5), (⟨"HandedWorks$Spans", "isBetter", "(III[I)Z"⟩, 9), (⟨"HandedWorks$Spans", "extend", "(IIZ)V"⟩, 9)]
theorem lw_r1 : ∀ q ∈ lw_privs_1, lw_okq q := List.forall_mem_cons.mpr ⟨lw_p0, List.forall_mem_cons.mpr ⟨lw_p1, List.forall_mem_cons.mpr ⟨lw_p2, List.forall_mem_cons.mpr ⟨lw_p3, List.forall_mem_cons.mpr ⟨lw_p4, List.forall_mem_cons.mpr ⟨lw_p5, List.forall_mem_cons.mpr ⟨lw_p6, List.forall_mem_cons.mpr ⟨lw_p7, List.forall_mem_cons.mpr ⟨lw_p8, List.forall_mem_cons.mpr ⟨lw_p9, List.forall_mem_cons.mpr ⟨lw_p10, List.forall_mem_cons.mpr ⟨lw_p11, List.forall_mem_cons.mpr ⟨lw_p12, List.forall_mem_cons.mpr ⟨lw_p13, List.forall_mem_cons.mpr ⟨lw_p14, List.forall_mem_cons.mpr ⟨lw_p15, fun _ h => absurd h List.not_mem_nil⟩⟩⟩⟩⟩⟩⟩⟩⟩⟩⟩⟩⟩⟩⟩⟩
theorem lw_p16 : lw_okq (⟨"HandedWorks", "tellShare", "(II)I"⟩, 8) := ⟨⟨by decide +kernel, by decide +kernel⟩, List.mem_of_getElem? (i := 16) (by decide +kernel), List.mem_of_getElem? (i := 742) (by decide +kernel), List.mem_of_getElem? (i := 743) (by decide +kernel)⟩
theorem lw_p17 : lw_okq (⟨"HandedWorks$Matches", "lettersIn", "([I)I"⟩, 10) := ⟨⟨by decide +kernel, by decide +kernel⟩, List.mem_of_getElem? (i := 128) (by decide +kernel), List.mem_of_getElem? (i := 759) (by decide +kernel), List.mem_of_getElem? (i := 760) (by decide +kernel)⟩
theorem lw_p18 : lw_okq (⟨"HandedWorks$Study", "isEnough", "(III)Z"⟩, 5) := ⟨⟨by decide +kernel, by decide +kernel⟩, List.mem_of_getElem? (i := 57) (by decide +kernel), List.mem_of_getElem? (i := 764) (by decide +kernel), List.mem_of_getElem? (i := 765) (by decide +kernel)⟩
theorem lw_p19 : lw_okq (⟨"HandedWorks", "drawInThought", "(III)V"⟩, 8) := ⟨⟨by decide +kernel, by decide +kernel⟩, List.mem_of_getElem? (i := 16) (by decide +kernel), List.mem_of_getElem? (i := 788) (by decide +kernel), List.mem_of_getElem? (i := 789) (by decide +kernel)⟩
theorem lw_p20 : lw_okq (⟨"HandedWorks", "firstOtherwise", "(II)I"⟩, 8) := ⟨⟨by decide +kernel, by decide +kernel⟩, List.mem_of_getElem? (i := 16) (by decide +kernel), List.mem_of_getElem? (i := 824) (by decide +kernel), List.mem_of_getElem? (i := 825) (by decide +kernel)⟩
theorem lw_p21 : lw_okq (⟨"HandedWorks$Sheets", "itemCell", "(II)I"⟩, 3) := ⟨⟨by decide +kernel, by decide +kernel⟩, List.mem_of_getElem? (i := 242) (by decide +kernel), List.mem_of_getElem? (i := 832) (by decide +kernel), List.mem_of_getElem? (i := 833) (by decide +kernel)⟩
theorem lw_p22 : lw_okq (⟨"HandedWorks", "leastTold", "(II)I"⟩, 8) := ⟨⟨by decide +kernel, by decide +kernel⟩, List.mem_of_getElem? (i := 16) (by decide +kernel), List.mem_of_getElem? (i := 837) (by decide +kernel), List.mem_of_getElem? (i := 838) (by decide +kernel)⟩
theorem lw_p23 : lw_okq (⟨"HandedWorks", "wouldTell", "(III)Z"⟩, 8) := ⟨⟨by decide +kernel, by decide +kernel⟩, List.mem_of_getElem? (i := 16) (by decide +kernel), List.mem_of_getElem? (i := 841) (by decide +kernel), List.mem_of_getElem? (i := 842) (by decide +kernel)⟩
theorem lw_p24 : lw_okq (⟨"HandedWorks", "greatestTold", "(II)I"⟩, 8) := ⟨⟨by decide +kernel, by decide +kernel⟩, List.mem_of_getElem? (i := 16) (by decide +kernel), List.mem_of_getElem? (i := 846) (by decide +kernel), List.mem_of_getElem? (i := 847) (by decide +kernel)⟩
theorem lw_p25 : lw_okq (⟨"HandedWorksModel", "passesAll", "(Z)I"⟩, 35) := ⟨⟨by decide +kernel, by decide +kernel⟩, List.mem_of_getElem? (i := 914) (by decide +kernel), List.mem_of_getElem? (i := 1032) (by decide +kernel), List.mem_of_getElem? (i := 1033) (by decide +kernel)⟩
theorem lw_p26 : lw_okq (⟨"HandedWorksModel", "passesRow", "([I)V"⟩, 35) := ⟨⟨by decide +kernel, by decide +kernel⟩, List.mem_of_getElem? (i := 914) (by decide +kernel), List.mem_of_getElem? (i := 1036) (by decide +kernel), List.mem_of_getElem? (i := 1037) (by decide +kernel)⟩
theorem lw_p27 : lw_okq (⟨"HandedWorksModel", "worksThere", "()I"⟩, 35) := ⟨⟨by decide +kernel, by decide +kernel⟩, List.mem_of_getElem? (i := 914) (by decide +kernel), List.mem_of_getElem? (i := 1040) (by decide +kernel), List.mem_of_getElem? (i := 1041) (by decide +kernel)⟩
theorem lw_p28 : lw_okq (⟨"HandedWorksModel", "isThere", "(I)Z"⟩, 35) := ⟨⟨by decide +kernel, by decide +kernel⟩, List.mem_of_getElem? (i := 914) (by decide +kernel), List.mem_of_getElem? (i := 1044) (by decide +kernel), List.mem_of_getElem? (i := 1045) (by decide +kernel)⟩
theorem lw_p29 : lw_okq (⟨"HandedWorksModel", "isRaw", "()Z"⟩, 35) := ⟨⟨by decide +kernel, by decide +kernel⟩, List.mem_of_getElem? (i := 914) (by decide +kernel), List.mem_of_getElem? (i := 1070) (by decide +kernel), List.mem_of_getElem? (i := 1071) (by decide +kernel)⟩
theorem lw_p30 : lw_okq (⟨"HandedWorksModel", "spells", "(I)V"⟩, 35) := ⟨⟨by decide +kernel, by decide +kernel⟩, List.mem_of_getElem? (i := 914) (by decide +kernel), List.mem_of_getElem? (i := 1108) (by decide +kernel), List.mem_of_getElem? (i := 1109) (by decide +kernel)⟩
theorem lw_p31 : lw_okq (⟨"HandedWorksModel", "asTold", "(IIIZ)I"⟩, 35) := ⟨⟨by decide +kernel, by decide +kernel⟩, List.mem_of_getElem? (i := 914) (by decide +kernel), List.mem_of_getElem? (i := 1112) (by decide +kernel), List.mem_of_getElem? (i := 1113) (by decide +kernel)⟩
def lw_privs_2 : List (MethodName × Nat) := [(⟨"HandedWorks", "tellShare", "(II)I"⟩, 8), (⟨"HandedWorks$Matches", "lettersIn", "([I)I"⟩, 10), (⟨"HandedWorks$Study", "isEnough", "(III)Z"⟩, 5), (⟨"HandedWorks", "drawInThought", "(III)V"⟩, 8), (⟨"HandedWorks", "firstOtherwise", "(II)I"⟩, 8), (⟨"HandedWorks$Sheets", "itemCell", "(II)I"⟩, 3), (⟨"HandedWorks", "leastTold", "(II)I"⟩, 8), (⟨"HandedWorks", "wouldTell", "(III)Z"⟩, 8), (⟨"HandedWorks", "greatestTold", "(II)I"⟩, 8), (⟨"HandedWorksModel", "passesAll", "(Z)I"⟩, 35), (⟨"HandedWorksModel", "passesRow", "([I)V"⟩, 35), (⟨"HandedWorksModel", "worksThere", "()I"⟩, 35), (⟨"HandedWorksModel", "isThere", "(I)Z"⟩, 35), (⟨"HandedWorksModel", "isRaw", "()Z"⟩, 35), (⟨"HandedWorksModel", "spells", "(I)V"⟩, 35), (⟨"HandedWorksModel", "asTold", "(IIIZ)I"⟩, 35)]
theorem lw_r2 : ∀ q ∈ lw_privs_2, lw_okq q := List.forall_mem_cons.mpr ⟨lw_p16, List.forall_mem_cons.mpr ⟨lw_p17, List.forall_mem_cons.mpr ⟨lw_p18, List.forall_mem_cons.mpr ⟨lw_p19, List.forall_mem_cons.mpr ⟨lw_p20, List.forall_mem_cons.mpr ⟨lw_p21, List.forall_mem_cons.mpr ⟨lw_p22, List.forall_mem_cons.mpr ⟨lw_p23, List.forall_mem_cons.mpr ⟨lw_p24, List.forall_mem_cons.mpr ⟨lw_p25, List.forall_mem_cons.mpr ⟨lw_p26, List.forall_mem_cons.mpr ⟨lw_p27, List.forall_mem_cons.mpr ⟨lw_p28, List.forall_mem_cons.mpr ⟨lw_p29, List.forall_mem_cons.mpr ⟨lw_p30, List.forall_mem_cons.mpr ⟨lw_p31, fun _ h => absurd h List.not_mem_nil⟩⟩⟩⟩⟩⟩⟩⟩⟩⟩⟩⟩⟩⟩⟩⟩
theorem lw_p32 : lw_okq (⟨"HandedWorksModel", "byteAt", "(II)I"⟩, 35) := ⟨⟨by decide +kernel, by decide +kernel⟩, List.mem_of_getElem? (i := 914) (by decide +kernel), List.mem_of_getElem? (i := 1116) (by decide +kernel), List.mem_of_getElem? (i := 1117) (by decide +kernel)⟩
theorem lw_p33 : lw_okq (⟨"HandedWorksModel", "prints", "(I)V"⟩, 35) := ⟨⟨by decide +kernel, by decide +kernel⟩, List.mem_of_getElem? (i := 914) (by decide +kernel), List.mem_of_getElem? (i := 1144) (by decide +kernel), List.mem_of_getElem? (i := 1145) (by decide +kernel)⟩
theorem lw_p34 : lw_okq (⟨"HandedWorksModel", "grams", "(I)I"⟩, 35) := ⟨⟨by decide +kernel, by decide +kernel⟩, List.mem_of_getElem? (i := 914) (by decide +kernel), List.mem_of_getElem? (i := 1148) (by decide +kernel), List.mem_of_getElem? (i := 1149) (by decide +kernel)⟩
theorem lw_p35 : lw_okq (⟨"HandedWorksModel", "anew", "()V"⟩, 35) := ⟨⟨by decide +kernel, by decide +kernel⟩, List.mem_of_getElem? (i := 914) (by decide +kernel), List.mem_of_getElem? (i := 1158) (by decide +kernel), List.mem_of_getElem? (i := 1159) (by decide +kernel)⟩
theorem lw_p36 : lw_okq (⟨"HandedWorksModel", "has", "(III)Z"⟩, 35) := ⟨⟨by decide +kernel, by decide +kernel⟩, List.mem_of_getElem? (i := 914) (by decide +kernel), List.mem_of_getElem? (i := 1162) (by decide +kernel), List.mem_of_getElem? (i := 1163) (by decide +kernel)⟩
theorem lw_p37 : lw_okq (⟨"HandedWorksModel", "isLike", "(IIII)Z"⟩, 35) := ⟨⟨by decide +kernel, by decide +kernel⟩, List.mem_of_getElem? (i := 914) (by decide +kernel), List.mem_of_getElem? (i := 1166) (by decide +kernel), List.mem_of_getElem? (i := 1167) (by decide +kernel)⟩
theorem lw_p38 : lw_okq (⟨"HandedWorksModel", "printsOf", "(I)I"⟩, 35) := ⟨⟨by decide +kernel, by decide +kernel⟩, List.mem_of_getElem? (i := 914) (by decide +kernel), List.mem_of_getElem? (i := 1170) (by decide +kernel), List.mem_of_getElem? (i := 1171) (by decide +kernel)⟩
theorem lw_p39 : lw_okq (⟨"HandedWorksModel", "nthPrint", "(II)I"⟩, 35) := ⟨⟨by decide +kernel, by decide +kernel⟩, List.mem_of_getElem? (i := 914) (by decide +kernel), List.mem_of_getElem? (i := 1174) (by decide +kernel), List.mem_of_getElem? (i := 1175) (by decide +kernel)⟩
theorem lw_p40 : lw_okq (⟨"HandedWorksModel", "matches", "(III)V"⟩, 35) := ⟨⟨by decide +kernel, by decide +kernel⟩, List.mem_of_getElem? (i := 914) (by decide +kernel), List.mem_of_getElem? (i := 1187) (by decide +kernel), List.mem_of_getElem? (i := 1188) (by decide +kernel)⟩
theorem lw_p41 : lw_okq (⟨"HandedWorksModel", "isOne", "(IIII)Z"⟩, 35) := ⟨⟨by decide +kernel, by decide +kernel⟩, List.mem_of_getElem? (i := 914) (by decide +kernel), List.mem_of_getElem? (i := 1191) (by decide +kernel), List.mem_of_getElem? (i := 1192) (by decide +kernel)⟩
theorem lw_p42 : lw_okq (⟨"HandedWorksModel", "chains", "()I"⟩, 35) := ⟨⟨by decide +kernel, by decide +kernel⟩, List.mem_of_getElem? (i := 914) (by decide +kernel), List.mem_of_getElem? (i := 1195) (by decide +kernel), List.mem_of_getElem? (i := 1196) (by decide +kernel)⟩
theorem lw_p43 : lw_okq (⟨"HandedWorksModel", "mayFollow", "(II)Z"⟩, 35) := ⟨⟨by decide +kernel, by decide +kernel⟩, List.mem_of_getElem? (i := 914) (by decide +kernel), List.mem_of_getElem? (i := 1199) (by decide +kernel), List.mem_of_getElem? (i := 1200) (by decide +kernel)⟩
theorem lw_p44 : lw_okq (⟨"HandedWorksModel", "isAgain", "(II)Z"⟩, 35) := ⟨⟨by decide +kernel, by decide +kernel⟩, List.mem_of_getElem? (i := 914) (by decide +kernel), List.mem_of_getElem? (i := 1211) (by decide +kernel), List.mem_of_getElem? (i := 1212) (by decide +kernel)⟩
theorem lw_p45 : lw_okq (⟨"HandedWorksModel", "isPrinted", "(III)Z"⟩, 35) := ⟨⟨by decide +kernel, by decide +kernel⟩, List.mem_of_getElem? (i := 914) (by decide +kernel), List.mem_of_getElem? (i := 1215) (by decide +kernel), List.mem_of_getElem? (i := 1216) (by decide +kernel)⟩
theorem lw_p46 : lw_okq (⟨"HandedWorksModel", "sources", "(II)V"⟩, 35) := ⟨⟨by decide +kernel, by decide +kernel⟩, List.mem_of_getElem? (i := 914) (by decide +kernel), List.mem_of_getElem? (i := 1226) (by decide +kernel), List.mem_of_getElem? (i := 1227) (by decide +kernel)⟩
theorem lw_p47 : lw_okq (⟨"HandedWorksModel", "covers", "(II)V"⟩, 35) := ⟨⟨by decide +kernel, by decide +kernel⟩, List.mem_of_getElem? (i := 914) (by decide +kernel), List.mem_of_getElem? (i := 1230) (by decide +kernel), List.mem_of_getElem? (i := 1231) (by decide +kernel)⟩
def lw_privs_3 : List (MethodName × Nat) := [(⟨"HandedWorksModel", "byteAt", "(II)I"⟩, 35), (⟨"HandedWorksModel", "prints", "(I)V"⟩, 35), (⟨"HandedWorksModel", "grams", "(I)I"⟩, 35), (⟨"HandedWorksModel", "anew", "()V"⟩, 35), (⟨"HandedWorksModel", "has", "(III)Z"⟩, 35), (⟨"HandedWorksModel", "isLike", "(IIII)Z"⟩, 35), (⟨"HandedWorksModel", "printsOf", "(I)I"⟩, 35), (⟨"HandedWorksModel", "nthPrint", "(II)I"⟩, 35), (⟨"HandedWorksModel", "matches", "(III)V"⟩, 35), (⟨"HandedWorksModel", "isOne", "(IIII)Z"⟩, 35), (⟨"HandedWorksModel", "chains", "()I"⟩, 35), (⟨"HandedWorksModel", "mayFollow", "(II)Z"⟩, 35), (⟨"HandedWorksModel", "isAgain", "(II)Z"⟩, 35), (⟨"HandedWorksModel", "isPrinted", "(III)Z"⟩, 35), (⟨"HandedWorksModel", "sources", "(II)V"⟩, 35), (⟨"HandedWorksModel", "covers", "(II)V"⟩, 35)]
theorem lw_r3 : ∀ q ∈ lw_privs_3, lw_okq q := List.forall_mem_cons.mpr ⟨lw_p32, List.forall_mem_cons.mpr ⟨lw_p33, List.forall_mem_cons.mpr ⟨lw_p34, List.forall_mem_cons.mpr ⟨lw_p35, List.forall_mem_cons.mpr ⟨lw_p36, List.forall_mem_cons.mpr ⟨lw_p37, List.forall_mem_cons.mpr ⟨lw_p38, List.forall_mem_cons.mpr ⟨lw_p39, List.forall_mem_cons.mpr ⟨lw_p40, List.forall_mem_cons.mpr ⟨lw_p41, List.forall_mem_cons.mpr ⟨lw_p42, List.forall_mem_cons.mpr ⟨lw_p43, List.forall_mem_cons.mpr ⟨lw_p44, List.forall_mem_cons.mpr ⟨lw_p45, List.forall_mem_cons.mpr ⟨lw_p46, List.forall_mem_cons.mpr ⟨lw_p47, fun _ h => absurd h List.not_mem_nil⟩⟩⟩⟩⟩⟩⟩⟩⟩⟩⟩⟩⟩⟩⟩⟩
theorem lw_p48 : lw_okq (⟨"HandedWorksModel", "spans", "(I)I"⟩, 35) := ⟨⟨by decide +kernel, by decide +kernel⟩, List.mem_of_getElem? (i := 914) (by decide +kernel), List.mem_of_getElem? (i := 1234) (by decide +kernel), List.mem_of_getElem? (i := 1235) (by decide +kernel)⟩
theorem lw_p49 : lw_okq (⟨"HandedWorksModel", "beginsSpan", "(I)Z"⟩, 35) := ⟨⟨by decide +kernel, by decide +kernel⟩, List.mem_of_getElem? (i := 914) (by decide +kernel), List.mem_of_getElem? (i := 1238) (by decide +kernel), List.mem_of_getElem? (i := 1239) (by decide +kernel)⟩
theorem lw_p50 : lw_okq (⟨"HandedWorksModel", "spanAt", "(I)I"⟩, 35) := ⟨⟨by decide +kernel, by decide +kernel⟩, List.mem_of_getElem? (i := 914) (by decide +kernel), List.mem_of_getElem? (i := 1242) (by decide +kernel), List.mem_of_getElem? (i := 1243) (by decide +kernel)⟩
theorem lw_p51 : lw_okq (⟨"HandedWorksModel", "spanEnd", "(II)I"⟩, 35) := ⟨⟨by decide +kernel, by decide +kernel⟩, List.mem_of_getElem? (i := 914) (by decide +kernel), List.mem_of_getElem? (i := 1246) (by decide +kernel), List.mem_of_getElem? (i := 1247) (by decide +kernel)⟩
theorem lw_p52 : lw_okq (⟨"HandedWorksModel", "covered", "(I)I"⟩, 35) := ⟨⟨by decide +kernel, by decide +kernel⟩, List.mem_of_getElem? (i := 914) (by decide +kernel), List.mem_of_getElem? (i := 1258) (by decide +kernel), List.mem_of_getElem? (i := 1259) (by decide +kernel)⟩
theorem lw_p53 : lw_okq (⟨"HandedWorksModel", "inHundred", "(I)I"⟩, 35) := ⟨⟨by decide +kernel, by decide +kernel⟩, List.mem_of_getElem? (i := 914) (by decide +kernel), List.mem_of_getElem? (i := 1262) (by decide +kernel), List.mem_of_getElem? (i := 1263) (by decide +kernel)⟩
theorem lw_p54 : lw_okq (⟨"HandedWorksModel", "mostSource", "(I)I"⟩, 35) := ⟨⟨by decide +kernel, by decide +kernel⟩, List.mem_of_getElem? (i := 914) (by decide +kernel), List.mem_of_getElem? (i := 1266) (by decide +kernel), List.mem_of_getElem? (i := 1267) (by decide +kernel)⟩
theorem lw_p55 : lw_okq (⟨"HandedWorksModel", "isHeld", "(II)Z"⟩, 35) := ⟨⟨by decide +kernel, by decide +kernel⟩, List.mem_of_getElem? (i := 914) (by decide +kernel), List.mem_of_getElem? (i := 1274) (by decide +kernel), List.mem_of_getElem? (i := 1275) (by decide +kernel)⟩
theorem lw_p56 : lw_okq (⟨"HandedWorksModel", "drawnBy", "(IIII)I"⟩, 35) := ⟨⟨by decide +kernel, by decide +kernel⟩, List.mem_of_getElem? (i := 914) (by decide +kernel), List.mem_of_getElem? (i := 1287) (by decide +kernel), List.mem_of_getElem? (i := 1288) (by decide +kernel)⟩
theorem lw_p57 : lw_okq (⟨"HandedWorksModel", "otherwise", "(III)I"⟩, 35) := ⟨⟨by decide +kernel, by decide +kernel⟩, List.mem_of_getElem? (i := 914) (by decide +kernel), List.mem_of_getElem? (i := 1303) (by decide +kernel), List.mem_of_getElem? (i := 1304) (by decide +kernel)⟩
theorem lw_p58 : lw_okq (⟨"HandedWorksModel", "shows", "(II)I"⟩, 35) := ⟨⟨by decide +kernel, by decide +kernel⟩, List.mem_of_getElem? (i := 914) (by decide +kernel), List.mem_of_getElem? (i := 1307) (by decide +kernel), List.mem_of_getElem? (i := 1308) (by decide +kernel)⟩
theorem lw_p59 : lw_okq (⟨"HandedWorksModel", "unlikeGrams", "()I"⟩, 35) := ⟨⟨by decide +kernel, by decide +kernel⟩, List.mem_of_getElem? (i := 914) (by decide +kernel), List.mem_of_getElem? (i := 1319) (by decide +kernel), List.mem_of_getElem? (i := 1320) (by decide +kernel)⟩
def lw_privs_4 : List (MethodName × Nat) := [(⟨"HandedWorksModel", "spans", "(I)I"⟩, 35), (⟨"HandedWorksModel", "beginsSpan", "(I)Z"⟩, 35), (⟨"HandedWorksModel", "spanAt", "(I)I"⟩, 35), (⟨"HandedWorksModel", "spanEnd", "(II)I"⟩, 35), (⟨"HandedWorksModel", "covered", "(I)I"⟩, 35), (⟨"HandedWorksModel", "inHundred", "(I)I"⟩, 35), (⟨"HandedWorksModel", "mostSource", "(I)I"⟩, 35), (⟨"HandedWorksModel", "isHeld", "(II)Z"⟩, 35), (⟨"HandedWorksModel", "drawnBy", "(IIII)I"⟩, 35), (⟨"HandedWorksModel", "otherwise", "(III)I"⟩, 35), (⟨"HandedWorksModel", "shows", "(II)I"⟩, 35), (⟨"HandedWorksModel", "unlikeGrams", "()I"⟩, 35)]
theorem lw_r4 : ∀ q ∈ lw_privs_4, lw_okq q := List.forall_mem_cons.mpr ⟨lw_p48, List.forall_mem_cons.mpr ⟨lw_p49, List.forall_mem_cons.mpr ⟨lw_p50, List.forall_mem_cons.mpr ⟨lw_p51, List.forall_mem_cons.mpr ⟨lw_p52, List.forall_mem_cons.mpr ⟨lw_p53, List.forall_mem_cons.mpr ⟨lw_p54, List.forall_mem_cons.mpr ⟨lw_p55, List.forall_mem_cons.mpr ⟨lw_p56, List.forall_mem_cons.mpr ⟨lw_p57, List.forall_mem_cons.mpr ⟨lw_p58, List.forall_mem_cons.mpr ⟨lw_p59, fun _ h => absurd h List.not_mem_nil⟩⟩⟩⟩⟩⟩⟩⟩⟩⟩⟩⟩
def lw_privs : List (MethodName × Nat) := lw_privs_1 ++ (lw_privs_2 ++ (lw_privs_3 ++ (lw_privs_4)))
def lw_tbl : List Cond := k2_sels lw_privs ++ tables_1
theorem lw_privs_ok : ∀ q ∈ lw_privs, lw_okq q := by
  show ∀ q ∈ lw_privs_1 ++ (lw_privs_2 ++ (lw_privs_3 ++ (lw_privs_4))), lw_okq q
  exact List.forall_mem_append.mpr ⟨lw_r1, List.forall_mem_append.mpr ⟨lw_r2, List.forall_mem_append.mpr ⟨lw_r3, lw_r4⟩⟩⟩
def RX0 : String := "HandedWorks$Forms"
def TX0 : u_T := fun k => match k with
  | 0 => ("HandedWorks$Forms", "n", "I", false)
  | 1 => ("HandedWorks$Forms", "heads", "[I", true)
  | 2 => ("HandedWorks$Forms", "nexts", "[I", true)
  | 3 => ("HandedWorks$Forms", "firstCells", "[I", true)
  | 4 => ("HandedWorks$Forms", "works", "[I", true)
  | 5 => ("HandedWorks$Forms", "lastWorks", "[I", true)
  | 6 => ("HandedWorks$Forms", "flags", "[I", true)
  | 7 => ("HandedWorks$Forms", "based", "[Z", true)
  | _ => ("HandedWorks$Forms", "many", "I", false)
def tyX0 : Nat → FieldType := fun k => match k with
  | 0 => .int
  | 1 => .array .int
  | 2 => .array .int
  | 3 => .array .int
  | 4 => .array .int
  | 5 => .array .int
  | 6 => .array .int
  | 7 => .array .boolean
  | _ => .int
abbrev wsX00 : List Cond := u_ws RX0 TX0 9
theorem nmX0 : ∀ a, a < 9 → ∀ b, b < 9 → a ≠ b → (TX0 a).2.1 ≠ (TX0 b).2.1 := by decide +kernel
theorem tyX0_ok : ∀ k, k < 9 → parseFieldDescriptor (TX0 k).2.2.1 = some (tyX0 k) := by decide +kernel
abbrev cX0_init : ByteArray := prog_2_method_1_code
def yX0_init : MethodName := ⟨RX0, "<init>", "()V"⟩
abbrev cX0_number : ByteArray := prog_2_method_2_code
def yX0_number : MethodName := ⟨RX0, "number", "(LHandedWorks$Reading;[I)V"⟩
abbrev cX0_formOf : ByteArray := prog_2_method_3_code
def yX0_formOf : MethodName := ⟨RX0, "formOf", "(LHandedWorks$Reading;III)I"⟩
abbrev cX0_add : ByteArray := prog_2_method_4_code
def yX0_add : MethodName := ⟨RX0, "add", "(II)I"⟩
abbrev cX0_isForm : ByteArray := prog_2_method_5_code
def yX0_isForm : MethodName := ⟨RX0, "isForm", "(I)Z"⟩
abbrev cX0_seeIn : ByteArray := prog_2_method_6_code
def yX0_seeIn : MethodName := ⟨RX0, "seeIn", "(III)V"⟩
abbrev cX0_worksWith : ByteArray := prog_2_method_7_code
def yX0_worksWith : MethodName := ⟨RX0, "worksWith", "(I)I"⟩
abbrev cX0_isCommon : ByteArray := prog_2_method_8_code
def yX0_isCommon : MethodName := ⟨RX0, "isCommon", "(I)Z"⟩
abbrev cX0_flag : ByteArray := prog_2_method_9_code
def yX0_flag : MethodName := ⟨RX0, "flag", "(II)V"⟩
abbrev cX0_flaggedByBoth : ByteArray := prog_2_method_10_code
def yX0_flaggedByBoth : MethodName := ⟨RX0, "flaggedByBoth", "()I"⟩
abbrev cX0_flaggedByAny : ByteArray := prog_2_method_11_code
def yX0_flaggedByAny : MethodName := ⟨RX0, "flaggedByAny", "()I"⟩
def RX1 : String := "HandedWorks$Kinds"
def TX1 : u_T := fun k => match k with
  | _ => ("", "", "", false)
def tyX1 : Nat → FieldType := fun k => match k with
  | _ => .int
abbrev wsX10 : List Cond := u_ws RX1 TX1 0
theorem nmX1 : ∀ a, a < 0 → ∀ b, b < 0 → a ≠ b → (TX1 a).2.1 ≠ (TX1 b).2.1 := by decide +kernel
theorem tyX1_ok : ∀ k, k < 0 → parseFieldDescriptor (TX1 k).2.2.1 = some (tyX1 k) := by decide +kernel
abbrev cX1_counts : ByteArray := prog_3_method_2_code
def yX1_counts : MethodName := ⟨RX1, "counts", "(IIIZ)Z"⟩
abbrev cX1_toldAs : ByteArray := prog_3_method_3_code
def yX1_toldAs : MethodName := ⟨RX1, "toldAs", "(IIII)I"⟩
def RX2 : String := "HandedWorks$Matches"
def TX2 : u_T := fun k => match k with
  | 0 => ("HandedWorks$Matches", "n", "I", false)
  | 1 => ("HandedWorks$Matches", "one", "LHandedWorks$Side;", true)
  | 2 => ("HandedWorks$Matches", "two", "LHandedWorks$Side;", true)
  | 3 => ("HandedWorks$Matches", "begins", "[I", true)
  | 4 => ("HandedWorks$Matches", "otherBegins", "[I", true)
  | 5 => ("HandedWorks$Matches", "lengths", "[I", true)
  | 6 => ("HandedWorks$Matches", "weights", "[I", true)
  | 7 => ("HandedWorks$Matches", "nexts", "[I", true)
  | 8 => ("HandedWorks$Matches", "chained", "[Z", true)
  | _ => ("HandedWorks$Matches", "seen", "[I", true)
def tyX2 : Nat → FieldType := fun k => match k with
  | 0 => .int
  | 1 => .object "HandedWorks$Side"
  | 2 => .object "HandedWorks$Side"
  | 3 => .array .int
  | 4 => .array .int
  | 5 => .array .int
  | 6 => .array .int
  | 7 => .array .int
  | 8 => .array .boolean
  | _ => .array .int
abbrev wsX20 : List Cond := u_ws RX2 TX2 10
theorem nmX2 : ∀ a, a < 10 → ∀ b, b < 10 → a ≠ b → (TX2 a).2.1 ≠ (TX2 b).2.1 := by decide +kernel
theorem tyX2_ok : ∀ k, k < 10 → parseFieldDescriptor (TX2 k).2.2.1 = some (tyX2 k) := by decide +kernel
abbrev cX2_init : ByteArray := prog_4_method_1_code
def yX2_init : MethodName := ⟨RX2, "<init>", "()V"⟩
abbrev cX2_find : ByteArray := prog_4_method_2_code
def yX2_find : MethodName := ⟨RX2, "find", "(LHandedWorks$Reading;LHandedWorks$Forms;III)V"⟩
abbrev cX2_isBegin : ByteArray := prog_4_method_3_code
def yX2_isBegin : MethodName := ⟨RX2, "isBegin", "(II)Z"⟩
abbrev cX2_addRun : ByteArray := prog_4_method_4_code
def yX2_addRun : MethodName := ⟨RX2, "addRun", "(III)V"⟩
abbrev cX2_linkChain : ByteArray := prog_4_method_5_code
def yX2_linkChain : MethodName := ⟨RX2, "linkChain", "()V"⟩
abbrev cX2_heaviestBehind : ByteArray := prog_4_method_6_code
def yX2_heaviestBehind : MethodName := ⟨RX2, "heaviestBehind", "(I)I"⟩
abbrev cX2_tellMatch : ByteArray := prog_4_method_7_code
def yX2_tellMatch : MethodName := ⟨RX2, "tellMatch", "(II)I"⟩
abbrev cX2_beginOf : ByteArray := prog_4_method_8_code
def yX2_beginOf : MethodName := ⟨RX2, "beginOf", "(I)I"⟩
abbrev cX2_lengthOf : ByteArray := prog_4_method_9_code
def yX2_lengthOf : MethodName := ⟨RX2, "lengthOf", "(I)I"⟩
abbrev cX2_isChained : ByteArray := prog_4_method_10_code
def yX2_isChained : MethodName := ⟨RX2, "isChained", "(I)Z"⟩
abbrev cX2_chainedMatches : ByteArray := prog_4_method_11_code
def yX2_chainedMatches : MethodName := ⟨RX2, "chainedMatches", "()I"⟩
abbrev cX2_lettersOf : ByteArray := prog_4_method_12_code
def yX2_lettersOf : MethodName := ⟨RX2, "lettersOf", "(Z)I"⟩
abbrev cX2_lettersSeen : ByteArray := prog_4_method_13_code
def yX2_lettersSeen : MethodName := ⟨RX2, "lettersSeen", "()I"⟩
abbrev cX2_otherLettersSeen : ByteArray := prog_4_method_14_code
def yX2_otherLettersSeen : MethodName := ⟨RX2, "otherLettersSeen", "()I"⟩
abbrev cX2_lettersIn : ByteArray := prog_4_method_15_code
def yX2_lettersIn : MethodName := ⟨RX2, "lettersIn", "([I)I"⟩
def RX3 : String := "HandedWorks$Reading"
def TX3 : u_T := fun k => match k with
  | 0 => ("HandedWorks$Reading", "letters", "[I", true)
  | 1 => ("HandedWorks$Reading", "grams", "[I", true)
  | 2 => ("HandedWorks$Reading", "told", "[I", true)
  | 3 => ("HandedWorks$Reading", "places", "[I", true)
  | 4 => ("HandedWorks$Reading", "marks", "[I", true)
  | 5 => ("HandedWorks$Reading", "forms", "[I", true)
  | _ => ("HandedWorks$Reading", "prints", "[Z", true)
def tyX3 : Nat → FieldType := fun k => match k with
  | 0 => .array .int
  | 1 => .array .int
  | 2 => .array .int
  | 3 => .array .int
  | 4 => .array .int
  | 5 => .array .int
  | _ => .array .boolean
abbrev wsX30 : List Cond := u_ws RX3 TX3 7
theorem nmX3 : ∀ a, a < 7 → ∀ b, b < 7 → a ≠ b → (TX3 a).2.1 ≠ (TX3 b).2.1 := by decide +kernel
theorem tyX3_ok : ∀ k, k < 7 → parseFieldDescriptor (TX3 k).2.2.1 = some (tyX3 k) := by decide +kernel
abbrev cX3_init : ByteArray := prog_5_method_1_code
def yX3_init : MethodName := ⟨RX3, "<init>", "()V"⟩
abbrev cX3_readLetters : ByteArray := prog_5_method_2_code
def yX3_readLetters : MethodName := ⟨RX3, "readLetters", "(LHandedWorks$Shelf;I)V"⟩
abbrev cX3_readGrams : ByteArray := prog_5_method_3_code
def yX3_readGrams : MethodName := ⟨RX3, "readGrams", "(II)V"⟩
abbrev cX3_readPrints : ByteArray := prog_5_method_4_code
def yX3_readPrints : MethodName := ⟨RX3, "readPrints", "(II)V"⟩
abbrev cX3_lastOfLeast : ByteArray := prog_5_method_5_code
def yX3_lastOfLeast : MethodName := ⟨RX3, "lastOfLeast", "(III)I"⟩
abbrev cX3_setPrint : ByteArray := prog_5_method_6_code
def yX3_setPrint : MethodName := ⟨RX3, "setPrint", "(IIZ)V"⟩
abbrev cX3_letterCount : ByteArray := prog_5_method_7_code
def yX3_letterCount : MethodName := ⟨RX3, "letterCount", "(I)I"⟩
abbrev cX3_gramCount : ByteArray := prog_5_method_8_code
def yX3_gramCount : MethodName := ⟨RX3, "gramCount", "(I)I"⟩
abbrev cX3_tellAt : ByteArray := prog_5_method_9_code
def yX3_tellAt : MethodName := ⟨RX3, "tellAt", "(II)I"⟩
abbrev cX3_placeAt : ByteArray := prog_5_method_10_code
def yX3_placeAt : MethodName := ⟨RX3, "placeAt", "(II)I"⟩
abbrev cX3_markAt : ByteArray := prog_5_method_11_code
def yX3_markAt : MethodName := ⟨RX3, "markAt", "(II)I"⟩
abbrev cX3_formAt : ByteArray := prog_5_method_12_code
def yX3_formAt : MethodName := ⟨RX3, "formAt", "(II)I"⟩
abbrev cX3_setForm : ByteArray := prog_5_method_13_code
def yX3_setForm : MethodName := ⟨RX3, "setForm", "(III)V"⟩
abbrev cX3_isPrint : ByteArray := prog_5_method_14_code
def yX3_isPrint : MethodName := ⟨RX3, "isPrint", "(II)Z"⟩
abbrev cX3_printCount : ByteArray := prog_5_method_15_code
def yX3_printCount : MethodName := ⟨RX3, "printCount", "(I)I"⟩
abbrev cX3_printsOfAll : ByteArray := prog_5_method_16_code
def yX3_printsOfAll : MethodName := ⟨RX3, "printsOfAll", "()I"⟩
abbrev cX3_printAt : ByteArray := prog_5_method_17_code
def yX3_printAt : MethodName := ⟨RX3, "printAt", "(II)I"⟩
abbrev cX3_areLikeCells : ByteArray := prog_5_method_18_code
def yX3_areLikeCells : MethodName := ⟨RX3, "areLikeCells", "(III)Z"⟩
abbrev cX3_unlikePlain : ByteArray := prog_5_method_19_code
def yX3_unlikePlain : MethodName := ⟨RX3, "unlikePlain", "(LHandedWorks$Shelf;I)I"⟩
def RX4 : String := "HandedWorks$Sheets"
def TX4 : u_T := fun k => match k with
  | 0 => ("HandedWorks$Sheets", "items", "[I", true)
  | 1 => ("HandedWorks$Sheets", "sizes", "[I", true)
  | _ => ("HandedWorks$Sheets", "sorts", "[I", true)
def tyX4 : Nat → FieldType := fun k => match k with
  | 0 => .array .int
  | 1 => .array .int
  | _ => .array .int
abbrev wsX40 : List Cond := u_ws RX4 TX4 3
theorem nmX4 : ∀ a, a < 3 → ∀ b, b < 3 → a ≠ b → (TX4 a).2.1 ≠ (TX4 b).2.1 := by decide +kernel
theorem tyX4_ok : ∀ k, k < 3 → parseFieldDescriptor (TX4 k).2.2.1 = some (tyX4 k) := by decide +kernel
abbrev cX4_init : ByteArray := prog_6_method_1_code
def yX4_init : MethodName := ⟨RX4, "<init>", "()V"⟩
abbrev cX4_isMissing : ByteArray := prog_6_method_2_code
def yX4_isMissing : MethodName := ⟨RX4, "isMissing", "(I)Z"⟩
abbrev cX4_sortOf : ByteArray := prog_6_method_3_code
def yX4_sortOf : MethodName := ⟨RX4, "sortOf", "(I)I"⟩
abbrev cX4_sizeOf : ByteArray := prog_6_method_4_code
def yX4_sizeOf : MethodName := ⟨RX4, "sizeOf", "(I)I"⟩
abbrev cX4_become : ByteArray := prog_6_method_5_code
def yX4_become : MethodName := ⟨RX4, "become", "(III)V"⟩
abbrev cX4_itemCell : ByteArray := prog_6_method_6_code
def yX4_itemCell : MethodName := ⟨RX4, "itemCell", "(II)I"⟩
abbrev cX4_itemAt : ByteArray := prog_6_method_7_code
def yX4_itemAt : MethodName := ⟨RX4, "itemAt", "(II)I"⟩
abbrev cX4_setItem : ByteArray := prog_6_method_8_code
def yX4_setItem : MethodName := ⟨RX4, "setItem", "(III)V"⟩
abbrev cX4_move : ByteArray := prog_6_method_9_code
def yX4_move : MethodName := ⟨RX4, "move", "(IIIII)V"⟩
def RX5 : String := "HandedWorks$Shelf"
def TX5 : u_T := fun k => match k with
  | 0 => ("HandedWorks$Shelf", "bytes", "[I", true)
  | 1 => ("HandedWorks$Shelf", "sizes", "[I", true)
  | 2 => ("HandedWorks$Shelf", "kinds", "[I", true)
  | 3 => ("HandedWorks$Shelf", "days", "[I", true)
  | 4 => ("HandedWorks$Shelf", "rules", "[I", true)
  | _ => ("HandedWorks$Shelf", "held", "[I", true)
def tyX5 : Nat → FieldType := fun k => match k with
  | 0 => .array .int
  | 1 => .array .int
  | 2 => .array .int
  | 3 => .array .int
  | 4 => .array .int
  | _ => .array .int
abbrev wsX50 : List Cond := u_ws RX5 TX5 6
theorem nmX5 : ∀ a, a < 6 → ∀ b, b < 6 → a ≠ b → (TX5 a).2.1 ≠ (TX5 b).2.1 := by decide +kernel
theorem tyX5_ok : ∀ k, k < 6 → parseFieldDescriptor (TX5 k).2.2.1 = some (tyX5 k) := by decide +kernel
abbrev cX5_init : ByteArray := prog_7_method_1_code
def yX5_init : MethodName := ⟨RX5, "<init>", "()V"⟩
abbrev cX5_take : ByteArray := prog_7_method_2_code
def yX5_take : MethodName := ⟨RX5, "take", "(LHandedWorks$Shelf;)V"⟩
abbrev cX5_sizeOf : ByteArray := prog_7_method_3_code
def yX5_sizeOf : MethodName := ⟨RX5, "sizeOf", "(I)I"⟩
abbrev cX5_byteAt : ByteArray := prog_7_method_4_code
def yX5_byteAt : MethodName := ⟨RX5, "byteAt", "(II)I"⟩
abbrev cX5_worksThere : ByteArray := prog_7_method_5_code
def yX5_worksThere : MethodName := ⟨RX5, "worksThere", "()I"⟩
abbrev cX5_lose : ByteArray := prog_7_method_6_code
def yX5_lose : MethodName := ⟨RX5, "lose", "(I)V"⟩
abbrev cX5_become : ByteArray := prog_7_method_7_code
def yX5_become : MethodName := ⟨RX5, "become", "(I[II)V"⟩
abbrev cX5_insert : ByteArray := prog_7_method_8_code
def yX5_insert : MethodName := ⟨RX5, "insert", "(IIIII)V"⟩
abbrev cX5_remove : ByteArray := prog_7_method_9_code
def yX5_remove : MethodName := ⟨RX5, "remove", "(III)V"⟩
abbrev cX5_draw : ByteArray := prog_7_method_10_code
def yX5_draw : MethodName := ⟨RX5, "draw", "(III)V"⟩
abbrev cX5_nextNumber : ByteArray := prog_7_method_11_code
def yX5_nextNumber : MethodName := ⟨RX5, "nextNumber", "(I)I"⟩
def RX6 : String := "HandedWorks$Side"
def TX6 : u_T := fun k => match k with
  | 0 => ("HandedWorks$Side", "n", "I", false)
  | 1 => ("HandedWorks$Side", "letters", "[I", true)
  | _ => ("HandedWorks$Side", "anchors", "[I", true)
def tyX6 : Nat → FieldType := fun k => match k with
  | 0 => .int
  | 1 => .array .int
  | _ => .array .int
abbrev wsX60 : List Cond := u_ws RX6 TX6 3
theorem nmX6 : ∀ a, a < 3 → ∀ b, b < 3 → a ≠ b → (TX6 a).2.1 ≠ (TX6 b).2.1 := by decide +kernel
theorem tyX6_ok : ∀ k, k < 3 → parseFieldDescriptor (TX6 k).2.2.1 = some (tyX6 k) := by decide +kernel
abbrev cX6_init : ByteArray := prog_8_method_1_code
def yX6_init : MethodName := ⟨RX6, "<init>", "()V"⟩
abbrev cX6_load : ByteArray := prog_8_method_2_code
def yX6_load : MethodName := ⟨RX6, "load", "(LHandedWorks$Reading;LHandedWorks$Forms;I)V"⟩
def RX7 : String := "HandedWorks$Spans"
def TX7 : u_T := fun k => match k with
  | 0 => ("HandedWorks$Spans", "n", "I", false)
  | 1 => ("HandedWorks$Spans", "covered", "I", false)
  | 2 => ("HandedWorks$Spans", "letters", "I", false)
  | 3 => ("HandedWorks$Spans", "longest", "[I", true)
  | 4 => ("HandedWorks$Spans", "sources", "[I", true)
  | 5 => ("HandedWorks$Spans", "firsts", "[I", true)
  | 6 => ("HandedWorks$Spans", "lasts", "[I", true)
  | 7 => ("HandedWorks$Spans", "origins", "[I", true)
  | _ => ("HandedWorks$Spans", "tally", "[I", true)
def tyX7 : Nat → FieldType := fun k => match k with
  | 0 => .int
  | 1 => .int
  | 2 => .int
  | 3 => .array .int
  | 4 => .array .int
  | 5 => .array .int
  | 6 => .array .int
  | 7 => .array .int
  | _ => .array .int
abbrev wsX70 : List Cond := u_ws RX7 TX7 9
theorem nmX7 : ∀ a, a < 9 → ∀ b, b < 9 → a ≠ b → (TX7 a).2.1 ≠ (TX7 b).2.1 := by decide +kernel
theorem tyX7_ok : ∀ k, k < 9 → parseFieldDescriptor (TX7 k).2.2.1 = some (tyX7 k) := by decide +kernel
abbrev cX7_init : ByteArray := prog_9_method_1_code
def yX7_init : MethodName := ⟨RX7, "<init>", "()V"⟩
abbrev cX7_begin : ByteArray := prog_9_method_2_code
def yX7_begin : MethodName := ⟨RX7, "begin", "(I)V"⟩
abbrev cX7_offer : ByteArray := prog_9_method_3_code
def yX7_offer : MethodName := ⟨RX7, "offer", "(LHandedWorks$Matches;I[I)V"⟩
abbrev cX7_isBetter : ByteArray := prog_9_method_4_code
def yX7_isBetter : MethodName := ⟨RX7, "isBetter", "(III[I)Z"⟩
abbrev cX7_sourceAt : ByteArray := prog_9_method_5_code
def yX7_sourceAt : MethodName := ⟨RX7, "sourceAt", "(II)I"⟩
abbrev cX7_divide : ByteArray := prog_9_method_6_code
def yX7_divide : MethodName := ⟨RX7, "divide", "(I)V"⟩
abbrev cX7_extend : ByteArray := prog_9_method_7_code
def yX7_extend : MethodName := ⟨RX7, "extend", "(IIZ)V"⟩
abbrev cX7_firstOfSpan : ByteArray := prog_9_method_8_code
def yX7_firstOfSpan : MethodName := ⟨RX7, "firstOfSpan", "(I)I"⟩
abbrev cX7_lastOfSpan : ByteArray := prog_9_method_9_code
def yX7_lastOfSpan : MethodName := ⟨RX7, "lastOfSpan", "(I)I"⟩
abbrev cX7_sourceOfSpan : ByteArray := prog_9_method_10_code
def yX7_sourceOfSpan : MethodName := ⟨RX7, "sourceOfSpan", "(I)I"⟩
abbrev cX7_mainSource : ByteArray := prog_9_method_11_code
def yX7_mainSource : MethodName := ⟨RX7, "mainSource", "()I"⟩
def RX8 : String := "HandedWorks$Study"
def TX8 : u_T := fun k => match k with
  | 0 => ("HandedWorks$Study", "reading", "LHandedWorks$Reading;", true)
  | 1 => ("HandedWorks$Study", "forms", "LHandedWorks$Forms;", true)
  | 2 => ("HandedWorks$Study", "matches", "LHandedWorks$Matches;", true)
  | 3 => ("HandedWorks$Study", "spans", "LHandedWorks$Spans;", true)
  | _ => ("HandedWorks$Study", "bonds", "[I", true)
def tyX8 : Nat → FieldType := fun k => match k with
  | 0 => .object "HandedWorks$Reading"
  | 1 => .object "HandedWorks$Forms"
  | 2 => .object "HandedWorks$Matches"
  | 3 => .object "HandedWorks$Spans"
  | _ => .array .int
abbrev wsX80 : List Cond := u_ws RX8 TX8 5
theorem nmX8 : ∀ a, a < 5 → ∀ b, b < 5 → a ≠ b → (TX8 a).2.1 ≠ (TX8 b).2.1 := by decide +kernel
theorem tyX8_ok : ∀ k, k < 5 → parseFieldDescriptor (TX8 k).2.2.1 = some (tyX8 k) := by decide +kernel
abbrev cX8_init : ByteArray := prog_10_method_1_code
def yX8_init : MethodName := ⟨RX8, "<init>", "()V"⟩
abbrev cX8_look : ByteArray := prog_10_method_2_code
def yX8_look : MethodName := ⟨RX8, "look", "(LHandedWorks$Shelf;)V"⟩
abbrev cX8_compare : ByteArray := prog_10_method_3_code
def yX8_compare : MethodName := ⟨RX8, "compare", "(LHandedWorks$Shelf;II)V"⟩
abbrev cX8_trace : ByteArray := prog_10_method_4_code
def yX8_trace : MethodName := ⟨RX8, "trace", "(LHandedWorks$Shelf;I)V"⟩
abbrev cX8_toldPlace : ByteArray := prog_10_method_5_code
def yX8_toldPlace : MethodName := ⟨RX8, "toldPlace", "(II)I"⟩
abbrev cX8_commonGrams : ByteArray := prog_10_method_6_code
def yX8_commonGrams : MethodName := ⟨RX8, "commonGrams", "(IZ)I"⟩
abbrev cX8_flagPrints : ByteArray := prog_10_method_7_code
def yX8_flagPrints : MethodName := ⟨RX8, "flagPrints", "(II)V"⟩
abbrev cX8_flagPrintsOf : ByteArray := prog_10_method_8_code
def yX8_flagPrintsOf : MethodName := ⟨RX8, "flagPrintsOf", "(II)V"⟩
abbrev cX8_bindAll : ByteArray := prog_10_method_9_code
def yX8_bindAll : MethodName := ⟨RX8, "bindAll", "(LHandedWorks$Shelf;)V"⟩
abbrev cX8_isEnough : ByteArray := prog_10_method_10_code
def yX8_isEnough : MethodName := ⟨RX8, "isEnough", "(III)Z"⟩
abbrev cX8_boundTo : ByteArray := prog_10_method_11_code
def yX8_boundTo : MethodName := ⟨RX8, "boundTo", "(I)I"⟩
def RX9 : String := "HandedWorks"
def TX9 : u_T := fun k => match k with
  | 0 => ("HandedWorks", "shelf", "LHandedWorks$Shelf;", true)
  | 1 => ("HandedWorks", "kept", "LHandedWorks$Shelf;", true)
  | 2 => ("HandedWorks", "thought", "LHandedWorks$Shelf;", true)
  | 3 => ("HandedWorks", "study", "LHandedWorks$Study;", true)
  | 4 => ("HandedWorks", "sheets", "LHandedWorks$Sheets;", true)
  | 5 => ("HandedWorks", "tape", "[I", true)
  | 6 => ("HandedWorks", "taped", "I", false)
  | _ => ("HandedWorks", "imaged", "Z", false)
def tyX9 : Nat → FieldType := fun k => match k with
  | 0 => .object "HandedWorks$Shelf"
  | 1 => .object "HandedWorks$Shelf"
  | 2 => .object "HandedWorks$Shelf"
  | 3 => .object "HandedWorks$Study"
  | 4 => .object "HandedWorks$Sheets"
  | 5 => .array .int
  | 6 => .int
  | _ => .boolean
abbrev wsX90 : List Cond := u_ws RX9 TX9 8
theorem nmX9 : ∀ a, a < 8 → ∀ b, b < 8 → a ≠ b → (TX9 a).2.1 ≠ (TX9 b).2.1 := by decide +kernel
theorem tyX9_ok : ∀ k, k < 8 → parseFieldDescriptor (TX9 k).2.2.1 = some (tyX9 k) := by decide +kernel
abbrev cX9_init : ByteArray := prog_1_method_1_code
def yX9_init : MethodName := ⟨RX9, "<init>", "()V"⟩
abbrev cX9_feed : ByteArray := prog_1_method_2_code
def yX9_feed : MethodName := ⟨RX9, "feed", "(IIIIII)I"⟩
abbrev cX9_work : ByteArray := prog_1_method_3_code
def yX9_work : MethodName := ⟨RX9, "work", "(III)I"⟩
abbrev cX9_splice : ByteArray := prog_1_method_4_code
def yX9_splice : MethodName := ⟨RX9, "splice", "(IIIII)I"⟩
abbrev cX9_cut : ByteArray := prog_1_method_5_code
def yX9_cut : MethodName := ⟨RX9, "cut", "(III)I"⟩
abbrev cX9_drop : ByteArray := prog_1_method_6_code
def yX9_drop : MethodName := ⟨RX9, "drop", "(I)I"⟩
abbrev cX9_alter : ByteArray := prog_1_method_7_code
def yX9_alter : MethodName := ⟨RX9, "alter", "(III)I"⟩
abbrev cX9_raw : ByteArray := prog_1_method_8_code
def yX9_raw : MethodName := ⟨RX9, "raw", "(II)I"⟩
abbrev cX9_letter : ByteArray := prog_1_method_9_code
def yX9_letter : MethodName := ⟨RX9, "letter", "(III)I"⟩
abbrev cX9_taken : ByteArray := prog_1_method_10_code
def yX9_taken : MethodName := ⟨RX9, "taken", "(II)I"⟩
abbrev cX9_rule : ByteArray := prog_1_method_11_code
def yX9_rule : MethodName := ⟨RX9, "rule", "(II)I"⟩
abbrev cX9_mark : ByteArray := prog_1_method_12_code
def yX9_mark : MethodName := ⟨RX9, "mark", "(II)J"⟩
abbrev cX9_print : ByteArray := prog_1_method_13_code
def yX9_print : MethodName := ⟨RX9, "print", "(III)I"⟩
abbrev cX9_common : ByteArray := prog_1_method_14_code
def yX9_common : MethodName := ⟨RX9, "common", "(II)I"⟩
abbrev cX9_match : ByteArray := prog_1_method_15_code
def yX9_match : MethodName := ⟨RX9, "match", "(IIII)I"⟩
abbrev cX9_chain : ByteArray := prog_1_method_16_code
def yX9_chain : MethodName := ⟨RX9, "chain", "(III)I"⟩
abbrev cX9_like : ByteArray := prog_1_method_17_code
def yX9_like : MethodName := ⟨RX9, "like", "(III)I"⟩
abbrev cX9_span : ByteArray := prog_1_method_18_code
def yX9_span : MethodName := ⟨RX9, "span", "(III)I"⟩
abbrev cX9_source : ByteArray := prog_1_method_19_code
def yX9_source : MethodName := ⟨RX9, "source", "(II)I"⟩
abbrev cX9_share : ByteArray := prog_1_method_20_code
def yX9_share : MethodName := ⟨RX9, "share", "(II)I"⟩
abbrev cX9_group : ByteArray := prog_1_method_21_code
def yX9_group : MethodName := ⟨RX9, "group", "(I)I"⟩
abbrev cX9_without : ByteArray := prog_1_method_22_code
def yX9_without : MethodName := ⟨RX9, "without", "(II)I"⟩
abbrev cX9_drawn : ByteArray := prog_1_method_23_code
def yX9_drawn : MethodName := ⟨RX9, "drawn", "(IIII)I"⟩
abbrev cX9_chance : ByteArray := prog_1_method_24_code
def yX9_chance : MethodName := ⟨RX9, "chance", "(IIIII)I"⟩
abbrev cX9_tells : ByteArray := prog_1_method_25_code
def yX9_tells : MethodName := ⟨RX9, "tells", "(III)I"⟩
abbrev cX9_film : ByteArray := prog_1_method_26_code
def yX9_film : MethodName := ⟨RX9, "film", "(II)I"⟩
abbrev cX9_image : ByteArray := prog_1_method_27_code
def yX9_image : MethodName := ⟨RX9, "image", "()I"⟩
abbrev cX9_back : ByteArray := prog_1_method_28_code
def yX9_back : MethodName := ⟨RX9, "back", "()I"⟩
abbrev cX9_count : ByteArray := prog_1_method_29_code
def yX9_count : MethodName := ⟨RX9, "count", "(I)I"⟩
abbrev cX9_sheet : ByteArray := prog_1_method_30_code
def yX9_sheet : MethodName := ⟨RX9, "sheet", "(III)I"⟩
abbrev cX9_put : ByteArray := prog_1_method_31_code
def yX9_put : MethodName := ⟨RX9, "put", "(III)I"⟩
abbrev cX9_copy : ByteArray := prog_1_method_32_code
def yX9_copy : MethodName := ⟨RX9, "copy", "(IIIII)I"⟩
abbrev cX9_isOneOf : ByteArray := prog_1_method_33_code
def yX9_isOneOf : MethodName := ⟨RX9, "isOneOf", "(II)Z"⟩
abbrev cX9_isWork : ByteArray := prog_1_method_34_code
def yX9_isWork : MethodName := ⟨RX9, "isWork", "(I)Z"⟩
abbrev cX9_areTwoWorks : ByteArray := prog_1_method_35_code
def yX9_areTwoWorks : MethodName := ⟨RX9, "areTwoWorks", "(II)Z"⟩
abbrev cX9_isKind : ByteArray := prog_1_method_36_code
def yX9_isKind : MethodName := ⟨RX9, "isKind", "(I)Z"⟩
abbrev cX9_isDay : ByteArray := prog_1_method_37_code
def yX9_isDay : MethodName := ⟨RX9, "isDay", "(I)Z"⟩
abbrev cX9_isByte : ByteArray := prog_1_method_38_code
def yX9_isByte : MethodName := ⟨RX9, "isByte", "(I)Z"⟩
abbrev cX9_isSheet : ByteArray := prog_1_method_39_code
def yX9_isSheet : MethodName := ⟨RX9, "isSheet", "(I)Z"⟩
abbrev cX9_isAtoZ : ByteArray := prog_1_method_40_code
def yX9_isAtoZ : MethodName := ⟨RX9, "isAtoZ", "(I)Z"⟩
abbrev cX9_isDigit : ByteArray := prog_1_method_41_code
def yX9_isDigit : MethodName := ⟨RX9, "isDigit", "(I)Z"⟩
abbrev cX9_isRawByte : ByteArray := prog_1_method_42_code
def yX9_isRawByte : MethodName := ⟨RX9, "isRawByte", "(I)Z"⟩
abbrev cX9_isUnder : ByteArray := prog_1_method_43_code
def yX9_isUnder : MethodName := ⟨RX9, "isUnder", "(II)Z"⟩
abbrev cX9_asNumber : ByteArray := prog_1_method_44_code
def yX9_asNumber : MethodName := ⟨RX9, "asNumber", "(Z)I"⟩
abbrev cX9_sumOf : ByteArray := prog_1_method_45_code
def yX9_sumOf : MethodName := ⟨RX9, "sumOf", "([I)I"⟩
abbrev cX9_inLowestTerms : ByteArray := prog_1_method_46_code
def yX9_inLowestTerms : MethodName := ⟨RX9, "inLowestTerms", "(III)I"⟩
abbrev cX9_cellOf : ByteArray := prog_1_method_47_code
def yX9_cellOf : MethodName := ⟨RX9, "cellOf", "(II)I"⟩
abbrev cX9_pick : ByteArray := prog_1_method_48_code
def yX9_pick : MethodName := ⟨RX9, "pick", "([II)I"⟩
abbrev cX9_place : ByteArray := prog_1_method_49_code
def yX9_place : MethodName := ⟨RX9, "place", "([III)V"⟩
abbrev cX9_isMissing : ByteArray := prog_1_method_50_code
def yX9_isMissing : MethodName := ⟨RX9, "isMissing", "(I)Z"⟩
abbrev cX9_tapeByte : ByteArray := prog_1_method_51_code
def yX9_tapeByte : MethodName := ⟨RX9, "tapeByte", "(IZ)V"⟩
abbrev cX9_isRawText : ByteArray := prog_1_method_52_code
def yX9_isRawText : MethodName := ⟨RX9, "isRawText", "(I)Z"⟩
abbrev cX9_tellShare : ByteArray := prog_1_method_53_code
def yX9_tellShare : MethodName := ⟨RX9, "tellShare", "(II)I"⟩
abbrev cX9_drawInThought : ByteArray := prog_1_method_54_code
def yX9_drawInThought : MethodName := ⟨RX9, "drawInThought", "(III)V"⟩
abbrev cX9_firstOtherwise : ByteArray := prog_1_method_55_code
def yX9_firstOtherwise : MethodName := ⟨RX9, "firstOtherwise", "(II)I"⟩
abbrev cX9_wouldTell : ByteArray := prog_1_method_56_code
def yX9_wouldTell : MethodName := ⟨RX9, "wouldTell", "(III)Z"⟩
abbrev cX9_leastTold : ByteArray := prog_1_method_57_code
def yX9_leastTold : MethodName := ⟨RX9, "leastTold", "(II)I"⟩
abbrev cX9_greatestTold : ByteArray := prog_1_method_58_code
def yX9_greatestTold : MethodName := ⟨RX9, "greatestTold", "(II)I"⟩
def RX10 : String := "HandedWorksModel"
def TX10 : u_T := fun k => match k with
  | 0 => ("HandedWorksModel", "raw", "[I", true)
  | 1 => ("HandedWorksModel", "size", "[I", true)
  | 2 => ("HandedWorksModel", "kind", "[I", true)
  | 3 => ("HandedWorksModel", "day", "[I", true)
  | 4 => ("HandedWorksModel", "rules", "[I", true)
  | 5 => ("HandedWorksModel", "tape", "[I", true)
  | 6 => ("HandedWorksModel", "taped", "I", false)
  | 7 => ("HandedWorksModel", "imaged", "[I", true)
  | 8 => ("HandedWorksModel", "isKept", "Z", false)
  | 9 => ("HandedWorksModel", "spot", "I", false)
  | 10 => ("HandedWorksModel", "keeps", "Z", false)
  | 11 => ("HandedWorksModel", "moved", "[I", true)
  | 12 => ("HandedWorksModel", "letters", "[I", true)
  | 13 => ("HandedWorksModel", "places", "[I", true)
  | 14 => ("HandedWorksModel", "many", "[I", true)
  | 15 => ("HandedWorksModel", "marks", "[I", true)
  | 16 => ("HandedWorksModel", "isPrint", "[Z", true)
  | 17 => ("HandedWorksModel", "within", "[I", true)
  | 18 => ("HandedWorksModel", "isCommon", "[Z", true)
  | 19 => ("HandedWorksModel", "isBegin", "[Z", true)
  | 20 => ("HandedWorksModel", "runs", "I", false)
  | 21 => ("HandedWorksModel", "runA", "[I", true)
  | 22 => ("HandedWorksModel", "runB", "[I", true)
  | 23 => ("HandedWorksModel", "runLong", "[I", true)
  | 24 => ("HandedWorksModel", "isChained", "[Z", true)
  | 25 => ("HandedWorksModel", "heaviest", "[I", true)
  | 26 => ("HandedWorksModel", "source", "[I", true)
  | 27 => ("HandedWorksModel", "reach", "[I", true)
  | 28 => ("HandedWorksModel", "isIn", "[Z", true)
  | 29 => ("HandedWorksModel", "rawWas", "[I", true)
  | 30 => ("HandedWorksModel", "sheets", "[[I", true)
  | 31 => ("HandedWorksModel", "sheetSort", "[I", true)
  | 32 => ("HandedWorksModel", "sheetSize", "[I", true)
  | 33 => ("HandedWorksModel", "shown", "[I", true)
  | _ => ("HandedWorksModel", "copied", "[I", true)
def tyX10 : Nat → FieldType := fun k => match k with
  | 0 => .array .int
  | 1 => .array .int
  | 2 => .array .int
  | 3 => .array .int
  | 4 => .array .int
  | 5 => .array .int
  | 6 => .int
  | 7 => .array .int
  | 8 => .boolean
  | 9 => .int
  | 10 => .boolean
  | 11 => .array .int
  | 12 => .array .int
  | 13 => .array .int
  | 14 => .array .int
  | 15 => .array .int
  | 16 => .array .boolean
  | 17 => .array .int
  | 18 => .array .boolean
  | 19 => .array .boolean
  | 20 => .int
  | 21 => .array .int
  | 22 => .array .int
  | 23 => .array .int
  | 24 => .array .boolean
  | 25 => .array .int
  | 26 => .array .int
  | 27 => .array .int
  | 28 => .array .boolean
  | 29 => .array .int
  | 30 => .array (.array .int)
  | 31 => .array .int
  | 32 => .array .int
  | 33 => .array .int
  | _ => .array .int
abbrev wsX100 : List Cond := u_ws RX10 TX10 35
theorem nmX10 : ∀ a, a < 35 → ∀ b, b < 35 → a ≠ b → (TX10 a).2.1 ≠ (TX10 b).2.1 := by decide +kernel
theorem tyX10_ok : ∀ k, k < 35 → parseFieldDescriptor (TX10 k).2.2.1 = some (tyX10 k) := by decide +kernel
abbrev cX10_init : ByteArray := prog_12_method_1_code
def yX10_init : MethodName := ⟨RX10, "<init>", "()V"⟩
abbrev cX10_in : ByteArray := prog_12_method_2_code
def yX10_in : MethodName := ⟨RX10, "in", "(JJJ)Z"⟩
abbrev cX10_isWork : ByteArray := prog_12_method_3_code
def yX10_isWork : MethodName := ⟨RX10, "isWork", "(I)Z"⟩
abbrev cX10_isThere : ByteArray := prog_12_method_4_code
def yX10_isThere : MethodName := ⟨RX10, "isThere", "(I)Z"⟩
abbrev cX10_passesRow : ByteArray := prog_12_method_5_code
def yX10_passesRow : MethodName := ⟨RX10, "passesRow", "([I)V"⟩
abbrev cX10_passesAll : ByteArray := prog_12_method_6_code
def yX10_passesAll : MethodName := ⟨RX10, "passesAll", "(Z)I"⟩
abbrev cX10_image : ByteArray := prog_12_method_7_code
def yX10_image : MethodName := ⟨RX10, "image", "()I"⟩
abbrev cX10_back : ByteArray := prog_12_method_8_code
def yX10_back : MethodName := ⟨RX10, "back", "()I"⟩
abbrev cX10_worksThere : ByteArray := prog_12_method_9_code
def yX10_worksThere : MethodName := ⟨RX10, "worksThere", "()I"⟩
abbrev cX10_feed : ByteArray := prog_12_method_10_code
def yX10_feed : MethodName := ⟨RX10, "feed", "(IIIIII)I"⟩
abbrev cX10_isLetter : ByteArray := prog_12_method_11_code
def yX10_isLetter : MethodName := ⟨RX10, "isLetter", "(I)Z"⟩
abbrev cX10_isDigit : ByteArray := prog_12_method_12_code
def yX10_isDigit : MethodName := ⟨RX10, "isDigit", "(I)Z"⟩
abbrev cX10_isRaw : ByteArray := prog_12_method_13_code
def yX10_isRaw : MethodName := ⟨RX10, "isRaw", "()Z"⟩
abbrev cX10_work : ByteArray := prog_12_method_14_code
def yX10_work : MethodName := ⟨RX10, "work", "(III)I"⟩
abbrev cX10_splice : ByteArray := prog_12_method_15_code
def yX10_splice : MethodName := ⟨RX10, "splice", "(IIIII)I"⟩
abbrev cX10_cut : ByteArray := prog_12_method_16_code
def yX10_cut : MethodName := ⟨RX10, "cut", "(III)I"⟩
abbrev cX10_drop : ByteArray := prog_12_method_17_code
def yX10_drop : MethodName := ⟨RX10, "drop", "(I)I"⟩
abbrev cX10_alter : ByteArray := prog_12_method_18_code
def yX10_alter : MethodName := ⟨RX10, "alter", "(III)I"⟩
abbrev cX10_raw : ByteArray := prog_12_method_19_code
def yX10_raw : MethodName := ⟨RX10, "raw", "(II)I"⟩
abbrev cX10_byteAt : ByteArray := prog_12_method_20_code
def yX10_byteAt : MethodName := ⟨RX10, "byteAt", "(II)I"⟩
abbrev cX10_asTold : ByteArray := prog_12_method_21_code
def yX10_asTold : MethodName := ⟨RX10, "asTold", "(IIIZ)I"⟩
abbrev cX10_spells : ByteArray := prog_12_method_22_code
def yX10_spells : MethodName := ⟨RX10, "spells", "(I)V"⟩
abbrev cX10_letter : ByteArray := prog_12_method_23_code
def yX10_letter : MethodName := ⟨RX10, "letter", "(III)I"⟩
abbrev cX10_isUnder : ByteArray := prog_12_method_24_code
def yX10_isUnder : MethodName := ⟨RX10, "isUnder", "(II)Z"⟩
abbrev cX10_taken : ByteArray := prog_12_method_25_code
def yX10_taken : MethodName := ⟨RX10, "taken", "(II)I"⟩
abbrev cX10_grams : ByteArray := prog_12_method_26_code
def yX10_grams : MethodName := ⟨RX10, "grams", "(I)I"⟩
abbrev cX10_isLike : ByteArray := prog_12_method_27_code
def yX10_isLike : MethodName := ⟨RX10, "isLike", "(IIII)Z"⟩
abbrev cX10_has : ByteArray := prog_12_method_28_code
def yX10_has : MethodName := ⟨RX10, "has", "(III)Z"⟩
abbrev cX10_prints : ByteArray := prog_12_method_29_code
def yX10_prints : MethodName := ⟨RX10, "prints", "(I)V"⟩
abbrev cX10_anew : ByteArray := prog_12_method_30_code
def yX10_anew : MethodName := ⟨RX10, "anew", "()V"⟩
abbrev cX10_isRule : ByteArray := prog_12_method_31_code
def yX10_isRule : MethodName := ⟨RX10, "isRule", "(II)Z"⟩
abbrev cX10_rule : ByteArray := prog_12_method_32_code
def yX10_rule : MethodName := ⟨RX10, "rule", "(II)I"⟩
abbrev cX10_mark : ByteArray := prog_12_method_33_code
def yX10_mark : MethodName := ⟨RX10, "mark", "(II)J"⟩
abbrev cX10_printsOf : ByteArray := prog_12_method_34_code
def yX10_printsOf : MethodName := ⟨RX10, "printsOf", "(I)I"⟩
abbrev cX10_nthPrint : ByteArray := prog_12_method_35_code
def yX10_nthPrint : MethodName := ⟨RX10, "nthPrint", "(II)I"⟩
abbrev cX10_print : ByteArray := prog_12_method_36_code
def yX10_print : MethodName := ⟨RX10, "print", "(III)I"⟩
abbrev cX10_common : ByteArray := prog_12_method_37_code
def yX10_common : MethodName := ⟨RX10, "common", "(II)I"⟩
abbrev cX10_isOne : ByteArray := prog_12_method_38_code
def yX10_isOne : MethodName := ⟨RX10, "isOne", "(IIII)Z"⟩
abbrev cX10_matches : ByteArray := prog_12_method_39_code
def yX10_matches : MethodName := ⟨RX10, "matches", "(III)V"⟩
abbrev cX10_mayFollow : ByteArray := prog_12_method_40_code
def yX10_mayFollow : MethodName := ⟨RX10, "mayFollow", "(II)Z"⟩
abbrev cX10_chains : ByteArray := prog_12_method_41_code
def yX10_chains : MethodName := ⟨RX10, "chains", "()I"⟩
abbrev cX10_match : ByteArray := prog_12_method_42_code
def yX10_match : MethodName := ⟨RX10, "match", "(IIII)I"⟩
abbrev cX10_chain : ByteArray := prog_12_method_43_code
def yX10_chain : MethodName := ⟨RX10, "chain", "(III)I"⟩
abbrev cX10_lowest : ByteArray := prog_12_method_44_code
def yX10_lowest : MethodName := ⟨RX10, "lowest", "(III)I"⟩
abbrev cX10_isAgain : ByteArray := prog_12_method_45_code
def yX10_isAgain : MethodName := ⟨RX10, "isAgain", "(II)Z"⟩
abbrev cX10_isPrinted : ByteArray := prog_12_method_46_code
def yX10_isPrinted : MethodName := ⟨RX10, "isPrinted", "(III)Z"⟩
abbrev cX10_like : ByteArray := prog_12_method_47_code
def yX10_like : MethodName := ⟨RX10, "like", "(III)I"⟩
abbrev cX10_sources : ByteArray := prog_12_method_48_code
def yX10_sources : MethodName := ⟨RX10, "sources", "(II)V"⟩
abbrev cX10_covers : ByteArray := prog_12_method_49_code
def yX10_covers : MethodName := ⟨RX10, "covers", "(II)V"⟩
abbrev cX10_covered : ByteArray := prog_12_method_50_code
def yX10_covered : MethodName := ⟨RX10, "covered", "(I)I"⟩
abbrev cX10_inHundred : ByteArray := prog_12_method_51_code
def yX10_inHundred : MethodName := ⟨RX10, "inHundred", "(I)I"⟩
abbrev cX10_beginsSpan : ByteArray := prog_12_method_52_code
def yX10_beginsSpan : MethodName := ⟨RX10, "beginsSpan", "(I)Z"⟩
abbrev cX10_spans : ByteArray := prog_12_method_53_code
def yX10_spans : MethodName := ⟨RX10, "spans", "(I)I"⟩
abbrev cX10_spanAt : ByteArray := prog_12_method_54_code
def yX10_spanAt : MethodName := ⟨RX10, "spanAt", "(I)I"⟩
abbrev cX10_spanEnd : ByteArray := prog_12_method_55_code
def yX10_spanEnd : MethodName := ⟨RX10, "spanEnd", "(II)I"⟩
abbrev cX10_span : ByteArray := prog_12_method_56_code
def yX10_span : MethodName := ⟨RX10, "span", "(III)I"⟩
abbrev cX10_source : ByteArray := prog_12_method_57_code
def yX10_source : MethodName := ⟨RX10, "source", "(II)I"⟩
abbrev cX10_mostSource : ByteArray := prog_12_method_58_code
def yX10_mostSource : MethodName := ⟨RX10, "mostSource", "(I)I"⟩
abbrev cX10_share : ByteArray := prog_12_method_59_code
def yX10_share : MethodName := ⟨RX10, "share", "(II)I"⟩
abbrev cX10_isHeld : ByteArray := prog_12_method_60_code
def yX10_isHeld : MethodName := ⟨RX10, "isHeld", "(II)Z"⟩
abbrev cX10_group : ByteArray := prog_12_method_61_code
def yX10_group : MethodName := ⟨RX10, "group", "(I)I"⟩
abbrev cX10_without : ByteArray := prog_12_method_62_code
def yX10_without : MethodName := ⟨RX10, "without", "(II)I"⟩
abbrev cX10_drawnBy : ByteArray := prog_12_method_63_code
def yX10_drawnBy : MethodName := ⟨RX10, "drawnBy", "(IIII)I"⟩
abbrev cX10_drawn : ByteArray := prog_12_method_64_code
def yX10_drawn : MethodName := ⟨RX10, "drawn", "(IIII)I"⟩
abbrev cX10_chance : ByteArray := prog_12_method_65_code
def yX10_chance : MethodName := ⟨RX10, "chance", "(IIIII)I"⟩
abbrev cX10_isSheet : ByteArray := prog_12_method_66_code
def yX10_isSheet : MethodName := ⟨RX10, "isSheet", "(I)Z"⟩
abbrev cX10_shows : ByteArray := prog_12_method_67_code
def yX10_shows : MethodName := ⟨RX10, "shows", "(II)I"⟩
abbrev cX10_otherwise : ByteArray := prog_12_method_68_code
def yX10_otherwise : MethodName := ⟨RX10, "otherwise", "(III)I"⟩
abbrev cX10_tells : ByteArray := prog_12_method_69_code
def yX10_tells : MethodName := ⟨RX10, "tells", "(III)I"⟩
abbrev cX10_film : ByteArray := prog_12_method_70_code
def yX10_film : MethodName := ⟨RX10, "film", "(II)I"⟩
abbrev cX10_unlikeGrams : ByteArray := prog_12_method_71_code
def yX10_unlikeGrams : MethodName := ⟨RX10, "unlikeGrams", "()I"⟩
abbrev cX10_count : ByteArray := prog_12_method_72_code
def yX10_count : MethodName := ⟨RX10, "count", "(I)I"⟩
abbrev cX10_sheet : ByteArray := prog_12_method_73_code
def yX10_sheet : MethodName := ⟨RX10, "sheet", "(III)I"⟩
abbrev cX10_put : ByteArray := prog_12_method_74_code
def yX10_put : MethodName := ⟨RX10, "put", "(III)I"⟩
abbrev cX10_copy : ByteArray := prog_12_method_75_code
def yX10_copy : MethodName := ⟨RX10, "copy", "(IIIII)I"⟩
def RJ9 : String := "java/lang/Math"
def TJ9 : u_T := fun k => match k with
  | _ => ("", "", "", false)
def tyJ9 : Nat → FieldType := fun k => match k with
  | _ => .int
abbrev wsJ90 : List Cond := u_ws RJ9 TJ9 0
theorem nmJ9 : ∀ a, a < 0 → ∀ b, b < 0 → a ≠ b → (TJ9 a).2.1 ≠ (TJ9 b).2.1 := by decide +kernel
theorem tyJ9_ok : ∀ k, k < 0 → parseFieldDescriptor (TJ9 k).2.2.1 = some (tyJ9 k) := by decide +kernel
abbrev cJ9_max_7cf53 : ByteArray := prog_13_method_65_code
def yJ9_max_7cf53 : MethodName := ⟨RJ9, "max", "(II)I"⟩
abbrev cJ9_min_7cf53 : ByteArray := prog_13_method_69_code
def yJ9_min_7cf53 : MethodName := ⟨RJ9, "min", "(II)I"⟩
def RJ10 : String := "java/lang/System"
def TJ10 : u_T := fun k => match k with
  | _ => ("", "", "", false)
def tyJ10 : Nat → FieldType := fun k => match k with
  | _ => .int
abbrev wsJ100 : List Cond := u_ws RJ10 TJ10 0
theorem nmJ10 : ∀ a, a < 0 → ∀ b, b < 0 → a ≠ b → (TJ10 a).2.1 ≠ (TJ10 b).2.1 := by decide +kernel
theorem tyJ10_ok : ∀ k, k < 0 → parseFieldDescriptor (TJ10 k).2.2.1 = some (tyJ10 k) := by decide +kernel
def RJ7 : String := "java/util/Arrays"
def TJ7 : u_T := fun k => match k with
  | _ => ("", "", "", false)
def tyJ7 : Nat → FieldType := fun k => match k with
  | _ => .int
abbrev wsJ70 : List Cond := u_ws RJ7 TJ7 0
theorem nmJ7 : ∀ a, a < 0 → ∀ b, b < 0 → a ≠ b → (TJ7 a).2.1 ≠ (TJ7 b).2.1 := by decide +kernel
theorem tyJ7_ok : ∀ k, k < 0 → parseFieldDescriptor (TJ7 k).2.2.1 = some (tyJ7 k) := by decide +kernel
abbrev cJ7_rangeCheck_23922 : ByteArray := prog_15_method_30_code
def yJ7_rangeCheck_23922 : MethodName := ⟨RJ7, "rangeCheck", "(III)V"⟩
abbrev cJ7_fill_53178 : ByteArray := prog_15_method_103_code
def yJ7_fill_53178 : MethodName := ⟨RJ7, "fill", "([II)V"⟩
abbrev cJ7_fill_fda19 : ByteArray := prog_15_method_104_code
def yJ7_fill_fda19 : MethodName := ⟨RJ7, "fill", "([IIII)V"⟩
def RL : String := "HandedWorksLaw"
abbrev cL_law : ByteArray := code
def yL_law : MethodName := ⟨RL, "law", "([I)Z"⟩
abbrev vwCl : List vw_C := [(RX0, TX0, 9), (RX2, TX2, 10), (RX3, TX3, 7), (RX4, TX4, 3), (RX5, TX5, 6), (RX6, TX6, 3), (RX7, TX7, 9), (RX8, TX8, 5), (RX9, TX9, 8), (RX10, TX10, 35)]
