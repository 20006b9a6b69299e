section
-- ===== PART A: goes FIRST, ahead of the names: the tables' words, and 'selects' of the private methods out of them =====
/-- a private method of a class that the tables say can be made, by its rows of tables_1 -/
def lw_okq (q : MethodName × Nat) : Prop := (q.1.cls ≠ "java/lang/invoke/MethodHandle" ∧ q.1.cls ≠ "java/lang/invoke/VarHandle") ∧ Cond.instantiable q.1.cls q.2 ∈ tables_1 ∧ Cond.privateMethod q.1 ∈ tables_1 ∧ Cond.instanceMethod q.1 ∈ tables_1
theorem lw_p0 : lw_okq (⟨"PuppetCast$Company", "isTraitOrNone", "(I)Z"⟩, 6) := ⟨⟨by decide +kernel, by decide +kernel⟩, List.mem_of_getElem? (i := 24) (by decide +kernel), List.mem_of_getElem? (i := 209) (by decide +kernel), List.mem_of_getElem? (i := 210) (by decide +kernel)⟩
theorem lw_p1 : lw_okq (⟨"PuppetCast$Company", "addToMerger", "(I)V"⟩, 6) := ⟨⟨by decide +kernel, by decide +kernel⟩, List.mem_of_getElem? (i := 24) (by decide +kernel), List.mem_of_getElem? (i := 232) (by decide +kernel), List.mem_of_getElem? (i := 233) (by decide +kernel)⟩
theorem lw_p2 : lw_okq (⟨"PuppetCast$Merger", "addRow", "(LPuppetCast$Line;)V"⟩, 5) := ⟨⟨by decide +kernel, by decide +kernel⟩, List.mem_of_getElem? (i := 34) (by decide +kernel), List.mem_of_getElem? (i := 245) (by decide +kernel), List.mem_of_getElem? (i := 246) (by decide +kernel)⟩
theorem lw_p3 : lw_okq (⟨"PuppetCast$Merger", "nextTrait", "()I"⟩, 5) := ⟨⟨by decide +kernel, by decide +kernel⟩, List.mem_of_getElem? (i := 34) (by decide +kernel), List.mem_of_getElem? (i := 254) (by decide +kernel), List.mem_of_getElem? (i := 255) (by decide +kernel)⟩
theorem lw_p4 : lw_okq (⟨"PuppetCast$Merger", "firstOf", "(I)I"⟩, 5) := ⟨⟨by decide +kernel, by decide +kernel⟩, List.mem_of_getElem? (i := 34) (by decide +kernel), List.mem_of_getElem? (i := 258) (by decide +kernel), List.mem_of_getElem? (i := 259) (by decide +kernel)⟩
theorem lw_p5 : lw_okq (⟨"PuppetCast$Merger", "standsBehind", "(I)Z"⟩, 5) := ⟨⟨by decide +kernel, by decide +kernel⟩, List.mem_of_getElem? (i := 34) (by decide +kernel), List.mem_of_getElem? (i := 266) (by decide +kernel), List.mem_of_getElem? (i := 267) (by decide +kernel)⟩
theorem lw_p6 : lw_okq (⟨"PuppetCast$Merger", "strike", "(I)V"⟩, 5) := ⟨⟨by decide +kernel, by decide +kernel⟩, List.mem_of_getElem? (i := 34) (by decide +kernel), List.mem_of_getElem? (i := 274) (by decide +kernel), List.mem_of_getElem? (i := 275) (by decide +kernel)⟩
theorem lw_p7 : lw_okq (⟨"PuppetCast$Merger", "allDone", "()Z"⟩, 5) := ⟨⟨by decide +kernel, by decide +kernel⟩, List.mem_of_getElem? (i := 34) (by decide +kernel), List.mem_of_getElem? (i := 278) (by decide +kernel), List.mem_of_getElem? (i := 279) (by decide +kernel)⟩
theorem lw_p8 : lw_okq (⟨"PuppetCast$Company", "offered", "(LPuppetCast$Figure;II)LPuppetCast$Part;"⟩, 6) := ⟨⟨by decide +kernel, by decide +kernel⟩, List.mem_of_getElem? (i := 24) (by decide +kernel), List.mem_of_getElem? (i := 572) (by decide +kernel), List.mem_of_getElem? (i := 573) (by decide +kernel)⟩
theorem lw_p9 : lw_okq (⟨"PuppetCast$Stage", "callAct", "(LPuppetCast$Figure;LPuppetCast$Figure;IJI)J"⟩, 7) := ⟨⟨by decide +kernel, by decide +kernel⟩, List.mem_of_getElem? (i := 146) (by decide +kernel), List.mem_of_getElem? (i := 665) (by decide +kernel), List.mem_of_getElem? (i := 666) (by decide +kernel)⟩
theorem lw_p10 : lw_okq (⟨"PuppetCast$Stage", "fail", "(I)J"⟩, 7) := ⟨⟨by decide +kernel, by decide +kernel⟩, List.mem_of_getElem? (i := 146) (by decide +kernel), List.mem_of_getElem? (i := 670) (by decide +kernel), List.mem_of_getElem? (i := 671) (by decide +kernel)⟩
theorem lw_p11 : lw_okq (⟨"PuppetCast$Stage", "goWithin", "(LPuppetCast$Figure;IIJI)J"⟩, 7) := ⟨⟨by decide +kernel, by decide +kernel⟩, List.mem_of_getElem? (i := 146) (by decide +kernel), List.mem_of_getElem? (i := 677) (by decide +kernel), List.mem_of_getElem? (i := 678) (by decide +kernel)⟩
theorem lw_p12 : lw_okq (⟨"PuppetCast$Stage", "doOps", "(LPuppetCast$Part;LPuppetCast$Figure;IIJI)J"⟩, 7) := ⟨⟨by decide +kernel, by decide +kernel⟩, List.mem_of_getElem? (i := 146) (by decide +kernel), List.mem_of_getElem? (i := 686) (by decide +kernel), List.mem_of_getElem? (i := 687) (by decide +kernel)⟩
theorem lw_p13 : lw_okq (⟨"PuppetCast$Stage", "doOpening", "(LPuppetCast$Part;ILPuppetCast$Figure;IIJI)J"⟩, 7) := ⟨⟨by decide +kernel, by decide +kernel⟩, List.mem_of_getElem? (i := 146) (by decide +kernel), List.mem_of_getElem? (i := 698) (by decide +kernel), List.mem_of_getElem? (i := 699) (by decide +kernel)⟩
theorem lw_p14 : lw_okq (⟨"PuppetCast$Stage", "takeFailureAway", "(J)J"⟩, 7) := ⟨⟨by decide +kernel, by decide +kernel⟩, List.mem_of_getElem? (i := 146) (by decide +kernel), List.mem_of_getElem? (i := 709) (by decide +kernel), List.mem_of_getElem? (i := 710) (by decide +kernel)⟩
theorem lw_p15 : lw_okq (⟨"PuppetCast$Stage", "partAbove", "(LPuppetCast$Part;LPuppetCast$Figure;I)LPuppetCast$Part;"⟩, 7) := ⟨⟨by decide +kernel, by decide +kernel⟩, List.mem_of_getElem? (i := 146) (by decide +kernel), List.mem_of_getElem? (i := 723) (by decide +kernel), List.mem_of_getElem? (i := 724) (by decide +kernel)⟩
def lw_privs_1 : List (MethodName × Nat) := [(⟨"PuppetCast$Company", "isTraitOrNone", "(I)Z"⟩, 6), (⟨"PuppetCast$Company", "addToMerger", "(I)V"⟩, 6), (⟨"PuppetCast$Merger", "addRow", "(LPuppetCast$Line;)V"⟩, 5), (⟨"PuppetCast$Merger", "nextTrait", "()I"⟩, 5), (⟨"PuppetCast$Merger", "firstOf", "(I)I"⟩, 5), (⟨"PuppetCast$Merger", "standsBehind", "(I)Z"⟩, 5), (⟨"PuppetCast$Merger", "strike", "(I)V"⟩, 5), (⟨"PuppetCast$Merger", "allDone", "()Z"⟩, 5), (⟨"PuppetCast$Company", "offered", "(LPuppetCast$Figure;II)LPuppetCast$Part;"⟩, 6), (⟨"PuppetCast$Stage", "callAct", "(LPuppetCast$Figure;LPuppetCast$Figure;IJI)J"⟩, 7), (⟨"PuppetCast$Stage", "fail", "(I)J"⟩, 7), (⟨"PuppetCast$Stage", "goWithin", "(LPuppetCast$Figure;IIJI)J"⟩, 7), (⟨"PuppetCast$Stage", "doOps", "(LPuppetCast$Part;LPuppetCast$Figure;IIJI)J"⟩, 7), (⟨"PuppetCast$Stage", "doOpening", "(LPuppetCast$Part;ILPuppetCast$Figure;IIJI)J"⟩, 7), (⟨"PuppetCast$Stage", "takeFailureAway", "(J)J"⟩, 7), (⟨"PuppetCast$Stage", "partAbove", "(LPuppetCast$Part;LPuppetCast$Figure;I)LPuppetCast$Part;"⟩, 7)]
theorem lw_r1 : ∀ q ∈ lw_privs_1, lw_okq q := List.forall_mem_cons.mpr ⟨lw_p0, List.forall_mem_cons.mpr ⟨lw_p1, List.forall_mem_cons.mpr ⟨lw_p2, List.forall_mem_cons.mpr ⟨lw_p3, List.forall_mem_cons.mpr ⟨lw_p4, List.forall_mem_cons.mpr ⟨lw_p5, List.forall_mem_cons.mpr ⟨lw_p6, List.forall_mem_cons.mpr ⟨lw_p7, List.forall_mem_cons.mpr ⟨lw_p8, List.forall_mem_cons.mpr ⟨lw_p9, List.forall_mem_cons.mpr ⟨lw_p10, List.forall_mem_cons.mpr ⟨lw_p11, List.forall_mem_cons.mpr ⟨lw_p12, List.forall_mem_cons.mpr ⟨lw_p13, List.forall_mem_cons.mpr ⟨lw_p14, List.forall_mem_cons.mpr ⟨lw_p15, fun _ h => absurd h List.not_mem_nil⟩⟩⟩⟩⟩⟩⟩⟩⟩⟩⟩⟩⟩⟩⟩⟩
theorem lw_p16 : lw_okq (⟨"PuppetCast$Stage", "doPlain", "(LPuppetCast$Part;ILPuppetCast$Figure;IJ)J"⟩, 7) := ⟨⟨by decide +kernel, by decide +kernel⟩, List.mem_of_getElem? (i := 146) (by decide +kernel), List.mem_of_getElem? (i := 732) (by decide +kernel), List.mem_of_getElem? (i := 733) (by decide +kernel)⟩
theorem lw_p17 : lw_okq (⟨"PuppetCastModel", "mayBeUnder", "(I)Z"⟩, 55) := ⟨⟨by decide +kernel, by decide +kernel⟩, List.mem_of_getElem? (i := 821) (by decide +kernel), List.mem_of_getElem? (i := 997) (by decide +kernel), List.mem_of_getElem? (i := 998) (by decide +kernel)⟩
theorem lw_p18 : lw_okq (⟨"PuppetCastModel", "isTrait", "(I)Z"⟩, 55) := ⟨⟨by decide +kernel, by decide +kernel⟩, List.mem_of_getElem? (i := 821) (by decide +kernel), List.mem_of_getElem? (i := 1001) (by decide +kernel), List.mem_of_getElem? (i := 1002) (by decide +kernel)⟩
theorem lw_p19 : lw_okq (⟨"PuppetCastModel", "merge", "()I"⟩, 55) := ⟨⟨by decide +kernel, by decide +kernel⟩, List.mem_of_getElem? (i := 821) (by decide +kernel), List.mem_of_getElem? (i := 1008) (by decide +kernel), List.mem_of_getElem? (i := 1009) (by decide +kernel)⟩
theorem lw_p20 : lw_okq (⟨"PuppetCastModel", "placeOf", "(II)I"⟩, 55) := ⟨⟨by decide +kernel, by decide +kernel⟩, List.mem_of_getElem? (i := 821) (by decide +kernel), List.mem_of_getElem? (i := 1012) (by decide +kernel), List.mem_of_getElem? (i := 1013) (by decide +kernel)⟩
theorem lw_p21 : lw_okq (⟨"PuppetCastModel", "isBehind", "(I)Z"⟩, 55) := ⟨⟨by decide +kernel, by decide +kernel⟩, List.mem_of_getElem? (i := 821) (by decide +kernel), List.mem_of_getElem? (i := 1016) (by decide +kernel), List.mem_of_getElem? (i := 1017) (by decide +kernel)⟩
theorem lw_p22 : lw_okq (⟨"PuppetCastModel", "isCharacter", "(I)Z"⟩, 55) := ⟨⟨by decide +kernel, by decide +kernel⟩, List.mem_of_getElem? (i := 821) (by decide +kernel), List.mem_of_getElem? (i := 1028) (by decide +kernel), List.mem_of_getElem? (i := 1029) (by decide +kernel)⟩
theorem lw_p23 : lw_okq (⟨"PuppetCastModel", "begins", "(I)I"⟩, 55) := ⟨⟨by decide +kernel, by decide +kernel⟩, List.mem_of_getElem? (i := 821) (by decide +kernel), List.mem_of_getElem? (i := 1039) (by decide +kernel), List.mem_of_getElem? (i := 1040) (by decide +kernel)⟩
theorem lw_p24 : lw_okq (⟨"PuppetCastModel", "leaves", "(III)Z"⟩, 55) := ⟨⟨by decide +kernel, by decide +kernel⟩, List.mem_of_getElem? (i := 821) (by decide +kernel), List.mem_of_getElem? (i := 1066) (by decide +kernel), List.mem_of_getElem? (i := 1067) (by decide +kernel)⟩
theorem lw_p25 : lw_okq (⟨"PuppetCastModel", "renamed", "(III)I"⟩, 55) := ⟨⟨by decide +kernel, by decide +kernel⟩, List.mem_of_getElem? (i := 821) (by decide +kernel), List.mem_of_getElem? (i := 1074) (by decide +kernel), List.mem_of_getElem? (i := 1075) (by decide +kernel)⟩
theorem lw_p26 : lw_okq (⟨"PuppetCastModel", "named", "(III)I"⟩, 55) := ⟨⟨by decide +kernel, by decide +kernel⟩, List.mem_of_getElem? (i := 821) (by decide +kernel), List.mem_of_getElem? (i := 1078) (by decide +kernel), List.mem_of_getElem? (i := 1079) (by decide +kernel)⟩
theorem lw_p27 : lw_okq (⟨"PuppetCastModel", "chosenOf", "(II)I"⟩, 55) := ⟨⟨by decide +kernel, by decide +kernel⟩, List.mem_of_getElem? (i := 821) (by decide +kernel), List.mem_of_getElem? (i := 1098) (by decide +kernel), List.mem_of_getElem? (i := 1099) (by decide +kernel)⟩
theorem lw_p28 : lw_okq (⟨"PuppetCastModel", "choose", "(II)I"⟩, 55) := ⟨⟨by decide +kernel, by decide +kernel⟩, List.mem_of_getElem? (i := 821) (by decide +kernel), List.mem_of_getElem? (i := 1102) (by decide +kernel), List.mem_of_getElem? (i := 1103) (by decide +kernel)⟩
theorem lw_p29 : lw_okq (⟨"PuppetCastModel", "offers", "(III)I"⟩, 55) := ⟨⟨by decide +kernel, by decide +kernel⟩, List.mem_of_getElem? (i := 821) (by decide +kernel), List.mem_of_getElem? (i := 1106) (by decide +kernel), List.mem_of_getElem? (i := 1107) (by decide +kernel)⟩
theorem lw_p30 : lw_okq (⟨"PuppetCastModel", "placeIn", "(II)I"⟩, 55) := ⟨⟨by decide +kernel, by decide +kernel⟩, List.mem_of_getElem? (i := 821) (by decide +kernel), List.mem_of_getElem? (i := 1110) (by decide +kernel), List.mem_of_getElem? (i := 1111) (by decide +kernel)⟩
theorem lw_p31 : lw_okq (⟨"PuppetCastModel", "firstFrom", "(III)I"⟩, 55) := ⟨⟨by decide +kernel, by decide +kernel⟩, List.mem_of_getElem? (i := 821) (by decide +kernel), List.mem_of_getElem? (i := 1114) (by decide +kernel), List.mem_of_getElem? (i := 1115) (by decide +kernel)⟩
def lw_privs_2 : List (MethodName × Nat) := [(⟨"PuppetCast$Stage", "doPlain", "(LPuppetCast$Part;ILPuppetCast$Figure;IJ)J"⟩, 7), (⟨"PuppetCastModel", "mayBeUnder", "(I)Z"⟩, 55), (⟨"PuppetCastModel", "isTrait", "(I)Z"⟩, 55), (⟨"PuppetCastModel", "merge", "()I"⟩, 55), (⟨"PuppetCastModel", "placeOf", "(II)I"⟩, 55), (⟨"PuppetCastModel", "isBehind", "(I)Z"⟩, 55), (⟨"PuppetCastModel", "isCharacter", "(I)Z"⟩, 55), (⟨"PuppetCastModel", "begins", "(I)I"⟩, 55), (⟨"PuppetCastModel", "leaves", "(III)Z"⟩, 55), (⟨"PuppetCastModel", "renamed", "(III)I"⟩, 55), (⟨"PuppetCastModel", "named", "(III)I"⟩, 55), (⟨"PuppetCastModel", "chosenOf", "(II)I"⟩, 55), (⟨"PuppetCastModel", "choose", "(II)I"⟩, 55), (⟨"PuppetCastModel", "offers", "(III)I"⟩, 55), (⟨"PuppetCastModel", "placeIn", "(II)I"⟩, 55), (⟨"PuppetCastModel", "firstFrom", "(III)I"⟩, 55)]
theorem lw_r2 : ∀ q ∈ lw_privs_2, lw_okq q := List.forall_mem_cons.mpr ⟨lw_p16, List.forall_mem_cons.mpr ⟨lw_p17, List.forall_mem_cons.mpr ⟨lw_p18, List.forall_mem_cons.mpr ⟨lw_p19, List.forall_mem_cons.mpr ⟨lw_p20, List.forall_mem_cons.mpr ⟨lw_p21, List.forall_mem_cons.mpr ⟨lw_p22, List.forall_mem_cons.mpr ⟨lw_p23, List.forall_mem_cons.mpr ⟨lw_p24, List.forall_mem_cons.mpr ⟨lw_p25, List.forall_mem_cons.mpr ⟨lw_p26, List.forall_mem_cons.mpr ⟨lw_p27, List.forall_mem_cons.mpr ⟨lw_p28, List.forall_mem_cons.mpr ⟨lw_p29, List.forall_mem_cons.mpr ⟨lw_p30, List.forall_mem_cons.mpr ⟨lw_p31, fun _ h => absurd h List.not_mem_nil⟩⟩⟩⟩⟩⟩⟩⟩⟩⟩⟩⟩⟩⟩⟩⟩
theorem lw_p32 : lw_okq (⟨"PuppetCastModel", "tells", "(II)I"⟩, 55) := ⟨⟨by decide +kernel, by decide +kernel⟩, List.mem_of_getElem? (i := 821) (by decide +kernel), List.mem_of_getElem? (i := 1118) (by decide +kernel), List.mem_of_getElem? (i := 1119) (by decide +kernel)⟩
theorem lw_p33 : lw_okq (⟨"PuppetCastModel", "clashOf", "(II)I"⟩, 55) := ⟨⟨by decide +kernel, by decide +kernel⟩, List.mem_of_getElem? (i := 821) (by decide +kernel), List.mem_of_getElem? (i := 1126) (by decide +kernel), List.mem_of_getElem? (i := 1127) (by decide +kernel)⟩
theorem lw_p34 : lw_okq (⟨"PuppetCastModel", "isByLine", "(III)Z"⟩, 55) := ⟨⟨by decide +kernel, by decide +kernel⟩, List.mem_of_getElem? (i := 821) (by decide +kernel), List.mem_of_getElem? (i := 1130) (by decide +kernel), List.mem_of_getElem? (i := 1131) (by decide +kernel)⟩
theorem lw_p35 : lw_okq (⟨"PuppetCastModel", "standsUnder", "(II)Z"⟩, 55) := ⟨⟨by decide +kernel, by decide +kernel⟩, List.mem_of_getElem? (i := 821) (by decide +kernel), List.mem_of_getElem? (i := 1134) (by decide +kernel), List.mem_of_getElem? (i := 1135) (by decide +kernel)⟩
theorem lw_p36 : lw_okq (⟨"PuppetCastModel", "aboutOf", "(III)I"⟩, 55) := ⟨⟨by decide +kernel, by decide +kernel⟩, List.mem_of_getElem? (i := 821) (by decide +kernel), List.mem_of_getElem? (i := 1142) (by decide +kernel), List.mem_of_getElem? (i := 1143) (by decide +kernel)⟩
theorem lw_p37 : lw_okq (⟨"PuppetCastModel", "guardAt", "(III)I"⟩, 55) := ⟨⟨by decide +kernel, by decide +kernel⟩, List.mem_of_getElem? (i := 821) (by decide +kernel), List.mem_of_getElem? (i := 1146) (by decide +kernel), List.mem_of_getElem? (i := 1147) (by decide +kernel)⟩
theorem lw_p38 : lw_okq (⟨"PuppetCastModel", "bridges", "(III)I"⟩, 55) := ⟨⟨by decide +kernel, by decide +kernel⟩, List.mem_of_getElem? (i := 821) (by decide +kernel), List.mem_of_getElem? (i := 1150) (by decide +kernel), List.mem_of_getElem? (i := 1151) (by decide +kernel)⟩
theorem lw_p39 : lw_okq (⟨"PuppetCastModel", "against", "(III)I"⟩, 55) := ⟨⟨by decide +kernel, by decide +kernel⟩, List.mem_of_getElem? (i := 821) (by decide +kernel), List.mem_of_getElem? (i := 1170) (by decide +kernel), List.mem_of_getElem? (i := 1171) (by decide +kernel)⟩
theorem lw_p40 : lw_okq (⟨"PuppetCastModel", "pushLayer", "(IIIZ)V"⟩, 55) := ⟨⟨by decide +kernel, by decide +kernel⟩, List.mem_of_getElem? (i := 821) (by decide +kernel), List.mem_of_getElem? (i := 1174) (by decide +kernel), List.mem_of_getElem? (i := 1175) (by decide +kernel)⟩
theorem lw_p41 : lw_okq (⟨"PuppetCastModel", "pushes", "(ZIIZ)V"⟩, 55) := ⟨⟨by decide +kernel, by decide +kernel⟩, List.mem_of_getElem? (i := 821) (by decide +kernel), List.mem_of_getElem? (i := 1178) (by decide +kernel), List.mem_of_getElem? (i := 1179) (by decide +kernel)⟩
theorem lw_p42 : lw_okq (⟨"PuppetCastModel", "does", "(I)I"⟩, 55) := ⟨⟨by decide +kernel, by decide +kernel⟩, List.mem_of_getElem? (i := 821) (by decide +kernel), List.mem_of_getElem? (i := 1182) (by decide +kernel), List.mem_of_getElem? (i := 1183) (by decide +kernel)⟩
theorem lw_p43 : lw_okq (⟨"PuppetCastModel", "pops", "()V"⟩, 55) := ⟨⟨by decide +kernel, by decide +kernel⟩, List.mem_of_getElem? (i := 821) (by decide +kernel), List.mem_of_getElem? (i := 1186) (by decide +kernel), List.mem_of_getElem? (i := 1187) (by decide +kernel)⟩
theorem lw_p44 : lw_okq (⟨"PuppetCastModel", "fails", "(I)I"⟩, 55) := ⟨⟨by decide +kernel, by decide +kernel⟩, List.mem_of_getElem? (i := 821) (by decide +kernel), List.mem_of_getElem? (i := 1190) (by decide +kernel), List.mem_of_getElem? (i := 1191) (by decide +kernel)⟩
theorem lw_p45 : lw_okq (⟨"PuppetCastModel", "lays", "(II)V"⟩, 55) := ⟨⟨by decide +kernel, by decide +kernel⟩, List.mem_of_getElem? (i := 821) (by decide +kernel), List.mem_of_getElem? (i := 1195) (by decide +kernel), List.mem_of_getElem? (i := 1196) (by decide +kernel)⟩
theorem lw_p46 : lw_okq (⟨"PuppetCastModel", "isGuard", "(I)Z"⟩, 55) := ⟨⟨by decide +kernel, by decide +kernel⟩, List.mem_of_getElem? (i := 821) (by decide +kernel), List.mem_of_getElem? (i := 1199) (by decide +kernel), List.mem_of_getElem? (i := 1200) (by decide +kernel)⟩
theorem lw_p47 : lw_okq (⟨"PuppetCastModel", "opens", "(IIII)I"⟩, 55) := ⟨⟨by decide +kernel, by decide +kernel⟩, List.mem_of_getElem? (i := 821) (by decide +kernel), List.mem_of_getElem? (i := 1203) (by decide +kernel), List.mem_of_getElem? (i := 1204) (by decide +kernel)⟩
def lw_privs_3 : List (MethodName × Nat) := [(⟨"PuppetCastModel", "tells", "(II)I"⟩, 55), (⟨"PuppetCastModel", "clashOf", "(II)I"⟩, 55), (⟨"PuppetCastModel", "isByLine", "(III)Z"⟩, 55), (⟨"PuppetCastModel", "standsUnder", "(II)Z"⟩, 55), (⟨"PuppetCastModel", "aboutOf", "(III)I"⟩, 55), (⟨"PuppetCastModel", "guardAt", "(III)I"⟩, 55), (⟨"PuppetCastModel", "bridges", "(III)I"⟩, 55), (⟨"PuppetCastModel", "against", "(III)I"⟩, 55), (⟨"PuppetCastModel", "pushLayer", "(IIIZ)V"⟩, 55), (⟨"PuppetCastModel", "pushes", "(ZIIZ)V"⟩, 55), (⟨"PuppetCastModel", "does", "(I)I"⟩, 55), (⟨"PuppetCastModel", "pops", "()V"⟩, 55), (⟨"PuppetCastModel", "fails", "(I)I"⟩, 55), (⟨"PuppetCastModel", "lays", "(II)V"⟩, 55), (⟨"PuppetCastModel", "isGuard", "(I)Z"⟩, 55), (⟨"PuppetCastModel", "opens", "(IIII)I"⟩, 55)]
theorem lw_r3 : ∀ q ∈ lw_privs_3, lw_okq q := List.forall_mem_cons.mpr ⟨lw_p32, List.forall_mem_cons.mpr ⟨lw_p33, List.forall_mem_cons.mpr ⟨lw_p34, List.forall_mem_cons.mpr ⟨lw_p35, List.forall_mem_cons.mpr ⟨lw_p36, List.forall_mem_cons.mpr ⟨lw_p37, List.forall_mem_cons.mpr ⟨lw_p38, List.forall_mem_cons.mpr ⟨lw_p39, List.forall_mem_cons.mpr ⟨lw_p40, List.forall_mem_cons.mpr ⟨lw_p41, List.forall_mem_cons.mpr ⟨lw_p42, List.forall_mem_cons.mpr ⟨lw_p43, List.forall_mem_cons.mpr ⟨lw_p44, List.forall_mem_cons.mpr ⟨lw_p45, List.forall_mem_cons.mpr ⟨lw_p46, List.forall_mem_cons.mpr ⟨lw_p47, fun _ h => absurd h List.not_mem_nil⟩⟩⟩⟩⟩⟩⟩⟩⟩⟩⟩⟩⟩⟩⟩⟩
theorem lw_p48 : lw_okq (⟨"PuppetCastModel", "pushOps", "(IIIIIZ)V"⟩, 55) := ⟨⟨by decide +kernel, by decide +kernel⟩, List.mem_of_getElem? (i := 821) (by decide +kernel), List.mem_of_getElem? (i := 1207) (by decide +kernel), List.mem_of_getElem? (i := 1208) (by decide +kernel)⟩
theorem lw_p49 : lw_okq (⟨"PuppetCastModel", "around", "(I)V"⟩, 55) := ⟨⟨by decide +kernel, by decide +kernel⟩, List.mem_of_getElem? (i := 821) (by decide +kernel), List.mem_of_getElem? (i := 1211) (by decide +kernel), List.mem_of_getElem? (i := 1212) (by decide +kernel)⟩
def lw_privs_4 : List (MethodName × Nat) := [(⟨"PuppetCastModel", "pushOps", "(IIIIIZ)V"⟩, 55), (⟨"PuppetCastModel", "around", "(I)V"⟩, 55)]
theorem lw_r4 : ∀ q ∈ lw_privs_4, lw_okq q := List.forall_mem_cons.mpr ⟨lw_p48, List.forall_mem_cons.mpr ⟨lw_p49, fun _ h => absurd h List.not_mem_nil⟩⟩
def lw_privs : List (MethodName × Nat) := lw_privs_1 ++ (lw_privs_2 ++ (lw_privs_3 ++ (lw_privs_4)))
def lw_tbl : List Cond := k2_sels lw_privs ++ tables_1
theorem lw_privs_ok : ∀ q ∈ lw_privs, lw_okq q := by
  show ∀ q ∈ lw_privs_1 ++ (lw_privs_2 ++ (lw_privs_3 ++ (lw_privs_4))), lw_okq q
  exact List.forall_mem_append.mpr ⟨lw_r1, List.forall_mem_append.mpr ⟨lw_r2, List.forall_mem_append.mpr ⟨lw_r3, lw_r4⟩⟩⟩
end
section
/-! ===== BEGIN words of one list among another's, by their places ===== -/
theorem goodIn_r {big : List Cond} (ws : List Cond) (ps : List Nat) (hp : ws = ps.filterMap (fun i => big[i]?)) (h : ws.all goodWord = true) : GoodIn big ws := by
  intro w hw
  have h1 := List.all_eq_true.mp h w hw
  rw [hp] at hw
  obtain ⟨i, -, hi⟩ := List.mem_filterMap.mp hw
  have hm : w ∈ big := by first | exact List.mem_of_getElem? hi | exact List.getElem?_mem hi
  exact ⟨hm, good_of_word h1⟩
theorem goodIn_app {big a b : List Cond} (ha : GoodIn big a) (hb : GoodIn big b) : GoodIn big (a ++ b) := fun w h => (List.mem_append.mp h).elim (ha w) (hb w)
theorem goodIn_ca {big a b : List Cond} {c : Cond} (ha : GoodIn big (c :: a)) (hb : GoodIn big b) : GoodIn big (c :: (a ++ b)) := fun w h => (List.mem_cons.mp h).elim (fun e => ha w (List.mem_cons.mpr (Or.inl e))) (fun h => (List.mem_append.mp h).elim (fun h => ha w (List.mem_cons.mpr (Or.inr h))) (hb w))
theorem goodIn_sub {big ws : List Cond} (hm : ∀ w ∈ ws, w ∈ big) (h : ws.all goodWord = true) : GoodIn big ws := fun w hw => ⟨hm w hw, good_of_word (List.all_eq_true.mp h w hw)⟩
/-! ===== END ===== -/

/-! ===== BEGIN printed: names, fields, word lists, decode rows ===== -/
def RX0 : String := "PuppetCast$Choice"
def TX0 : u_T := fun k => match k with
  | 0 => ("PuppetCast$Choice", "giver", "I", false)
  | 1 => ("PuppetCast$Choice", "part", "LPuppetCast$Part;", false)
  | 2 => ("PuppetCast$Choice", "clash", "I", false)
  | 3 => ("PuppetCast$Choice", "bridges", "I", false)
  | 4 => ("PuppetCast$Choice", "preferred", "LPuppetCast$Part;", false)
  | 5 => ("PuppetCast$Choice", "first", "LPuppetCast$Part;", false)
  | 6 => ("PuppetCast$Choice", "lineOfFirst", "LPuppetCast$Line;", false)
  | 7 => ("PuppetCast$Choice", "hasRival", "Z", false)
  | 8 => ("PuppetCast$Choice", "hasNeed", "Z", false)
  | _ => ("PuppetCast$Choice", "results", "I", false)
def tyX0 : Nat → FieldType := fun k => match k with
  | 0 => .int
  | 1 => .object "PuppetCast$Part"
  | 2 => .int
  | 3 => .int
  | 4 => .object "PuppetCast$Part"
  | 5 => .object "PuppetCast$Part"
  | 6 => .object "PuppetCast$Line"
  | 7 => .boolean
  | 8 => .boolean
  | _ => .int
abbrev wsX00 : List Cond := u_ws RX0 TX0 10
theorem nmX0 : ∀ a, a < 10 → ∀ b, b < 10 → a ≠ b → (TX0 a).2.1 ≠ (TX0 b).2.1 := by decide +kernel
theorem tyX0_ok : ∀ k, k < 10 → parseFieldDescriptor (TX0 k).2.2.1 = some (tyX0 k) := by decide +kernel
abbrev cX0_init : ByteArray := prog_2_method_1_code
def yX0_init : MethodName := ⟨RX0, "<init>", "()V"⟩
abbrev cX0_empty : ByteArray := prog_2_method_2_code
def yX0_empty : MethodName := ⟨RX0, "empty", "()V"⟩
abbrev cX0_hear : ByteArray := prog_2_method_3_code
def yX0_hear : MethodName := ⟨RX0, "hear", "(LPuppetCast$Line;LPuppetCast$Part;Z)V"⟩
abbrev cX0_settle : ByteArray := prog_2_method_4_code
def yX0_settle : MethodName := ⟨RX0, "settle", "(LPuppetCast$Part;)V"⟩
def RX1 : String := "PuppetCast$Company"
def TX1 : u_T := fun k => match k with
  | 0 => ("PuppetCast$Company", "traits", "[LPuppetCast$Trait;", true)
  | 1 => ("PuppetCast$Company", "traitCount", "I", false)
  | 2 => ("PuppetCast$Company", "figures", "[LPuppetCast$Figure;", true)
  | 3 => ("PuppetCast$Company", "figureCount", "I", false)
  | 4 => ("PuppetCast$Company", "merger", "LPuppetCast$Merger;", true)
  | _ => ("PuppetCast$Company", "choice", "LPuppetCast$Choice;", true)
def tyX1 : Nat → FieldType := fun k => match k with
  | 0 => .array (.object "PuppetCast$Trait")
  | 1 => .int
  | 2 => .array (.object "PuppetCast$Figure")
  | 3 => .int
  | 4 => .object "PuppetCast$Merger"
  | _ => .object "PuppetCast$Choice"
abbrev wsX10 : List Cond := u_ws RX1 TX1 6
theorem nmX1 : ∀ a, a < 6 → ∀ b, b < 6 → a ≠ b → (TX1 a).2.1 ≠ (TX1 b).2.1 := by decide +kernel
theorem tyX1_ok : ∀ k, k < 6 → parseFieldDescriptor (TX1 k).2.2.1 = some (tyX1 k) := by decide +kernel
abbrev cX1_init : ByteArray := prog_3_method_1_code
def yX1_init : MethodName := ⟨RX1, "<init>", "()V"⟩
abbrev cX1_traitAt : ByteArray := prog_3_method_2_code
def yX1_traitAt : MethodName := ⟨RX1, "traitAt", "(I)LPuppetCast$Trait;"⟩
abbrev cX1_figureAt : ByteArray := prog_3_method_3_code
def yX1_figureAt : MethodName := ⟨RX1, "figureAt", "(I)LPuppetCast$Figure;"⟩
abbrev cX1_canStandUnder : ByteArray := prog_3_method_4_code
def yX1_canStandUnder : MethodName := ⟨RX1, "canStandUnder", "(III)Z"⟩
abbrev cX1_isTraitOrNone : ByteArray := prog_3_method_5_code
def yX1_isTraitOrNone : MethodName := ⟨RX1, "isTraitOrNone", "(I)Z"⟩
abbrev cX1_alignsUnder : ByteArray := prog_3_method_6_code
def yX1_alignsUnder : MethodName := ⟨RX1, "alignsUnder", "(III)Z"⟩
abbrev cX1_alignsTaking : ByteArray := prog_3_method_7_code
def yX1_alignsTaking : MethodName := ⟨RX1, "alignsTaking", "(LPuppetCast$Figure;I)Z"⟩
abbrev cX1_addToMerger : ByteArray := prog_3_method_8_code
def yX1_addToMerger : MethodName := ⟨RX1, "addToMerger", "(I)V"⟩
abbrev cX1_addTrait : ByteArray := prog_3_method_9_code
def yX1_addTrait : MethodName := ⟨RX1, "addTrait", "()I"⟩
abbrev cX1_addFigure : ByteArray := prog_3_method_10_code
def yX1_addFigure : MethodName := ⟨RX1, "addFigure", "(I)I"⟩
abbrev cX1_addTaken : ByteArray := prog_3_method_11_code
def yX1_addTaken : MethodName := ⟨RX1, "addTaken", "(LPuppetCast$Figure;I)I"⟩
abbrev cX1_offered : ByteArray := prog_3_method_12_code
def yX1_offered : MethodName := ⟨RX1, "offered", "(LPuppetCast$Figure;II)LPuppetCast$Part;"⟩
abbrev cX1_bodyBy : ByteArray := prog_3_method_13_code
def yX1_bodyBy : MethodName := ⟨RX1, "bodyBy", "(LPuppetCast$Figure;II)LPuppetCast$Part;"⟩
abbrev cX1_bodyAbove : ByteArray := prog_3_method_14_code
def yX1_bodyAbove : MethodName := ⟨RX1, "bodyAbove", "(LPuppetCast$Figure;II)LPuppetCast$Part;"⟩
abbrev cX1_weigh : ByteArray := prog_3_method_15_code
def yX1_weigh : MethodName := ⟨RX1, "weigh", "(LPuppetCast$Figure;I)LPuppetCast$Choice;"⟩
abbrev cX1_aboutChosen : ByteArray := prog_3_method_16_code
def yX1_aboutChosen : MethodName := ⟨RX1, "aboutChosen", "(LPuppetCast$Figure;II)I"⟩
abbrev cX1_climb : ByteArray := prog_3_method_17_code
def yX1_climb : MethodName := ⟨RX1, "climb", "(LPuppetCast$Figure;II)I"⟩
abbrev cX1_guardAt : ByteArray := prog_3_method_18_code
def yX1_guardAt : MethodName := ⟨RX1, "guardAt", "(LPuppetCast$Figure;II)LPuppetCast$Part;"⟩
abbrev cX1_guardCount : ByteArray := prog_3_method_19_code
def yX1_guardCount : MethodName := ⟨RX1, "guardCount", "(LPuppetCast$Figure;I)I"⟩
abbrev cX1_guardingTrait : ByteArray := prog_3_method_20_code
def yX1_guardingTrait : MethodName := ⟨RX1, "guardingTrait", "(LPuppetCast$Figure;II)I"⟩
abbrev cX1_insteadPlace : ByteArray := prog_3_method_21_code
def yX1_insteadPlace : MethodName := ⟨RX1, "insteadPlace", "(LPuppetCast$Figure;II)I"⟩
abbrev cX1_countBodies : ByteArray := prog_3_method_22_code
def yX1_countBodies : MethodName := ⟨RX1, "countBodies", "()I"⟩
abbrev cX1_countGuards : ByteArray := prog_3_method_23_code
def yX1_countGuards : MethodName := ⟨RX1, "countGuards", "()I"⟩
abbrev cX1_countClashes : ByteArray := prog_3_method_24_code
def yX1_countClashes : MethodName := ⟨RX1, "countClashes", "()I"⟩
abbrev cX1_countMissing : ByteArray := prog_3_method_25_code
def yX1_countMissing : MethodName := ⟨RX1, "countMissing", "()I"⟩
abbrev cX1_digestFigure : ByteArray := prog_3_method_26_code
def yX1_digestFigure : MethodName := ⟨RX1, "digestFigure", "(JLPuppetCast$Figure;)J"⟩
def RX2 : String := "PuppetCast$Figure"
def TX2 : u_T := fun k => match k with
  | 0 => ("PuppetCast$Figure", "number", "I", true)
  | 1 => ("PuppetCast$Figure", "troupe", "I", true)
  | 2 => ("PuppetCast$Figure", "line", "LPuppetCast$Line;", true)
  | 3 => ("PuppetCast$Figure", "taken", "[I", true)
  | 4 => ("PuppetCast$Figure", "takenCount", "I", false)
  | 5 => ("PuppetCast$Figure", "ownBodies", "[LPuppetCast$Part;", true)
  | 6 => ("PuppetCast$Figure", "left", "[Z", true)
  | 7 => ("PuppetCast$Figure", "leftCount", "I", false)
  | 8 => ("PuppetCast$Figure", "names", "[I", true)
  | 9 => ("PuppetCast$Figure", "origins", "[I", true)
  | 10 => ("PuppetCast$Figure", "renamedCount", "I", false)
  | 11 => ("PuppetCast$Figure", "preferred", "[I", true)
  | _ => ("PuppetCast$Figure", "moods", "[J", true)
def tyX2 : Nat → FieldType := fun k => match k with
  | 0 => .int
  | 1 => .int
  | 2 => .object "PuppetCast$Line"
  | 3 => .array .int
  | 4 => .int
  | 5 => .array (.object "PuppetCast$Part")
  | 6 => .array .boolean
  | 7 => .int
  | 8 => .array .int
  | 9 => .array .int
  | 10 => .int
  | 11 => .array .int
  | _ => .array .long
abbrev wsX20 : List Cond := u_ws RX2 TX2 13
theorem nmX2 : ∀ a, a < 13 → ∀ b, b < 13 → a ≠ b → (TX2 a).2.1 ≠ (TX2 b).2.1 := by decide +kernel
theorem tyX2_ok : ∀ k, k < 13 → parseFieldDescriptor (TX2 k).2.2.1 = some (tyX2 k) := by decide +kernel
abbrev cX2_init : ByteArray := prog_4_method_1_code
def yX2_init : MethodName := ⟨RX2, "<init>", "(II)V"⟩
abbrev cX2_slot : ByteArray := prog_4_method_2_code
def yX2_slot : MethodName := ⟨RX2, "slot", "(II)I"⟩
abbrev cX2_takenAt : ByteArray := prog_4_method_3_code
def yX2_takenAt : MethodName := ⟨RX2, "takenAt", "(I)I"⟩
abbrev cX2_hasTaken : ByteArray := prog_4_method_4_code
def yX2_hasTaken : MethodName := ⟨RX2, "hasTaken", "(I)Z"⟩
abbrev cX2_addTaken : ByteArray := prog_4_method_5_code
def yX2_addTaken : MethodName := ⟨RX2, "addTaken", "(I)V"⟩
abbrev cX2_ownBody : ByteArray := prog_4_method_6_code
def yX2_ownBody : MethodName := ⟨RX2, "ownBody", "(I)LPuppetCast$Part;"⟩
abbrev cX2_setOwnBody : ByteArray := prog_4_method_7_code
def yX2_setOwnBody : MethodName := ⟨RX2, "setOwnBody", "(ILPuppetCast$Part;)V"⟩
abbrev cX2_leaves : ByteArray := prog_4_method_8_code
def yX2_leaves : MethodName := ⟨RX2, "leaves", "(II)Z"⟩
abbrev cX2_addLeft : ByteArray := prog_4_method_9_code
def yX2_addLeft : MethodName := ⟨RX2, "addLeft", "(II)I"⟩
abbrev cX2_nameOf : ByteArray := prog_4_method_10_code
def yX2_nameOf : MethodName := ⟨RX2, "nameOf", "(II)I"⟩
abbrev cX2_originOf : ByteArray := prog_4_method_11_code
def yX2_originOf : MethodName := ⟨RX2, "originOf", "(II)I"⟩
abbrev cX2_addRenamed : ByteArray := prog_4_method_12_code
def yX2_addRenamed : MethodName := ⟨RX2, "addRenamed", "(III)I"⟩
abbrev cX2_sourceOf : ByteArray := prog_4_method_13_code
def yX2_sourceOf : MethodName := ⟨RX2, "sourceOf", "(II)I"⟩
abbrev cX2_preferredFor : ByteArray := prog_4_method_14_code
def yX2_preferredFor : MethodName := ⟨RX2, "preferredFor", "(I)I"⟩
abbrev cX2_swapPreferred : ByteArray := prog_4_method_15_code
def yX2_swapPreferred : MethodName := ⟨RX2, "swapPreferred", "(II)I"⟩
abbrev cX2_moodAt : ByteArray := prog_4_method_16_code
def yX2_moodAt : MethodName := ⟨RX2, "moodAt", "(I)J"⟩
abbrev cX2_putMood : ByteArray := prog_4_method_17_code
def yX2_putMood : MethodName := ⟨RX2, "putMood", "(IJ)V"⟩
def RX3 : String := "PuppetCast$Line"
def TX3 : u_T := fun k => match k with
  | 0 => ("PuppetCast$Line", "row", "[I", true)
  | 1 => ("PuppetCast$Line", "places", "[I", true)
  | _ => ("PuppetCast$Line", "length", "I", false)
def tyX3 : Nat → FieldType := fun k => match k with
  | 0 => .array .int
  | 1 => .array .int
  | _ => .int
abbrev wsX30 : List Cond := u_ws RX3 TX3 3
theorem nmX3 : ∀ a, a < 3 → ∀ b, b < 3 → a ≠ b → (TX3 a).2.1 ≠ (TX3 b).2.1 := by decide +kernel
theorem tyX3_ok : ∀ k, k < 3 → parseFieldDescriptor (TX3 k).2.2.1 = some (tyX3 k) := by decide +kernel
abbrev cX3_init : ByteArray := prog_5_method_1_code
def yX3_init : MethodName := ⟨RX3, "<init>", "()V"⟩
abbrev cX3_empty : ByteArray := prog_5_method_2_code
def yX3_empty : MethodName := ⟨RX3, "empty", "()V"⟩
abbrev cX3_add : ByteArray := prog_5_method_3_code
def yX3_add : MethodName := ⟨RX3, "add", "(I)V"⟩
abbrev cX3_addAll : ByteArray := prog_5_method_4_code
def yX3_addAll : MethodName := ⟨RX3, "addAll", "(LPuppetCast$Line;)V"⟩
abbrev cX3_at : ByteArray := prog_5_method_5_code
def yX3_at : MethodName := ⟨RX3, "at", "(I)I"⟩
abbrev cX3_placeOf : ByteArray := prog_5_method_6_code
def yX3_placeOf : MethodName := ⟨RX3, "placeOf", "(I)I"⟩
abbrev cX3_has : ByteArray := prog_5_method_7_code
def yX3_has : MethodName := ⟨RX3, "has", "(I)Z"⟩
def RX4 : String := "PuppetCast$Merger"
def TX4 : u_T := fun k => match k with
  | 0 => ("PuppetCast$Merger", "rows", "[LPuppetCast$Line;", true)
  | 1 => ("PuppetCast$Merger", "firsts", "[I", true)
  | 2 => ("PuppetCast$Merger", "givers", "LPuppetCast$Line;", true)
  | 3 => ("PuppetCast$Merger", "merged", "LPuppetCast$Line;", true)
  | _ => ("PuppetCast$Merger", "count", "I", false)
def tyX4 : Nat → FieldType := fun k => match k with
  | 0 => .array (.object "PuppetCast$Line")
  | 1 => .array .int
  | 2 => .object "PuppetCast$Line"
  | 3 => .object "PuppetCast$Line"
  | _ => .int
abbrev wsX40 : List Cond := u_ws RX4 TX4 5
theorem nmX4 : ∀ a, a < 5 → ∀ b, b < 5 → a ≠ b → (TX4 a).2.1 ≠ (TX4 b).2.1 := by decide +kernel
theorem tyX4_ok : ∀ k, k < 5 → parseFieldDescriptor (TX4 k).2.2.1 = some (tyX4 k) := by decide +kernel
abbrev cX4_init : ByteArray := prog_6_method_1_code
def yX4_init : MethodName := ⟨RX4, "<init>", "()V"⟩
abbrev cX4_begin : ByteArray := prog_6_method_2_code
def yX4_begin : MethodName := ⟨RX4, "begin", "()V"⟩
abbrev cX4_addGiver : ByteArray := prog_6_method_3_code
def yX4_addGiver : MethodName := ⟨RX4, "addGiver", "(ILPuppetCast$Line;)V"⟩
abbrev cX4_addRow : ByteArray := prog_6_method_4_code
def yX4_addRow : MethodName := ⟨RX4, "addRow", "(LPuppetCast$Line;)V"⟩
abbrev cX4_merges : ByteArray := prog_6_method_5_code
def yX4_merges : MethodName := ⟨RX4, "merges", "()Z"⟩
abbrev cX4_nextTrait : ByteArray := prog_6_method_6_code
def yX4_nextTrait : MethodName := ⟨RX4, "nextTrait", "()I"⟩
abbrev cX4_firstOf : ByteArray := prog_6_method_7_code
def yX4_firstOf : MethodName := ⟨RX4, "firstOf", "(I)I"⟩
abbrev cX4_standsBehind : ByteArray := prog_6_method_8_code
def yX4_standsBehind : MethodName := ⟨RX4, "standsBehind", "(I)Z"⟩
abbrev cX4_strike : ByteArray := prog_6_method_9_code
def yX4_strike : MethodName := ⟨RX4, "strike", "(I)V"⟩
abbrev cX4_allDone : ByteArray := prog_6_method_10_code
def yX4_allDone : MethodName := ⟨RX4, "allDone", "()Z"⟩
def RX5 : String := "PuppetCast$Part"
def TX5 : u_T := fun k => match k with
  | 0 => ("PuppetCast$Part", "giver", "I", true)
  | 1 => ("PuppetCast$Part", "sort", "I", true)
  | 2 => ("PuppetCast$Part", "reach", "I", true)
  | 3 => ("PuppetCast$Part", "result", "I", true)
  | 4 => ("PuppetCast$Part", "isNeed", "Z", true)
  | 5 => ("PuppetCast$Part", "kinds", "[I", true)
  | 6 => ("PuppetCast$Part", "firsts", "[I", true)
  | 7 => ("PuppetCast$Part", "seconds", "[I", true)
  | _ => ("PuppetCast$Part", "size", "I", false)
def tyX5 : Nat → FieldType := fun k => match k with
  | 0 => .int
  | 1 => .int
  | 2 => .int
  | 3 => .int
  | 4 => .boolean
  | 5 => .array .int
  | 6 => .array .int
  | 7 => .array .int
  | _ => .int
abbrev wsX50 : List Cond := u_ws RX5 TX5 9
theorem nmX5 : ∀ a, a < 9 → ∀ b, b < 9 → a ≠ b → (TX5 a).2.1 ≠ (TX5 b).2.1 := by decide +kernel
theorem tyX5_ok : ∀ k, k < 9 → parseFieldDescriptor (TX5 k).2.2.1 = some (tyX5 k) := by decide +kernel
abbrev cX5_init : ByteArray := prog_7_method_1_code
def yX5_init : MethodName := ⟨RX5, "<init>", "(IIIIZ)V"⟩
abbrev cX5_addOp : ByteArray := prog_7_method_2_code
def yX5_addOp : MethodName := ⟨RX5, "addOp", "(III)I"⟩
abbrev cX5_kindAt : ByteArray := prog_7_method_3_code
def yX5_kindAt : MethodName := ⟨RX5, "kindAt", "(I)I"⟩
abbrev cX5_firstAt : ByteArray := prog_7_method_4_code
def yX5_firstAt : MethodName := ⟨RX5, "firstAt", "(I)I"⟩
abbrev cX5_secondAt : ByteArray := prog_7_method_5_code
def yX5_secondAt : MethodName := ⟨RX5, "secondAt", "(I)I"⟩
abbrev cX5_isGuard : ByteArray := prog_7_method_6_code
def yX5_isGuard : MethodName := ⟨RX5, "isGuard", "()Z"⟩
abbrev cX5_opens : ByteArray := prog_7_method_7_code
def yX5_opens : MethodName := ⟨RX5, "opens", "(I)Z"⟩
def RX6 : String := "PuppetCast$Stage"
def TX6 : u_T := fun k => match k with
  | 0 => ("PuppetCast$Stage", "company", "LPuppetCast$Company;", true)
  | 1 => ("PuppetCast$Stage", "tape", "LPuppetCast$Tape;", true)
  | 2 => ("PuppetCast$Stage", "failure", "I", false)
  | 3 => ("PuppetCast$Stage", "thrown", "I", false)
  | 4 => ("PuppetCast$Stage", "opsDone", "I", false)
  | 5 => ("PuppetCast$Stage", "mostOpen", "I", false)
  | _ => ("PuppetCast$Stage", "outcome", "J", false)
def tyX6 : Nat → FieldType := fun k => match k with
  | 0 => .object "PuppetCast$Company"
  | 1 => .object "PuppetCast$Tape"
  | 2 => .int
  | 3 => .int
  | 4 => .int
  | 5 => .int
  | _ => .long
abbrev wsX60 : List Cond := u_ws RX6 TX6 7
theorem nmX6 : ∀ a, a < 7 → ∀ b, b < 7 → a ≠ b → (TX6 a).2.1 ≠ (TX6 b).2.1 := by decide +kernel
theorem tyX6_ok : ∀ k, k < 7 → parseFieldDescriptor (TX6 k).2.2.1 = some (tyX6 k) := by decide +kernel
abbrev cX6_init : ByteArray := prog_8_method_1_code
def yX6_init : MethodName := ⟨RX6, "<init>", "(LPuppetCast$Company;)V"⟩
abbrev cX6_perform : ByteArray := prog_8_method_2_code
def yX6_perform : MethodName := ⟨RX6, "perform", "(LPuppetCast$Figure;IJ)I"⟩
abbrev cX6_tellingOf : ByteArray := prog_8_method_3_code
def yX6_tellingOf : MethodName := ⟨RX6, "tellingOf", "(I)J"⟩
abbrev cX6_fail : ByteArray := prog_8_method_4_code
def yX6_fail : MethodName := ⟨RX6, "fail", "(I)J"⟩
abbrev cX6_callAct : ByteArray := prog_8_method_5_code
def yX6_callAct : MethodName := ⟨RX6, "callAct", "(LPuppetCast$Figure;LPuppetCast$Figure;IJI)J"⟩
abbrev cX6_isInReach : ByteArray := prog_8_method_6_code
def yX6_isInReach : MethodName := ⟨RX6, "isInReach", "(ILPuppetCast$Figure;LPuppetCast$Figure;)Z"⟩
abbrev cX6_goWithin : ByteArray := prog_8_method_7_code
def yX6_goWithin : MethodName := ⟨RX6, "goWithin", "(LPuppetCast$Figure;IIJI)J"⟩
abbrev cX6_doOps : ByteArray := prog_8_method_8_code
def yX6_doOps : MethodName := ⟨RX6, "doOps", "(LPuppetCast$Part;LPuppetCast$Figure;IIJI)J"⟩
abbrev cX6_doPlain : ByteArray := prog_8_method_9_code
def yX6_doPlain : MethodName := ⟨RX6, "doPlain", "(LPuppetCast$Part;ILPuppetCast$Figure;IJ)J"⟩
abbrev cX6_doOpening : ByteArray := prog_8_method_10_code
def yX6_doOpening : MethodName := ⟨RX6, "doOpening", "(LPuppetCast$Part;ILPuppetCast$Figure;IIJI)J"⟩
abbrev cX6_partAbove : ByteArray := prog_8_method_11_code
def yX6_partAbove : MethodName := ⟨RX6, "partAbove", "(LPuppetCast$Part;LPuppetCast$Figure;I)LPuppetCast$Part;"⟩
abbrev cX6_takeFailureAway : ByteArray := prog_8_method_12_code
def yX6_takeFailureAway : MethodName := ⟨RX6, "takeFailureAway", "(J)J"⟩
def RX7 : String := "PuppetCast$Tape"
def TX7 : u_T := fun k => match k with
  | 0 => ("PuppetCast$Tape", "cells", "[J", true)
  | _ => ("PuppetCast$Tape", "size", "I", false)
def tyX7 : Nat → FieldType := fun k => match k with
  | 0 => .array .long
  | _ => .int
abbrev wsX70 : List Cond := u_ws RX7 TX7 2
theorem nmX7 : ∀ a, a < 2 → ∀ b, b < 2 → a ≠ b → (TX7 a).2.1 ≠ (TX7 b).2.1 := by decide +kernel
theorem tyX7_ok : ∀ k, k < 2 → parseFieldDescriptor (TX7 k).2.2.1 = some (tyX7 k) := by decide +kernel
abbrev cX7_init : ByteArray := prog_9_method_1_code
def yX7_init : MethodName := ⟨RX7, "<init>", "()V"⟩
abbrev cX7_add : ByteArray := prog_9_method_2_code
def yX7_add : MethodName := ⟨RX7, "add", "(IIIIJ)V"⟩
abbrev cX7_cell : ByteArray := prog_9_method_3_code
def yX7_cell : MethodName := ⟨RX7, "cell", "(II)J"⟩
def RX8 : String := "PuppetCast$Trait"
def TX8 : u_T := fun k => match k with
  | 0 => ("PuppetCast$Trait", "line", "LPuppetCast$Line;", true)
  | 1 => ("PuppetCast$Trait", "bodies", "[LPuppetCast$Part;", true)
  | _ => ("PuppetCast$Trait", "guards", "[LPuppetCast$Part;", true)
def tyX8 : Nat → FieldType := fun k => match k with
  | 0 => .object "PuppetCast$Line"
  | 1 => .array (.object "PuppetCast$Part")
  | _ => .array (.object "PuppetCast$Part")
abbrev wsX80 : List Cond := u_ws RX8 TX8 3
theorem nmX8 : ∀ a, a < 3 → ∀ b, b < 3 → a ≠ b → (TX8 a).2.1 ≠ (TX8 b).2.1 := by decide +kernel
theorem tyX8_ok : ∀ k, k < 3 → parseFieldDescriptor (TX8 k).2.2.1 = some (tyX8 k) := by decide +kernel
abbrev cX8_init : ByteArray := prog_10_method_1_code
def yX8_init : MethodName := ⟨RX8, "<init>", "()V"⟩
abbrev cX8_bodyFor : ByteArray := prog_10_method_2_code
def yX8_bodyFor : MethodName := ⟨RX8, "bodyFor", "(I)LPuppetCast$Part;"⟩
abbrev cX8_setBody : ByteArray := prog_10_method_3_code
def yX8_setBody : MethodName := ⟨RX8, "setBody", "(ILPuppetCast$Part;)V"⟩
abbrev cX8_guardFor : ByteArray := prog_10_method_4_code
def yX8_guardFor : MethodName := ⟨RX8, "guardFor", "(I)LPuppetCast$Part;"⟩
abbrev cX8_setGuard : ByteArray := prog_10_method_5_code
def yX8_setGuard : MethodName := ⟨RX8, "setGuard", "(ILPuppetCast$Part;)V"⟩
abbrev cX8_countBodies : ByteArray := prog_10_method_6_code
def yX8_countBodies : MethodName := ⟨RX8, "countBodies", "()I"⟩
abbrev cX8_countGuards : ByteArray := prog_10_method_7_code
def yX8_countGuards : MethodName := ⟨RX8, "countGuards", "()I"⟩
def RX9 : String := "PuppetCast"
def TX9 : u_T := fun k => match k with
  | 0 => ("PuppetCast", "company", "LPuppetCast$Company;", true)
  | 1 => ("PuppetCast", "stage", "LPuppetCast$Stage;", true)
  | _ => ("PuppetCast", "latest", "LPuppetCast$Part;", false)
def tyX9 : Nat → FieldType := fun k => match k with
  | 0 => .object "PuppetCast$Company"
  | 1 => .object "PuppetCast$Stage"
  | _ => .object "PuppetCast$Part"
abbrev wsX90 : List Cond := u_ws RX9 TX9 3
theorem nmX9 : ∀ a, a < 3 → ∀ b, b < 3 → a ≠ b → (TX9 a).2.1 ≠ (TX9 b).2.1 := by decide +kernel
theorem tyX9_ok : ∀ k, k < 3 → parseFieldDescriptor (TX9 k).2.2.1 = some (tyX9 k) := by decide +kernel
abbrev cX9_init : ByteArray := prog_1_method_1_code
def yX9_init : MethodName := ⟨RX9, "<init>", "()V"⟩
abbrev cX9_trait : ByteArray := prog_1_method_2_code
def yX9_trait : MethodName := ⟨RX9, "trait", "(III)I"⟩
abbrev cX9_character : ByteArray := prog_1_method_3_code
def yX9_character : MethodName := ⟨RX9, "character", "(I)I"⟩
abbrev cX9_takes : ByteArray := prog_1_method_4_code
def yX9_takes : MethodName := ⟨RX9, "takes", "(II)I"⟩
abbrev cX9_body : ByteArray := prog_1_method_5_code
def yX9_body : MethodName := ⟨RX9, "body", "(IIII)I"⟩
abbrev cX9_need : ByteArray := prog_1_method_6_code
def yX9_need : MethodName := ⟨RX9, "need", "(III)I"⟩
abbrev cX9_guard : ByteArray := prog_1_method_7_code
def yX9_guard : MethodName := ⟨RX9, "guard", "(III)I"⟩
abbrev cX9_own : ByteArray := prog_1_method_8_code
def yX9_own : MethodName := ⟨RX9, "own", "(IIII)I"⟩
abbrev cX9_op : ByteArray := prog_1_method_9_code
def yX9_op : MethodName := ⟨RX9, "op", "(III)I"⟩
abbrev cX9_leave : ByteArray := prog_1_method_10_code
def yX9_leave : MethodName := ⟨RX9, "leave", "(III)I"⟩
abbrev cX9_rename : ByteArray := prog_1_method_11_code
def yX9_rename : MethodName := ⟨RX9, "rename", "(IIII)I"⟩
abbrev cX9_prefer : ByteArray := prog_1_method_12_code
def yX9_prefer : MethodName := ⟨RX9, "prefer", "(III)I"⟩
abbrev cX9_lineOf : ByteArray := prog_1_method_13_code
def yX9_lineOf : MethodName := ⟨RX9, "lineOf", "(II)I"⟩
abbrev cX9_line : ByteArray := prog_1_method_14_code
def yX9_line : MethodName := ⟨RX9, "line", "(II)I"⟩
abbrev cX9_chosen : ByteArray := prog_1_method_15_code
def yX9_chosen : MethodName := ⟨RX9, "chosen", "(II)I"⟩
abbrev cX9_clash : ByteArray := prog_1_method_16_code
def yX9_clash : MethodName := ⟨RX9, "clash", "(II)I"⟩
abbrev cX9_about : ByteArray := prog_1_method_17_code
def yX9_about : MethodName := ⟨RX9, "about", "(III)I"⟩
abbrev cX9_above : ByteArray := prog_1_method_18_code
def yX9_above : MethodName := ⟨RX9, "above", "(III)I"⟩
abbrev cX9_guards : ByteArray := prog_1_method_19_code
def yX9_guards : MethodName := ⟨RX9, "guards", "(III)I"⟩
abbrev cX9_isA : ByteArray := prog_1_method_20_code
def yX9_isA : MethodName := ⟨RX9, "isA", "(II)I"⟩
abbrev cX9_play : ByteArray := prog_1_method_21_code
def yX9_play : MethodName := ⟨RX9, "play", "(IIJ)I"⟩
abbrev cX9_told : ByteArray := prog_1_method_22_code
def yX9_told : MethodName := ⟨RX9, "told", "(I)J"⟩
abbrev cX9_marks : ByteArray := prog_1_method_23_code
def yX9_marks : MethodName := ⟨RX9, "marks", "()I"⟩
abbrev cX9_mark : ByteArray := prog_1_method_24_code
def yX9_mark : MethodName := ⟨RX9, "mark", "(II)J"⟩
abbrev cX9_mood : ByteArray := prog_1_method_25_code
def yX9_mood : MethodName := ⟨RX9, "mood", "(II)J"⟩
abbrev cX9_setMood : ByteArray := prog_1_method_26_code
def yX9_setMood : MethodName := ⟨RX9, "setMood", "(IIJ)I"⟩
abbrev cX9_count : ByteArray := prog_1_method_27_code
def yX9_count : MethodName := ⟨RX9, "count", "(I)I"⟩
abbrev cX9_digest : ByteArray := prog_1_method_28_code
def yX9_digest : MethodName := ⟨RX9, "digest", "()J"⟩
abbrev cX9_isBelow : ByteArray := prog_1_method_29_code
def yX9_isBelow : MethodName := ⟨RX9, "isBelow", "(II)Z"⟩
abbrev cX9_isAct : ByteArray := prog_1_method_30_code
def yX9_isAct : MethodName := ⟨RX9, "isAct", "(I)Z"⟩
abbrev cX9_isOp : ByteArray := prog_1_method_31_code
def yX9_isOp : MethodName := ⟨RX9, "isOp", "(III)Z"⟩
def RX10 : String := "PuppetCastModel"
def TX10 : u_T := fun k => match k with
  | 0 => ("PuppetCastModel", "traits", "I", false)
  | 1 => ("PuppetCastModel", "traitLine", "[I", true)
  | 2 => ("PuppetCastModel", "traitLong", "[I", true)
  | 3 => ("PuppetCastModel", "characters", "I", false)
  | 4 => ("PuppetCastModel", "troupe", "[I", true)
  | 5 => ("PuppetCastModel", "taken", "[I", true)
  | 6 => ("PuppetCastModel", "takenMany", "[I", true)
  | 7 => ("PuppetCastModel", "charLine", "[I", true)
  | 8 => ("PuppetCastModel", "charLong", "[I", true)
  | 9 => ("PuppetCastModel", "moods", "[J", true)
  | 10 => ("PuppetCastModel", "has", "[Z", true)
  | 11 => ("PuppetCastModel", "isNeed", "[Z", true)
  | 12 => ("PuppetCastModel", "reach", "[I", true)
  | 13 => ("PuppetCastModel", "result", "[I", true)
  | 14 => ("PuppetCastModel", "sort", "[I", true)
  | 15 => ("PuppetCastModel", "opMany", "[I", true)
  | 16 => ("PuppetCastModel", "opKind", "[I", true)
  | 17 => ("PuppetCastModel", "opA", "[I", true)
  | 18 => ("PuppetCastModel", "opB", "[I", true)
  | 19 => ("PuppetCastModel", "latest", "I", false)
  | 20 => ("PuppetCastModel", "leftMany", "[I", true)
  | 21 => ("PuppetCastModel", "leftTrait", "[I", true)
  | 22 => ("PuppetCastModel", "leftAct", "[I", true)
  | 23 => ("PuppetCastModel", "namedMany", "[I", true)
  | 24 => ("PuppetCastModel", "namedTrait", "[I", true)
  | 25 => ("PuppetCastModel", "namedAct", "[I", true)
  | 26 => ("PuppetCastModel", "namedName", "[I", true)
  | 27 => ("PuppetCastModel", "preferred", "[I", true)
  | 28 => ("PuppetCastModel", "parts", "[I", true)
  | 29 => ("PuppetCastModel", "partMany", "I", false)
  | 30 => ("PuppetCastModel", "from", "[I", true)
  | 31 => ("PuppetCastModel", "merged", "[I", true)
  | 32 => ("PuppetCastModel", "isOps", "[Z", true)
  | 33 => ("PuppetCastModel", "who", "[I", true)
  | 34 => ("PuppetCastModel", "called", "[I", true)
  | 35 => ("PuppetCastModel", "code", "[I", true)
  | 36 => ("PuppetCastModel", "place", "[I", true)
  | 37 => ("PuppetCastModel", "next", "[I", true)
  | 38 => ("PuppetCastModel", "layer", "[I", true)
  | 39 => ("PuppetCastModel", "state", "[I", true)
  | 40 => ("PuppetCastModel", "opened", "[Z", true)
  | 41 => ("PuppetCastModel", "tries", "[Z", true)
  | 42 => ("PuppetCastModel", "deep", "I", false)
  | 43 => ("PuppetCastModel", "value", "J", false)
  | 44 => ("PuppetCastModel", "told", "J", false)
  | 45 => ("PuppetCastModel", "by", "I", false)
  | 46 => ("PuppetCastModel", "did", "I", false)
  | 47 => ("PuppetCastModel", "open", "I", false)
  | 48 => ("PuppetCastModel", "most", "I", false)
  | 49 => ("PuppetCastModel", "marks", "I", false)
  | 50 => ("PuppetCastModel", "markWho", "[I", true)
  | 51 => ("PuppetCastModel", "markGiver", "[I", true)
  | 52 => ("PuppetCastModel", "markAct", "[I", true)
  | 53 => ("PuppetCastModel", "markA", "[I", true)
  | _ => ("PuppetCastModel", "markValue", "[J", true)
def tyX10 : Nat → FieldType := fun k => match k with
  | 0 => .int
  | 1 => .array .int
  | 2 => .array .int
  | 3 => .int
  | 4 => .array .int
  | 5 => .array .int
  | 6 => .array .int
  | 7 => .array .int
  | 8 => .array .int
  | 9 => .array .long
  | 10 => .array .boolean
  | 11 => .array .boolean
  | 12 => .array .int
  | 13 => .array .int
  | 14 => .array .int
  | 15 => .array .int
  | 16 => .array .int
  | 17 => .array .int
  | 18 => .array .int
  | 19 => .int
  | 20 => .array .int
  | 21 => .array .int
  | 22 => .array .int
  | 23 => .array .int
  | 24 => .array .int
  | 25 => .array .int
  | 26 => .array .int
  | 27 => .array .int
  | 28 => .array .int
  | 29 => .int
  | 30 => .array .int
  | 31 => .array .int
  | 32 => .array .boolean
  | 33 => .array .int
  | 34 => .array .int
  | 35 => .array .int
  | 36 => .array .int
  | 37 => .array .int
  | 38 => .array .int
  | 39 => .array .int
  | 40 => .array .boolean
  | 41 => .array .boolean
  | 42 => .int
  | 43 => .long
  | 44 => .long
  | 45 => .int
  | 46 => .int
  | 47 => .int
  | 48 => .int
  | 49 => .int
  | 50 => .array .int
  | 51 => .array .int
  | 52 => .array .int
  | 53 => .array .int
  | _ => .array .long
abbrev wsX100 : List Cond := u_ws RX10 TX10 55
theorem nmX10 : ∀ a, a < 55 → ∀ b, b < 55 → a ≠ b → (TX10 a).2.1 ≠ (TX10 b).2.1 := by decide +kernel
theorem tyX10_ok : ∀ k, k < 55 → parseFieldDescriptor (TX10 k).2.2.1 = some (tyX10 k) := by decide +kernel
abbrev cX10_init : ByteArray := prog_12_method_1_code
def yX10_init : MethodName := ⟨RX10, "<init>", "()V"⟩
abbrev cX10_in : ByteArray := prog_12_method_3_code
def yX10_in : MethodName := ⟨RX10, "in", "(III)Z"⟩
abbrev cX10_isTrait : ByteArray := prog_12_method_4_code
def yX10_isTrait : MethodName := ⟨RX10, "isTrait", "(I)Z"⟩
abbrev cX10_isCharacter : ByteArray := prog_12_method_5_code
def yX10_isCharacter : MethodName := ⟨RX10, "isCharacter", "(I)Z"⟩
abbrev cX10_isAct : ByteArray := prog_12_method_6_code
def yX10_isAct : MethodName := ⟨RX10, "isAct", "(I)Z"⟩
abbrev cX10_placeOf : ByteArray := prog_12_method_7_code
def yX10_placeOf : MethodName := ⟨RX10, "placeOf", "(II)I"⟩
abbrev cX10_isBehind : ByteArray := prog_12_method_8_code
def yX10_isBehind : MethodName := ⟨RX10, "isBehind", "(I)Z"⟩
abbrev cX10_merge : ByteArray := prog_12_method_9_code
def yX10_merge : MethodName := ⟨RX10, "merge", "()I"⟩
abbrev cX10_mayBeUnder : ByteArray := prog_12_method_10_code
def yX10_mayBeUnder : MethodName := ⟨RX10, "mayBeUnder", "(I)Z"⟩
abbrev cX10_trait : ByteArray := prog_12_method_11_code
def yX10_trait : MethodName := ⟨RX10, "trait", "(III)I"⟩
abbrev cX10_character : ByteArray := prog_12_method_12_code
def yX10_character : MethodName := ⟨RX10, "character", "(I)I"⟩
abbrev cX10_takes : ByteArray := prog_12_method_13_code
def yX10_takes : MethodName := ⟨RX10, "takes", "(II)I"⟩
abbrev cX10_begins : ByteArray := prog_12_method_14_code
def yX10_begins : MethodName := ⟨RX10, "begins", "(I)I"⟩
abbrev cX10_body : ByteArray := prog_12_method_15_code
def yX10_body : MethodName := ⟨RX10, "body", "(IIII)I"⟩
abbrev cX10_need : ByteArray := prog_12_method_16_code
def yX10_need : MethodName := ⟨RX10, "need", "(III)I"⟩
abbrev cX10_guard : ByteArray := prog_12_method_17_code
def yX10_guard : MethodName := ⟨RX10, "guard", "(III)I"⟩
abbrev cX10_own : ByteArray := prog_12_method_18_code
def yX10_own : MethodName := ⟨RX10, "own", "(IIII)I"⟩
abbrev cX10_isOp : ByteArray := prog_12_method_19_code
def yX10_isOp : MethodName := ⟨RX10, "isOp", "(III)Z"⟩
abbrev cX10_op : ByteArray := prog_12_method_20_code
def yX10_op : MethodName := ⟨RX10, "op", "(III)I"⟩
abbrev cX10_leaves : ByteArray := prog_12_method_21_code
def yX10_leaves : MethodName := ⟨RX10, "leaves", "(III)Z"⟩
abbrev cX10_renamed : ByteArray := prog_12_method_22_code
def yX10_renamed : MethodName := ⟨RX10, "renamed", "(III)I"⟩
abbrev cX10_named : ByteArray := prog_12_method_23_code
def yX10_named : MethodName := ⟨RX10, "named", "(III)I"⟩
abbrev cX10_leave : ByteArray := prog_12_method_24_code
def yX10_leave : MethodName := ⟨RX10, "leave", "(III)I"⟩
abbrev cX10_rename : ByteArray := prog_12_method_25_code
def yX10_rename : MethodName := ⟨RX10, "rename", "(IIII)I"⟩
abbrev cX10_prefer : ByteArray := prog_12_method_26_code
def yX10_prefer : MethodName := ⟨RX10, "prefer", "(III)I"⟩
abbrev cX10_placeIn : ByteArray := prog_12_method_27_code
def yX10_placeIn : MethodName := ⟨RX10, "placeIn", "(II)I"⟩
abbrev cX10_offers : ByteArray := prog_12_method_28_code
def yX10_offers : MethodName := ⟨RX10, "offers", "(III)I"⟩
abbrev cX10_firstFrom : ByteArray := prog_12_method_29_code
def yX10_firstFrom : MethodName := ⟨RX10, "firstFrom", "(III)I"⟩
abbrev cX10_choose : ByteArray := prog_12_method_30_code
def yX10_choose : MethodName := ⟨RX10, "choose", "(II)I"⟩
abbrev cX10_standsUnder : ByteArray := prog_12_method_31_code
def yX10_standsUnder : MethodName := ⟨RX10, "standsUnder", "(II)Z"⟩
abbrev cX10_isByLine : ByteArray := prog_12_method_32_code
def yX10_isByLine : MethodName := ⟨RX10, "isByLine", "(III)Z"⟩
abbrev cX10_clashOf : ByteArray := prog_12_method_33_code
def yX10_clashOf : MethodName := ⟨RX10, "clashOf", "(II)I"⟩
abbrev cX10_tells : ByteArray := prog_12_method_34_code
def yX10_tells : MethodName := ⟨RX10, "tells", "(II)I"⟩
abbrev cX10_chosenOf : ByteArray := prog_12_method_35_code
def yX10_chosenOf : MethodName := ⟨RX10, "chosenOf", "(II)I"⟩
abbrev cX10_bridges : ByteArray := prog_12_method_36_code
def yX10_bridges : MethodName := ⟨RX10, "bridges", "(III)I"⟩
abbrev cX10_guardAt : ByteArray := prog_12_method_37_code
def yX10_guardAt : MethodName := ⟨RX10, "guardAt", "(III)I"⟩
abbrev cX10_lineOf : ByteArray := prog_12_method_38_code
def yX10_lineOf : MethodName := ⟨RX10, "lineOf", "(II)I"⟩
abbrev cX10_line : ByteArray := prog_12_method_39_code
def yX10_line : MethodName := ⟨RX10, "line", "(II)I"⟩
abbrev cX10_chosen : ByteArray := prog_12_method_40_code
def yX10_chosen : MethodName := ⟨RX10, "chosen", "(II)I"⟩
abbrev cX10_clash : ByteArray := prog_12_method_41_code
def yX10_clash : MethodName := ⟨RX10, "clash", "(II)I"⟩
abbrev cX10_aboutOf : ByteArray := prog_12_method_42_code
def yX10_aboutOf : MethodName := ⟨RX10, "aboutOf", "(III)I"⟩
abbrev cX10_about : ByteArray := prog_12_method_43_code
def yX10_about : MethodName := ⟨RX10, "about", "(III)I"⟩
abbrev cX10_above : ByteArray := prog_12_method_44_code
def yX10_above : MethodName := ⟨RX10, "above", "(III)I"⟩
abbrev cX10_guards : ByteArray := prog_12_method_45_code
def yX10_guards : MethodName := ⟨RX10, "guards", "(III)I"⟩
abbrev cX10_isA : ByteArray := prog_12_method_46_code
def yX10_isA : MethodName := ⟨RX10, "isA", "(II)I"⟩
abbrev cX10_pushes : ByteArray := prog_12_method_47_code
def yX10_pushes : MethodName := ⟨RX10, "pushes", "(ZIIZ)V"⟩
abbrev cX10_pushOps : ByteArray := prog_12_method_48_code
def yX10_pushOps : MethodName := ⟨RX10, "pushOps", "(IIIIIZ)V"⟩
abbrev cX10_pushLayer : ByteArray := prog_12_method_49_code
def yX10_pushLayer : MethodName := ⟨RX10, "pushLayer", "(IIIZ)V"⟩
abbrev cX10_pops : ByteArray := prog_12_method_50_code
def yX10_pops : MethodName := ⟨RX10, "pops", "()V"⟩
abbrev cX10_against : ByteArray := prog_12_method_51_code
def yX10_against : MethodName := ⟨RX10, "against", "(III)I"⟩
abbrev cX10_around : ByteArray := prog_12_method_52_code
def yX10_around : MethodName := ⟨RX10, "around", "(I)V"⟩
abbrev cX10_fails : ByteArray := prog_12_method_53_code
def yX10_fails : MethodName := ⟨RX10, "fails", "(I)I"⟩
abbrev cX10_lays : ByteArray := prog_12_method_54_code
def yX10_lays : MethodName := ⟨RX10, "lays", "(II)V"⟩
abbrev cX10_isGuard : ByteArray := prog_12_method_55_code
def yX10_isGuard : MethodName := ⟨RX10, "isGuard", "(I)Z"⟩
abbrev cX10_opens : ByteArray := prog_12_method_56_code
def yX10_opens : MethodName := ⟨RX10, "opens", "(IIII)I"⟩
abbrev cX10_does : ByteArray := prog_12_method_57_code
def yX10_does : MethodName := ⟨RX10, "does", "(I)I"⟩
abbrev cX10_play : ByteArray := prog_12_method_58_code
def yX10_play : MethodName := ⟨RX10, "play", "(IIJ)I"⟩
abbrev cX10_told : ByteArray := prog_12_method_59_code
def yX10_told : MethodName := ⟨RX10, "told", "(I)J"⟩
abbrev cX10_marks : ByteArray := prog_12_method_60_code
def yX10_marks : MethodName := ⟨RX10, "marks", "()I"⟩
abbrev cX10_mark : ByteArray := prog_12_method_61_code
def yX10_mark : MethodName := ⟨RX10, "mark", "(II)J"⟩
abbrev cX10_mood : ByteArray := prog_12_method_62_code
def yX10_mood : MethodName := ⟨RX10, "mood", "(II)J"⟩
abbrev cX10_setMood : ByteArray := prog_12_method_63_code
def yX10_setMood : MethodName := ⟨RX10, "setMood", "(IIJ)I"⟩
abbrev cX10_count : ByteArray := prog_12_method_64_code
def yX10_count : MethodName := ⟨RX10, "count", "(I)I"⟩
abbrev cX10_digest : ByteArray := prog_12_method_65_code
def yX10_digest : MethodName := ⟨RX10, "digest", "()J"⟩
def RJ6 : String := "java/lang/Integer"
def TJ6 : u_T := fun k => match k with
  | _ => ("", "", "", false)
def tyJ6 : Nat → FieldType := fun k => match k with
  | _ => .int
abbrev wsJ60 : List Cond := u_ws RJ6 TJ6 0
theorem nmJ6 : ∀ a, a < 0 → ∀ b, b < 0 → a ≠ b → (TJ6 a).2.1 ≠ (TJ6 b).2.1 := by decide +kernel
theorem tyJ6_ok : ∀ k, k < 0 → parseFieldDescriptor (TJ6 k).2.2.1 = some (tyJ6 k) := by decide +kernel
abbrev cJ6_bitCount_0f7a4 : ByteArray := prog_13_method_49_code
def yJ6_bitCount_0f7a4 : MethodName := ⟨RJ6, "bitCount", "(I)I"⟩
def RJ9 : String := "java/lang/Math"
def TJ9 : u_T := fun k => match k with
  | _ => ("", "", "", false)
def tyJ9 : Nat → FieldType := fun k => match k with
  | _ => .int
abbrev wsJ90 : List Cond := u_ws RJ9 TJ9 0
theorem nmJ9 : ∀ a, a < 0 → ∀ b, b < 0 → a ≠ b → (TJ9 a).2.1 ≠ (TJ9 b).2.1 := by decide +kernel
theorem tyJ9_ok : ∀ k, k < 0 → parseFieldDescriptor (TJ9 k).2.2.1 = some (tyJ9 k) := by decide +kernel
abbrev cJ9_max_7cf53 : ByteArray := prog_14_method_65_code
def yJ9_max_7cf53 : MethodName := ⟨RJ9, "max", "(II)I"⟩
def RJ7 : String := "java/util/Arrays"
def TJ7 : u_T := fun k => match k with
  | _ => ("", "", "", false)
def tyJ7 : Nat → FieldType := fun k => match k with
  | _ => .int
abbrev wsJ70 : List Cond := u_ws RJ7 TJ7 0
theorem nmJ7 : ∀ a, a < 0 → ∀ b, b < 0 → a ≠ b → (TJ7 a).2.1 ≠ (TJ7 b).2.1 := by decide +kernel
theorem tyJ7_ok : ∀ k, k < 0 → parseFieldDescriptor (TJ7 k).2.2.1 = some (tyJ7 k) := by decide +kernel
abbrev cJ7_fill_53178 : ByteArray := prog_15_method_103_code
def yJ7_fill_53178 : MethodName := ⟨RJ7, "fill", "([II)V"⟩
def RL : String := "PuppetCastLaw"
abbrev cL_law : ByteArray := code
def yL_law : MethodName := ⟨RL, "law", "([I)Z"⟩
def wsL_law_r1 : List Cond := [Cond.classLink RL 7 RX9, Cond.instantiable RX9 3, Cond.initialized RX9, Cond.classLink RL 10 RX10, Cond.instantiable RX10 55, Cond.initialized RX10, Cond.constantLong RL 93 (4294967295), Cond.methodLink RL 9 yX9_init, Cond.instanceMethod yX9_init, Cond.code yX9_init cX9_init 1 none, Cond.methodLink RX9 1 objectInit, Cond.instanceMethod objectInit, Cond.code objectInit ⟨#[0xb1]⟩ 1 none, Cond.classLink RX9 7 RX1, Cond.instantiable RX1 6, Cond.initialized RX1, Cond.fieldLink RX9 10 "PuppetCast" "company" "LPuppetCast$Company;", Cond.classLink RX9 16 RX6, Cond.instantiable RX6 7, Cond.initialized RX6, Cond.fieldLink RX9 21 "PuppetCast" "stage" "LPuppetCast$Stage;", Cond.fieldLink RX9 25 "PuppetCast" "latest" "LPuppetCast$Part;", Cond.instanceMethod yX1_init, Cond.code yX1_init cX1_init 1 none]
def wsL_law_r2 : List Cond := [Cond.methodLink RX1 3 objectInit, Cond.classLink RX1 9 RX8, Cond.fieldLink RX1 11 "PuppetCast$Company" "traits" "[LPuppetCast$Trait;", Cond.classLink RX1 17 RX2, Cond.fieldLink RX1 19 "PuppetCast$Company" "figures" "[LPuppetCast$Figure;", Cond.classLink RX1 23 RX4, Cond.instantiable RX4 5, Cond.initialized RX4, Cond.fieldLink RX1 26 "PuppetCast$Company" "merger" "LPuppetCast$Merger;", Cond.classLink RX1 30 RX0, Cond.instantiable RX0 10, Cond.initialized RX0, Cond.fieldLink RX1 33 "PuppetCast$Company" "choice" "LPuppetCast$Choice;", Cond.instanceMethod yX4_init, Cond.code yX4_init cX4_init 1 none, Cond.methodLink RX4 3 objectInit, Cond.classLink RX4 11 RX3, Cond.fieldLink RX4 13 "PuppetCast$Merger" "rows" "[LPuppetCast$Line;", Cond.arrayClass .int, Cond.fieldLink RX4 17 "PuppetCast$Merger" "firsts" "[I", Cond.instantiable RX3 3, Cond.initialized RX3, Cond.fieldLink RX4 22 "PuppetCast$Merger" "givers" "LPuppetCast$Line;", Cond.fieldLink RX4 26 "PuppetCast$Merger" "merged" "LPuppetCast$Line;"]
def wsL_law_r3 : List Cond := [Cond.methodLink RX4 21 yX3_init, Cond.instanceMethod yX3_init, Cond.code yX3_init cX3_init 1 none, Cond.methodLink RX3 3 objectInit, Cond.fieldLink RX3 9 "PuppetCast$Line" "row" "[I", Cond.fieldLink RX3 15 "PuppetCast$Line" "places" "[I", Cond.methodLink RX3 18 yJ7_fill_53178, Cond.static yJ7_fill_53178, Cond.initialized RJ7, Cond.code yJ7_fill_53178 cJ7_fill_53178 4 none, Cond.instanceMethod yX0_init, Cond.code yX0_init cX0_init 1 none, Cond.methodLink RX0 3 objectInit, Cond.methodLink RX9 18 yX6_init, Cond.instanceMethod yX6_init, Cond.code yX6_init cX6_init 2 none, Cond.methodLink RX6 3 objectInit, Cond.classLink RX6 9 RX7, Cond.instantiable RX7 2, Cond.initialized RX7, Cond.fieldLink RX6 12 "PuppetCast$Stage" "tape" "LPuppetCast$Tape;", Cond.fieldLink RX6 18 "PuppetCast$Stage" "company" "LPuppetCast$Company;", Cond.instanceMethod yX7_init, Cond.code yX7_init cX7_init 1 none]
def wsL_law_r4 : List Cond := [Cond.methodLink RX7 3 objectInit, Cond.arrayClass .long, Cond.fieldLink RX7 11 "PuppetCast$Tape" "cells" "[J", Cond.methodLink RL 12 yX10_init, Cond.instanceMethod yX10_init, Cond.code yX10_init cX10_init 1 none, Cond.methodLink RX10 1 objectInit, Cond.fieldLink RX10 7 "PuppetCastModel" "traitLine" "[I", Cond.fieldLink RX10 13 "PuppetCastModel" "traitLong" "[I", Cond.fieldLink RX10 16 "PuppetCastModel" "troupe" "[I", Cond.fieldLink RX10 19 "PuppetCastModel" "taken" "[I", Cond.fieldLink RX10 22 "PuppetCastModel" "takenMany" "[I", Cond.fieldLink RX10 25 "PuppetCastModel" "charLine" "[I", Cond.fieldLink RX10 28 "PuppetCastModel" "charLong" "[I", Cond.fieldLink RX10 31 "PuppetCastModel" "moods" "[J", Cond.arrayClass .boolean, Cond.fieldLink RX10 35 "PuppetCastModel" "has" "[Z", Cond.fieldLink RX10 39 "PuppetCastModel" "isNeed" "[Z", Cond.fieldLink RX10 42 "PuppetCastModel" "reach" "[I", Cond.fieldLink RX10 45 "PuppetCastModel" "result" "[I", Cond.fieldLink RX10 48 "PuppetCastModel" "sort" "[I", Cond.fieldLink RX10 51 "PuppetCastModel" "opMany" "[I", Cond.fieldLink RX10 54 "PuppetCastModel" "opKind" "[I", Cond.fieldLink RX10 57 "PuppetCastModel" "opA" "[I"]
def wsL_law_r5 : List Cond := [Cond.fieldLink RX10 60 "PuppetCastModel" "opB" "[I", Cond.fieldLink RX10 63 "PuppetCastModel" "latest" "I", Cond.fieldLink RX10 67 "PuppetCastModel" "leftMany" "[I", Cond.fieldLink RX10 70 "PuppetCastModel" "leftTrait" "[I", Cond.fieldLink RX10 73 "PuppetCastModel" "leftAct" "[I", Cond.fieldLink RX10 76 "PuppetCastModel" "namedMany" "[I", Cond.fieldLink RX10 79 "PuppetCastModel" "namedTrait" "[I", Cond.fieldLink RX10 82 "PuppetCastModel" "namedAct" "[I", Cond.fieldLink RX10 85 "PuppetCastModel" "namedName" "[I", Cond.fieldLink RX10 88 "PuppetCastModel" "preferred" "[I", Cond.fieldLink RX10 91 "PuppetCastModel" "parts" "[I", Cond.fieldLink RX10 94 "PuppetCastModel" "from" "[I", Cond.fieldLink RX10 97 "PuppetCastModel" "merged" "[I", Cond.fieldLink RX10 100 "PuppetCastModel" "isOps" "[Z", Cond.fieldLink RX10 103 "PuppetCastModel" "who" "[I", Cond.fieldLink RX10 106 "PuppetCastModel" "called" "[I", Cond.fieldLink RX10 109 "PuppetCastModel" "code" "[I", Cond.fieldLink RX10 112 "PuppetCastModel" "place" "[I", Cond.fieldLink RX10 115 "PuppetCastModel" "next" "[I", Cond.fieldLink RX10 118 "PuppetCastModel" "layer" "[I", Cond.fieldLink RX10 121 "PuppetCastModel" "state" "[I", Cond.fieldLink RX10 124 "PuppetCastModel" "opened" "[Z", Cond.fieldLink RX10 127 "PuppetCastModel" "tries" "[Z", Cond.fieldLink RX10 130 "PuppetCastModel" "markWho" "[I"]
def wsL_law_r6 : List Cond := [Cond.fieldLink RX10 133 "PuppetCastModel" "markGiver" "[I", Cond.fieldLink RX10 136 "PuppetCastModel" "markAct" "[I", Cond.fieldLink RX10 139 "PuppetCastModel" "markA" "[I", Cond.fieldLink RX10 142 "PuppetCastModel" "markValue" "[J", Cond.methodLink RL 13 yX9_trait, Cond.instanceMethod yX9_trait, Cond.selects RX9 yX9_trait yX9_trait, Cond.code yX9_trait cX9_trait 4 (some .int), Cond.fieldLink RX9 36 "PuppetCast$Company" "traitCount" "I", Cond.methodLink RX9 29 yX1_canStandUnder, Cond.instanceMethod yX1_canStandUnder, Cond.selects RX1 yX1_canStandUnder yX1_canStandUnder, Cond.code yX1_canStandUnder cX1_canStandUnder 4 (some .boolean), Cond.methodLink RX1 41 yX1_isTraitOrNone, Cond.instanceMethod yX1_isTraitOrNone, Cond.selects RX1 yX1_isTraitOrNone yX1_isTraitOrNone, Cond.code yX1_isTraitOrNone cX1_isTraitOrNone 2 (some .boolean), Cond.methodLink RX1 45 yX1_traitAt, Cond.instanceMethod yX1_traitAt, Cond.selects RX1 yX1_traitAt yX1_traitAt, Cond.code yX1_traitAt cX1_traitAt 2 (some (.object "PuppetCast$Trait")), Cond.static yX9_isBelow, Cond.code yX9_isBelow cX9_isBelow 2 (some .boolean), Cond.methodLink RX9 33 yX1_alignsUnder]
def wsL_law_r7 : List Cond := [Cond.instanceMethod yX1_alignsUnder, Cond.selects RX1 yX1_alignsUnder yX1_alignsUnder, Cond.code yX1_alignsUnder cX1_alignsUnder 4 (some .boolean), Cond.methodLink RX1 49 yX4_begin, Cond.instanceMethod yX4_begin, Cond.selects RX4 yX4_begin yX4_begin, Cond.code yX4_begin cX4_begin 1 none, Cond.fieldLink RX4 32 "PuppetCast$Merger" "count" "I", Cond.methodLink RX4 29 yX3_empty, Cond.instanceMethod yX3_empty, Cond.selects RX3 yX3_empty yX3_empty, Cond.code yX3_empty cX3_empty 1 none, Cond.fieldLink RX3 24 "PuppetCast$Line" "length" "I", Cond.methodLink RX1 52 yX1_addToMerger, Cond.instanceMethod yX1_addToMerger, Cond.selects RX1 yX1_addToMerger yX1_addToMerger, Cond.code yX1_addToMerger cX1_addToMerger 3 none, Cond.fieldLink RX1 68 "PuppetCast$Trait" "line" "LPuppetCast$Line;", Cond.methodLink RX1 72 yX4_addGiver, Cond.instanceMethod yX4_addGiver, Cond.selects RX4 yX4_addGiver yX4_addGiver, Cond.code yX4_addGiver cX4_addGiver 3 none, Cond.methodLink RX4 36 yX3_add, Cond.instanceMethod yX3_add]
def wsL_law_r8 : List Cond := [Cond.selects RX3 yX3_add yX3_add, Cond.code yX3_add cX3_add 2 none, Cond.methodLink RX4 40 yX4_addRow, Cond.instanceMethod yX4_addRow, Cond.selects RX4 yX4_addRow yX4_addRow, Cond.code yX4_addRow cX4_addRow 2 none, Cond.methodLink RX1 56 yX4_merges, Cond.instanceMethod yX4_merges, Cond.selects RX4 yX4_merges yX4_merges, Cond.code yX4_merges cX4_merges 3 (some .boolean), Cond.methodLink RX4 48 yX4_nextTrait, Cond.instanceMethod yX4_nextTrait, Cond.selects RX4 yX4_nextTrait yX4_nextTrait, Cond.code yX4_nextTrait cX4_nextTrait 3 (some .int), Cond.methodLink RX4 59 yX4_firstOf, Cond.instanceMethod yX4_firstOf, Cond.selects RX4 yX4_firstOf yX4_firstOf, Cond.code yX4_firstOf cX4_firstOf 3 (some .int), Cond.methodLink RX4 67 yX3_at, Cond.instanceMethod yX3_at, Cond.selects RX3 yX3_at yX3_at, Cond.code yX3_at cX3_at 2 (some .int), Cond.methodLink RX4 63 yX4_standsBehind, Cond.instanceMethod yX4_standsBehind]
def wsL_law_r9 : List Cond := [Cond.selects RX4 yX4_standsBehind yX4_standsBehind, Cond.code yX4_standsBehind cX4_standsBehind 4 (some .boolean), Cond.methodLink RX4 70 yX3_placeOf, Cond.instanceMethod yX3_placeOf, Cond.selects RX3 yX3_placeOf yX3_placeOf, Cond.code yX3_placeOf cX3_placeOf 2 (some .int), Cond.methodLink RX4 52 yX4_strike, Cond.instanceMethod yX4_strike, Cond.selects RX4 yX4_strike yX4_strike, Cond.code yX4_strike cX4_strike 3 none, Cond.methodLink RX4 55 yX4_allDone, Cond.instanceMethod yX4_allDone, Cond.selects RX4 yX4_allDone yX4_allDone, Cond.code yX4_allDone cX4_allDone 2 (some .boolean), Cond.methodLink RX9 40 yX1_addTrait, Cond.instanceMethod yX1_addTrait, Cond.selects RX1 yX1_addTrait yX1_addTrait, Cond.code yX1_addTrait cX1_addTrait 3 (some .int), Cond.fieldLink RX1 76 "PuppetCast$Company" "traitCount" "I", Cond.instantiable RX8 3, Cond.initialized RX8, Cond.fieldLink RX1 85 "PuppetCast$Merger" "merged" "LPuppetCast$Line;", Cond.instanceMethod yX8_init, Cond.code yX8_init cX8_init 1 none]
def wsL_law_r10 : List Cond := [Cond.methodLink RX8 3 objectInit, Cond.classLink RX8 9 RX3, Cond.fieldLink RX8 12 "PuppetCast$Trait" "line" "LPuppetCast$Line;", Cond.classLink RX8 18 RX5, Cond.fieldLink RX8 20 "PuppetCast$Trait" "bodies" "[LPuppetCast$Part;", Cond.fieldLink RX8 24 "PuppetCast$Trait" "guards" "[LPuppetCast$Part;", Cond.methodLink RX8 11 yX3_init, Cond.methodLink RX1 80 yX3_add, Cond.methodLink RX1 88 yX3_addAll, Cond.instanceMethod yX3_addAll, Cond.selects RX3 yX3_addAll yX3_addAll, Cond.code yX3_addAll cX3_addAll 3 none, Cond.methodLink RX3 32 yX3_at, Cond.methodLink RX3 36 yX3_add, Cond.methodLink RL 17 yX10_trait, Cond.instanceMethod yX10_trait, Cond.selects RX10 yX10_trait yX10_trait, Cond.code yX10_trait cX10_trait 6 (some .int), Cond.fieldLink RX10 155 "PuppetCastModel" "partMany" "I", Cond.fieldLink RX10 145 "PuppetCastModel" "traits" "I", Cond.methodLink RX10 169 yX10_mayBeUnder, Cond.instanceMethod yX10_mayBeUnder, Cond.selects RX10 yX10_mayBeUnder yX10_mayBeUnder, Cond.code yX10_mayBeUnder cX10_mayBeUnder 2 (some .boolean)]
def wsL_law_r11 : List Cond := [Cond.methodLink RX10 166 yX10_isTrait, Cond.instanceMethod yX10_isTrait, Cond.selects RX10 yX10_isTrait yX10_isTrait, Cond.code yX10_isTrait cX10_isTrait 2 (some .boolean), Cond.methodLink RX10 148 yX10_in, Cond.static yX10_in, Cond.code yX10_in cX10_in 3 (some .boolean), Cond.methodLink RX10 172 yX10_merge, Cond.instanceMethod yX10_merge, Cond.selects RX10 yX10_merge yX10_merge, Cond.code yX10_merge cX10_merge 6 (some .int), Cond.methodLink RX10 158 yX10_placeOf, Cond.instanceMethod yX10_placeOf, Cond.selects RX10 yX10_placeOf yX10_placeOf, Cond.code yX10_placeOf cX10_placeOf 3 (some .int), Cond.methodLink RX10 162 yX10_isBehind, Cond.instanceMethod yX10_isBehind, Cond.selects RX10 yX10_isBehind yX10_isBehind, Cond.code yX10_isBehind cX10_isBehind 4 (some .boolean), Cond.methodLink RL 18 yX9_character, Cond.instanceMethod yX9_character, Cond.selects RX9 yX9_character yX9_character, Cond.code yX9_character cX9_character 2 (some .int), Cond.fieldLink RX9 48 "PuppetCast$Company" "figureCount" "I"]
def wsL_law_r12 : List Cond := [Cond.methodLink RX9 44 yX9_isBelow, Cond.methodLink RX9 51 yX1_addFigure, Cond.instanceMethod yX1_addFigure, Cond.selects RX1 yX1_addFigure yX1_addFigure, Cond.code yX1_addFigure cX1_addFigure 3 (some .int), Cond.fieldLink RX1 92 "PuppetCast$Company" "figureCount" "I", Cond.instantiable RX2 13, Cond.initialized RX2, Cond.methodLink RX1 95 yX2_init, Cond.instanceMethod yX2_init, Cond.code yX2_init cX2_init 3 none, Cond.methodLink RX2 3 objectInit, Cond.classLink RX2 9 RX3, Cond.fieldLink RX2 12 "PuppetCast$Figure" "line" "LPuppetCast$Line;", Cond.fieldLink RX2 18 "PuppetCast$Figure" "taken" "[I", Cond.classLink RX2 22 RX5, Cond.fieldLink RX2 24 "PuppetCast$Figure" "ownBodies" "[LPuppetCast$Part;", Cond.fieldLink RX2 28 "PuppetCast$Figure" "left" "[Z", Cond.fieldLink RX2 32 "PuppetCast$Figure" "names" "[I", Cond.fieldLink RX2 35 "PuppetCast$Figure" "origins" "[I", Cond.fieldLink RX2 38 "PuppetCast$Figure" "preferred" "[I", Cond.fieldLink RX2 41 "PuppetCast$Figure" "moods" "[J", Cond.fieldLink RX2 45 "PuppetCast$Figure" "number" "I", Cond.fieldLink RX2 49 "PuppetCast$Figure" "troupe" "I"]
def wsL_law_r13 : List Cond := [Cond.methodLink RX2 11 yX3_init, Cond.methodLink RX2 52 yJ7_fill_53178, Cond.methodLink RL 22 yX10_character, Cond.instanceMethod yX10_character, Cond.selects RX10 yX10_character yX10_character, Cond.code yX10_character cX10_character 3 (some .int), Cond.fieldLink RX10 152 "PuppetCastModel" "characters" "I", Cond.methodLink RL 23 yX9_takes, Cond.instanceMethod yX9_takes, Cond.selects RX9 yX9_takes yX9_takes, Cond.code yX9_takes cX9_takes 4 (some .int), Cond.fieldLink RX9 73 "PuppetCast$Figure" "takenCount" "I", Cond.methodLink RX9 55 yX1_figureAt, Cond.instanceMethod yX1_figureAt, Cond.selects RX1 yX1_figureAt yX1_figureAt, Cond.code yX1_figureAt cX1_figureAt 2 (some (.object "PuppetCast$Figure")), Cond.methodLink RX9 59 yX1_traitAt, Cond.methodLink RX9 63 yX2_hasTaken, Cond.instanceMethod yX2_hasTaken, Cond.selects RX2 yX2_hasTaken yX2_hasTaken, Cond.code yX2_hasTaken cX2_hasTaken 3 (some .boolean), Cond.fieldLink RX2 58 "PuppetCast$Figure" "takenCount" "I", Cond.methodLink RX2 65 yX2_takenAt, Cond.instanceMethod yX2_takenAt]
def wsL_law_r14 : List Cond := [Cond.selects RX2 yX2_takenAt yX2_takenAt, Cond.code yX2_takenAt cX2_takenAt 2 (some .int), Cond.methodLink RX9 69 yX1_alignsTaking, Cond.instanceMethod yX1_alignsTaking, Cond.selects RX1 yX1_alignsTaking yX1_alignsTaking, Cond.code yX1_alignsTaking cX1_alignsTaking 4 (some .boolean), Cond.fieldLink RX1 60 "PuppetCast$Figure" "takenCount" "I", Cond.methodLink RX1 64 yX2_takenAt, Cond.methodLink RX9 76 yX1_addTaken, Cond.instanceMethod yX1_addTaken, Cond.selects RX1 yX1_addTaken yX1_addTaken, Cond.code yX1_addTaken cX1_addTaken 3 (some .int), Cond.fieldLink RX1 101 "PuppetCast$Figure" "line" "LPuppetCast$Line;", Cond.methodLink RX1 98 yX2_addTaken, Cond.instanceMethod yX2_addTaken, Cond.selects RX2 yX2_addTaken yX2_addTaken, Cond.code yX2_addTaken cX2_addTaken 2 none, Cond.methodLink RX1 102 yX3_empty, Cond.methodLink RL 27 yX10_takes, Cond.instanceMethod yX10_takes, Cond.selects RX10 yX10_takes yX10_takes, Cond.code yX10_takes cX10_takes 5 (some .int), Cond.methodLink RX10 176 yX10_isCharacter, Cond.instanceMethod yX10_isCharacter]
def wsL_law_r15 : List Cond := [Cond.selects RX10 yX10_isCharacter yX10_isCharacter, Cond.code yX10_isCharacter cX10_isCharacter 2 (some .boolean), Cond.methodLink RL 28 yX9_body, Cond.instanceMethod yX9_body, Cond.selects RX9 yX9_body yX9_body, Cond.code yX9_body cX9_body 6 (some .int), Cond.classLink RX9 83 RX5, Cond.instantiable RX5 9, Cond.initialized RX5, Cond.methodLink RX9 80 yX9_isAct, Cond.static yX9_isAct, Cond.code yX9_isAct cX9_isAct 1 (some .boolean), Cond.methodLink RX9 85 yX5_init, Cond.instanceMethod yX5_init, Cond.code yX5_init cX5_init 6 none, Cond.methodLink RX5 3 objectInit, Cond.fieldLink RX5 9 "PuppetCast$Part" "kinds" "[I", Cond.fieldLink RX5 15 "PuppetCast$Part" "firsts" "[I", Cond.fieldLink RX5 18 "PuppetCast$Part" "seconds" "[I", Cond.fieldLink RX5 21 "PuppetCast$Part" "giver" "I", Cond.fieldLink RX5 25 "PuppetCast$Part" "sort" "I", Cond.fieldLink RX5 28 "PuppetCast$Part" "reach" "I", Cond.fieldLink RX5 31 "PuppetCast$Part" "result" "I", Cond.fieldLink RX5 34 "PuppetCast$Part" "isNeed" "Z"]
def wsL_law_r16 : List Cond := [Cond.methodLink RX9 88 yX8_setBody, Cond.instanceMethod yX8_setBody, Cond.selects RX8 yX8_setBody yX8_setBody, Cond.code yX8_setBody cX8_setBody 3 none, Cond.methodLink RL 32 yX10_body, Cond.instanceMethod yX10_body, Cond.selects RX10 yX10_body yX10_body, Cond.code yX10_body cX10_body 6 (some .int), Cond.methodLink RX10 179 yX10_isAct, Cond.static yX10_isAct, Cond.code yX10_isAct cX10_isAct 1 (some .boolean), Cond.methodLink RX10 182 yX10_begins, Cond.instanceMethod yX10_begins, Cond.selects RX10 yX10_begins yX10_begins, Cond.code yX10_begins cX10_begins 2 (some .int), Cond.methodLink RL 33 yX9_need, Cond.instanceMethod yX9_need, Cond.selects RX9 yX9_need yX9_need, Cond.code yX9_need cX9_need 5 (some .int), Cond.methodLink RL 36 yX10_need, Cond.instanceMethod yX10_need, Cond.selects RX10 yX10_need yX10_need, Cond.code yX10_need cX10_need 5 (some .int), Cond.methodLink RL 37 yX9_guard]
def wsL_law_r17 : List Cond := [Cond.instanceMethod yX9_guard, Cond.selects RX9 yX9_guard yX9_guard, Cond.code yX9_guard cX9_guard 5 (some .int), Cond.methodLink RX9 94 yX8_setGuard, Cond.instanceMethod yX8_setGuard, Cond.selects RX8 yX8_setGuard yX8_setGuard, Cond.code yX8_setGuard cX8_setGuard 3 none, Cond.methodLink RL 40 yX10_guard, Cond.instanceMethod yX10_guard, Cond.selects RX10 yX10_guard yX10_guard, Cond.code yX10_guard cX10_guard 4 (some .int), Cond.methodLink RL 41 yX9_own, Cond.instanceMethod yX9_own, Cond.selects RX9 yX9_own yX9_own, Cond.code yX9_own cX9_own 6 (some .int), Cond.methodLink RX9 97 yX2_setOwnBody, Cond.instanceMethod yX2_setOwnBody, Cond.selects RX2 yX2_setOwnBody yX2_setOwnBody, Cond.code yX2_setOwnBody cX2_setOwnBody 3 none, Cond.methodLink RL 44 yX10_own, Cond.instanceMethod yX10_own, Cond.selects RX10 yX10_own yX10_own, Cond.code yX10_own cX10_own 6 (some .int), Cond.methodLink RL 45 yX9_op]
def wsL_law_r18 : List Cond := [Cond.instanceMethod yX9_op, Cond.selects RX9 yX9_op yX9_op, Cond.code yX9_op cX9_op 4 (some .int), Cond.fieldLink RX9 103 "PuppetCast$Part" "size" "I", Cond.methodLink RX9 100 yX9_isOp, Cond.static yX9_isOp, Cond.code yX9_isOp cX9_isOp 3 (some .boolean), Cond.methodLink RX9 106 yX5_addOp, Cond.instanceMethod yX5_addOp, Cond.selects RX5 yX5_addOp yX5_addOp, Cond.code yX5_addOp cX5_addOp 4 (some .int), Cond.fieldLink RX5 38 "PuppetCast$Part" "size" "I", Cond.methodLink RL 48 yX10_op, Cond.instanceMethod yX10_op, Cond.selects RX10 yX10_op yX10_op, Cond.code yX10_op cX10_op 5 (some .int), Cond.methodLink RX10 186 yX10_isOp, Cond.static yX10_isOp, Cond.code yX10_isOp cX10_isOp 3 (some .boolean), Cond.methodLink RL 49 yX9_leave, Cond.instanceMethod yX9_leave, Cond.selects RX9 yX9_leave yX9_leave, Cond.code yX9_leave cX9_leave 5 (some .int), Cond.fieldLink RX9 113 "PuppetCast$Figure" "leftCount" "I"]
def wsL_law_r19 : List Cond := [Cond.methodLink RX9 110 yX2_leaves, Cond.instanceMethod yX2_leaves, Cond.selects RX2 yX2_leaves yX2_leaves, Cond.code yX2_leaves cX2_leaves 4 (some .boolean), Cond.methodLink RX2 69 yX2_slot, Cond.static yX2_slot, Cond.code yX2_slot cX2_slot 3 (some .int), Cond.methodLink RX9 116 yX2_addLeft, Cond.instanceMethod yX2_addLeft, Cond.selects RX2 yX2_addLeft yX2_addLeft, Cond.code yX2_addLeft cX2_addLeft 4 (some .int), Cond.fieldLink RX2 73 "PuppetCast$Figure" "leftCount" "I", Cond.methodLink RL 52 yX10_leave, Cond.instanceMethod yX10_leave, Cond.selects RX10 yX10_leave yX10_leave, Cond.code yX10_leave cX10_leave 4 (some .int), Cond.methodLink RX10 189 yX10_leaves, Cond.instanceMethod yX10_leaves, Cond.selects RX10 yX10_leaves yX10_leaves, Cond.code yX10_leaves cX10_leaves 5 (some .boolean), Cond.methodLink RL 53 yX9_rename, Cond.instanceMethod yX9_rename, Cond.selects RX9 yX9_rename yX9_rename, Cond.code yX9_rename cX9_rename 6 (some .int)]
def wsL_law_r20 : List Cond := [Cond.fieldLink RX9 126 "PuppetCast$Figure" "renamedCount" "I", Cond.methodLink RX9 120 yX2_nameOf, Cond.instanceMethod yX2_nameOf, Cond.selects RX2 yX2_nameOf yX2_nameOf, Cond.code yX2_nameOf cX2_nameOf 4 (some .int), Cond.methodLink RX9 123 yX2_originOf, Cond.instanceMethod yX2_originOf, Cond.selects RX2 yX2_originOf yX2_originOf, Cond.code yX2_originOf cX2_originOf 4 (some .int), Cond.methodLink RX9 129 yX2_addRenamed, Cond.instanceMethod yX2_addRenamed, Cond.selects RX2 yX2_addRenamed yX2_addRenamed, Cond.code yX2_addRenamed cX2_addRenamed 6 (some .int), Cond.fieldLink RX2 76 "PuppetCast$Figure" "renamedCount" "I", Cond.methodLink RL 56 yX10_rename, Cond.instanceMethod yX10_rename, Cond.selects RX10 yX10_rename yX10_rename, Cond.code yX10_rename cX10_rename 6 (some .int), Cond.methodLink RX10 192 yX10_renamed, Cond.instanceMethod yX10_renamed, Cond.selects RX10 yX10_renamed yX10_renamed, Cond.code yX10_renamed cX10_renamed 5 (some .int), Cond.methodLink RX10 196 yX10_named, Cond.instanceMethod yX10_named]
def wsL_law_r21 : List Cond := [Cond.selects RX10 yX10_named yX10_named, Cond.code yX10_named cX10_named 5 (some .int), Cond.methodLink RL 57 yX9_prefer, Cond.instanceMethod yX9_prefer, Cond.selects RX9 yX9_prefer yX9_prefer, Cond.code yX9_prefer cX9_prefer 5 (some .int), Cond.methodLink RX9 132 yX2_swapPreferred, Cond.instanceMethod yX2_swapPreferred, Cond.selects RX2 yX2_swapPreferred yX2_swapPreferred, Cond.code yX2_swapPreferred cX2_swapPreferred 4 (some .int), Cond.methodLink RX2 79 yX2_preferredFor, Cond.instanceMethod yX2_preferredFor, Cond.selects RX2 yX2_preferredFor yX2_preferredFor, Cond.code yX2_preferredFor cX2_preferredFor 2 (some .int), Cond.methodLink RL 60 yX10_prefer, Cond.instanceMethod yX10_prefer, Cond.selects RX10 yX10_prefer yX10_prefer, Cond.code yX10_prefer cX10_prefer 5 (some .int), Cond.methodLink RL 61 yX9_lineOf, Cond.instanceMethod yX9_lineOf, Cond.selects RX9 yX9_lineOf yX9_lineOf, Cond.code yX9_lineOf cX9_lineOf 4 (some .int), Cond.fieldLink RX9 135 "PuppetCast$Trait" "line" "LPuppetCast$Line;", Cond.methodLink RX9 139 yX3_at]
def wsL_law_r22 : List Cond := [Cond.methodLink RL 64 yX10_lineOf, Cond.instanceMethod yX10_lineOf, Cond.selects RX10 yX10_lineOf yX10_lineOf, Cond.code yX10_lineOf cX10_lineOf 3 (some .int), Cond.methodLink RL 65 yX9_line, Cond.instanceMethod yX9_line, Cond.selects RX9 yX9_line yX9_line, Cond.code yX9_line cX9_line 4 (some .int), Cond.fieldLink RX9 144 "PuppetCast$Figure" "line" "LPuppetCast$Line;", Cond.methodLink RL 68 yX10_line, Cond.instanceMethod yX10_line, Cond.selects RX10 yX10_line yX10_line, Cond.code yX10_line cX10_line 3 (some .int), Cond.methodLink RL 69 yX9_chosen, Cond.instanceMethod yX9_chosen, Cond.selects RX9 yX9_chosen yX9_chosen, Cond.code yX9_chosen cX9_chosen 4 (some .int), Cond.fieldLink RX9 149 "PuppetCast$Choice" "giver" "I", Cond.methodLink RX9 145 yX1_weigh, Cond.instanceMethod yX1_weigh, Cond.selects RX1 yX1_weigh yX1_weigh, Cond.code yX1_weigh cX1_weigh 8 (some (.object "PuppetCast$Choice")), Cond.fieldLink RX1 129 "PuppetCast$Line" "length" "I", Cond.methodLink RX1 135 yX2_preferredFor]
def wsL_law_r23 : List Cond := [Cond.methodLink RX1 138 yX0_empty, Cond.instanceMethod yX0_empty, Cond.selects RX0 yX0_empty yX0_empty, Cond.code yX0_empty cX0_empty 1 none, Cond.fieldLink RX0 9 "PuppetCast$Choice" "preferred" "LPuppetCast$Part;", Cond.fieldLink RX0 15 "PuppetCast$Choice" "first" "LPuppetCast$Part;", Cond.fieldLink RX0 18 "PuppetCast$Choice" "lineOfFirst" "LPuppetCast$Line;", Cond.fieldLink RX0 22 "PuppetCast$Choice" "hasRival" "Z", Cond.fieldLink RX0 26 "PuppetCast$Choice" "hasNeed" "Z", Cond.fieldLink RX0 29 "PuppetCast$Choice" "results" "I", Cond.methodLink RX1 132 yX3_at, Cond.methodLink RX1 116 yX1_offered, Cond.instanceMethod yX1_offered, Cond.selects RX1 yX1_offered yX1_offered, Cond.code yX1_offered cX1_offered 5 (some (.object "PuppetCast$Part")), Cond.methodLink RX1 105 yX2_sourceOf, Cond.instanceMethod yX2_sourceOf, Cond.selects RX2 yX2_sourceOf yX2_sourceOf, Cond.code yX2_sourceOf cX2_sourceOf 4 (some .int), Cond.methodLink RX1 109 yX8_bodyFor, Cond.instanceMethod yX8_bodyFor, Cond.selects RX8 yX8_bodyFor yX8_bodyFor, Cond.code yX8_bodyFor cX8_bodyFor 2 (some (.object "PuppetCast$Part")), Cond.methodLink RX1 139 yX0_hear]
def wsL_law_r24 : List Cond := [Cond.instanceMethod yX0_hear, Cond.selects RX0 yX0_hear yX0_hear, Cond.code yX0_hear cX0_hear 4 none, Cond.fieldLink RX0 33 "PuppetCast$Part" "result" "I", Cond.fieldLink RX0 38 "PuppetCast$Part" "isNeed" "Z", Cond.fieldLink RX0 41 "PuppetCast$Part" "giver" "I", Cond.methodLink RX0 44 yX3_has, Cond.instanceMethod yX3_has, Cond.selects RX3 yX3_has yX3_has, Cond.code yX3_has cX3_has 2 (some .boolean), Cond.methodLink RX1 143 yX2_ownBody, Cond.instanceMethod yX2_ownBody, Cond.selects RX2 yX2_ownBody yX2_ownBody, Cond.code yX2_ownBody cX2_ownBody 2 (some (.object "PuppetCast$Part")), Cond.methodLink RX1 146 yX0_settle, Cond.instanceMethod yX0_settle, Cond.selects RX0 yX0_settle yX0_settle, Cond.code yX0_settle cX0_settle 3 none, Cond.fieldLink RX0 50 "PuppetCast$Choice" "part" "LPuppetCast$Part;", Cond.fieldLink RX0 53 "PuppetCast$Choice" "giver" "I", Cond.fieldLink RX0 54 "PuppetCast$Choice" "clash" "I", Cond.fieldLink RX0 57 "PuppetCast$Choice" "bridges" "I", Cond.methodLink RX0 60 yJ6_bitCount_0f7a4, Cond.static yJ6_bitCount_0f7a4]
def wsL_law_r25 : List Cond := [Cond.initialized RJ6, Cond.code yJ6_bitCount_0f7a4 cJ6_bitCount_0f7a4 1 (some .int), Cond.constant RJ6 265 (1431655765), Cond.constant RJ6 266 (858993459), Cond.constant RJ6 267 (252645135), Cond.methodLink RL 72 yX10_chosen, Cond.instanceMethod yX10_chosen, Cond.selects RX10 yX10_chosen yX10_chosen, Cond.code yX10_chosen cX10_chosen 3 (some .int), Cond.methodLink RX10 221 yX10_chosenOf, Cond.instanceMethod yX10_chosenOf, Cond.selects RX10 yX10_chosenOf yX10_chosenOf, Cond.code yX10_chosenOf cX10_chosenOf 5 (some .int), Cond.methodLink RX10 208 yX10_choose, Cond.instanceMethod yX10_choose, Cond.selects RX10 yX10_choose yX10_choose, Cond.code yX10_choose cX10_choose 6 (some .int), Cond.methodLink RX10 199 yX10_offers, Cond.instanceMethod yX10_offers, Cond.selects RX10 yX10_offers yX10_offers, Cond.code yX10_offers cX10_offers 6 (some .int), Cond.methodLink RX10 202 yX10_placeIn, Cond.instanceMethod yX10_placeIn, Cond.selects RX10 yX10_placeIn yX10_placeIn]
def wsL_law_r26 : List Cond := [Cond.code yX10_placeIn cX10_placeIn 4 (some .int), Cond.methodLink RX10 205 yX10_firstFrom, Cond.instanceMethod yX10_firstFrom, Cond.selects RX10 yX10_firstFrom yX10_firstFrom, Cond.code yX10_firstFrom cX10_firstFrom 6 (some .int), Cond.methodLink RX10 218 yX10_tells, Cond.instanceMethod yX10_tells, Cond.selects RX10 yX10_tells yX10_tells, Cond.code yX10_tells cX10_tells 3 (some .int), Cond.methodLink RL 73 yX9_clash, Cond.instanceMethod yX9_clash, Cond.selects RX9 yX9_clash yX9_clash, Cond.code yX9_clash cX9_clash 4 (some .int), Cond.fieldLink RX9 154 "PuppetCast$Choice" "clash" "I", Cond.methodLink RL 76 yX10_clash, Cond.instanceMethod yX10_clash, Cond.selects RX10 yX10_clash yX10_clash, Cond.code yX10_clash cX10_clash 3 (some .int), Cond.methodLink RX10 224 yX10_clashOf, Cond.instanceMethod yX10_clashOf, Cond.selects RX10 yX10_clashOf yX10_clashOf, Cond.code yX10_clashOf cX10_clashOf 7 (some .int), Cond.methodLink RX10 211 yX10_isByLine, Cond.instanceMethod yX10_isByLine]
def wsL_law_r27 : List Cond := [Cond.selects RX10 yX10_isByLine yX10_isByLine, Cond.code yX10_isByLine cX10_isByLine 7 (some .boolean), Cond.methodLink RX10 214 yX10_standsUnder, Cond.instanceMethod yX10_standsUnder, Cond.selects RX10 yX10_standsUnder yX10_standsUnder, Cond.code yX10_standsUnder cX10_standsUnder 4 (some .boolean), Cond.methodLink RL 77 yX9_about, Cond.instanceMethod yX9_about, Cond.selects RX9 yX9_about yX9_about, Cond.code yX9_about cX9_about 5 (some .int), Cond.methodLink RX9 157 yX1_guardCount, Cond.instanceMethod yX1_guardCount, Cond.selects RX1 yX1_guardCount yX1_guardCount, Cond.code yX1_guardCount cX1_guardCount 5 (some .int), Cond.methodLink RX1 179 yX1_guardAt, Cond.instanceMethod yX1_guardAt, Cond.selects RX1 yX1_guardAt yX1_guardAt, Cond.code yX1_guardAt cX1_guardAt 5 (some (.object "PuppetCast$Part")), Cond.methodLink RX1 176 yX8_guardFor, Cond.instanceMethod yX8_guardFor, Cond.selects RX8 yX8_guardFor yX8_guardFor, Cond.code yX8_guardFor cX8_guardFor 2 (some (.object "PuppetCast$Part")), Cond.methodLink RX9 160 yX1_aboutChosen, Cond.instanceMethod yX1_aboutChosen]
def wsL_law_r28 : List Cond := [Cond.selects RX1 yX1_aboutChosen yX1_aboutChosen, Cond.code yX1_aboutChosen cX1_aboutChosen 5 (some .int), Cond.fieldLink RX1 154 "PuppetCast$Choice" "part" "LPuppetCast$Part;", Cond.fieldLink RX1 158 "PuppetCast$Part" "result" "I", Cond.fieldLink RX1 161 "PuppetCast$Part" "reach" "I", Cond.fieldLink RX1 164 "PuppetCast$Part" "size" "I", Cond.fieldLink RX1 167 "PuppetCast$Choice" "bridges" "I", Cond.methodLink RX1 150 yX1_weigh, Cond.methodLink RL 80 yX10_about, Cond.instanceMethod yX10_about, Cond.selects RX10 yX10_about yX10_about, Cond.code yX10_about cX10_about 4 (some .int), Cond.methodLink RX10 233 yX10_aboutOf, Cond.instanceMethod yX10_aboutOf, Cond.selects RX10 yX10_aboutOf yX10_aboutOf, Cond.code yX10_aboutOf cX10_aboutOf 6 (some .int), Cond.methodLink RX10 227 yX10_guardAt, Cond.instanceMethod yX10_guardAt, Cond.selects RX10 yX10_guardAt yX10_guardAt, Cond.code yX10_guardAt cX10_guardAt 6 (some .int), Cond.methodLink RX10 230 yX10_bridges, Cond.instanceMethod yX10_bridges, Cond.selects RX10 yX10_bridges yX10_bridges, Cond.code yX10_bridges cX10_bridges 9 (some .int)]
def wsL_law_r29 : List Cond := [Cond.methodLink RL 81 yX9_above, Cond.instanceMethod yX9_above, Cond.selects RX9 yX9_above yX9_above, Cond.code yX9_above cX9_above 5 (some .int), Cond.methodLink RX9 164 yX1_climb, Cond.instanceMethod yX1_climb, Cond.selects RX1 yX1_climb yX1_climb, Cond.code yX1_climb cX1_climb 6 (some .int), Cond.fieldLink RX1 170 "PuppetCast$Part" "giver" "I", Cond.methodLink RX1 173 yX1_bodyAbove, Cond.instanceMethod yX1_bodyAbove, Cond.selects RX1 yX1_bodyAbove yX1_bodyAbove, Cond.code yX1_bodyAbove cX1_bodyAbove 7 (some (.object "PuppetCast$Part")), Cond.fieldLink RX1 120 "PuppetCast$Part" "isNeed" "Z", Cond.methodLink RX1 126 yX3_placeOf, Cond.methodLink RL 84 yX10_above, Cond.instanceMethod yX10_above, Cond.selects RX10 yX10_above yX10_above, Cond.code yX10_above cX10_above 6 (some .int), Cond.methodLink RL 85 yX9_guards, Cond.instanceMethod yX9_guards, Cond.selects RX9 yX9_guards yX9_guards, Cond.code yX9_guards cX9_guards 5 (some .int), Cond.methodLink RX9 167 yX1_guardingTrait]
def wsL_law_r30 : List Cond := [Cond.instanceMethod yX1_guardingTrait, Cond.selects RX1 yX1_guardingTrait yX1_guardingTrait, Cond.code yX1_guardingTrait cX1_guardingTrait 6 (some .int), Cond.methodLink RL 88 yX10_guards, Cond.instanceMethod yX10_guards, Cond.selects RX10 yX10_guards yX10_guards, Cond.code yX10_guards cX10_guards 5 (some .int), Cond.methodLink RL 89 yX9_isA, Cond.instanceMethod yX9_isA, Cond.selects RX9 yX9_isA yX9_isA, Cond.code yX9_isA cX9_isA 4 (some .int), Cond.methodLink RX9 170 yX3_has, Cond.methodLink RL 92 yX10_isA, Cond.instanceMethod yX10_isA, Cond.selects RX10 yX10_isA yX10_isA, Cond.code yX10_isA cX10_isA 3 (some .int), Cond.methodLink RL 95 yX9_play, Cond.instanceMethod yX9_play, Cond.selects RX9 yX9_play yX9_play, Cond.code yX9_play cX9_play 6 (some .int), Cond.methodLink RX9 173 yX6_perform, Cond.instanceMethod yX6_perform, Cond.selects RX6 yX6_perform yX6_perform, Cond.code yX6_perform cX6_perform 7 (some .int)]
def wsL_law_r31 : List Cond := [Cond.fieldLink RX6 22 "PuppetCast$Tape" "size" "I", Cond.fieldLink RX6 26 "PuppetCast$Stage" "failure" "I", Cond.fieldLink RX6 29 "PuppetCast$Stage" "opsDone" "I", Cond.fieldLink RX6 32 "PuppetCast$Stage" "mostOpen" "I", Cond.fieldLink RX6 39 "PuppetCast$Stage" "outcome" "J", Cond.methodLink RX6 35 yX6_callAct, Cond.instanceMethod yX6_callAct, Cond.selects RX6 yX6_callAct yX6_callAct, Cond.code yX6_callAct cX6_callAct 9 (some .long), Cond.fieldLink RX6 52 "PuppetCast$Choice" "part" "LPuppetCast$Part;", Cond.fieldLink RX6 58 "PuppetCast$Choice" "clash" "I", Cond.fieldLink RX6 65 "PuppetCast$Part" "reach" "I", Cond.methodLink RX6 46 yX1_weigh, Cond.methodLink RX6 61 yX6_fail, Cond.instanceMethod yX6_fail, Cond.selects RX6 yX6_fail yX6_fail, Cond.code yX6_fail cX6_fail 2 (some .long), Cond.methodLink RX6 70 yX6_isInReach, Cond.static yX6_isInReach, Cond.code yX6_isInReach cX6_isInReach 3 (some .boolean), Cond.fieldLink RX6 78 "PuppetCast$Figure" "number" "I", Cond.fieldLink RX6 83 "PuppetCast$Figure" "troupe" "I", Cond.methodLink RX6 74 yX6_goWithin, Cond.instanceMethod yX6_goWithin]
def wsL_law_r32 : List Cond := [Cond.selects RX6 yX6_goWithin yX6_goWithin, Cond.code yX6_doOpening cX6_doOpening 14 (some .long), Cond.methodLink RX6 144 Lib.Math.max.name, Cond.static Lib.Math.max.name, Cond.initialized "java/lang/Math", Cond.code Lib.Math.max.name Lib.Math.max.code 2 (some .int), Cond.methodLink RX6 127 yX5_firstAt, Cond.instanceMethod yX5_firstAt, Cond.selects RX5 yX5_firstAt yX5_firstAt, Cond.code yX5_firstAt cX5_firstAt 2 (some .int), Cond.methodLink RX6 111 yX5_kindAt, Cond.instanceMethod yX5_kindAt, Cond.selects RX5 yX5_kindAt yX5_kindAt, Cond.code yX5_kindAt cX5_kindAt 2 (some .int), Cond.methodLink RX6 150 yX6_takeFailureAway, Cond.instanceMethod yX6_takeFailureAway, Cond.selects RX6 yX6_takeFailureAway yX6_takeFailureAway, Cond.code yX6_takeFailureAway cX6_takeFailureAway 5 (some .long), Cond.fieldLink RX6 43 "PuppetCast$Stage" "thrown" "I", Cond.methodLink RX6 154 yX1_figureAt, Cond.methodLink RX6 158 yX5_secondAt, Cond.instanceMethod yX5_secondAt, Cond.selects RX5 yX5_secondAt yX5_secondAt, Cond.code yX5_secondAt cX5_secondAt 2 (some .int)]
def wsL_law_r33 : List Cond := [Cond.methodLink RX6 161 yX1_bodyBy, Cond.instanceMethod yX1_bodyBy, Cond.selects RX1 yX1_bodyBy yX1_bodyBy, Cond.code yX1_bodyBy cX1_bodyBy 5 (some (.object "PuppetCast$Part")), Cond.methodLink RX1 113 yX3_has, Cond.methodLink RX6 97 yX6_doOps, Cond.instanceMethod yX6_doOps, Cond.selects RX6 yX6_doOps yX6_doOps, Cond.methodLink RX6 164 yX6_partAbove, Cond.instanceMethod yX6_partAbove, Cond.selects RX6 yX6_partAbove yX6_partAbove, Cond.code yX6_partAbove cX6_partAbove 4 (some (.object "PuppetCast$Part")), Cond.fieldLink RX6 130 "PuppetCast$Part" "giver" "I", Cond.methodLink RX6 168 yX5_isGuard, Cond.instanceMethod yX5_isGuard, Cond.selects RX5 yX5_isGuard yX5_isGuard, Cond.code yX5_isGuard cX5_isGuard 1 (some .boolean), Cond.methodLink RX6 172 yX1_bodyAbove, Cond.code yX6_doOps cX6_doOps 13 (some .long), Cond.fieldLink RX6 110 "PuppetCast$Part" "size" "I", Cond.methodLink RX6 115 yX5_opens, Cond.instanceMethod yX5_opens, Cond.selects RX5 yX5_opens yX5_opens, Cond.code yX5_opens cX5_opens 2 (some .boolean)]
def wsL_law_r34 : List Cond := [Cond.methodLink RX6 119 yX6_doOpening, Cond.instanceMethod yX6_doOpening, Cond.selects RX6 yX6_doOpening yX6_doOpening, Cond.methodLink RX6 123 yX6_doPlain, Cond.instanceMethod yX6_doPlain, Cond.selects RX6 yX6_doPlain yX6_doPlain, Cond.code yX6_doPlain cX6_doPlain 8 (some .long), Cond.methodLink RX6 133 yX7_add, Cond.instanceMethod yX7_add, Cond.selects RX7 yX7_add yX7_add, Cond.code yX7_add cX7_add 8 none, Cond.fieldLink RX7 15 "PuppetCast$Tape" "size" "I", Cond.methodLink RX6 137 yX2_putMood, Cond.instanceMethod yX2_putMood, Cond.selects RX2 yX2_putMood yX2_putMood, Cond.code yX2_putMood cX2_putMood 4 none, Cond.methodLink RX6 141 yX2_moodAt, Cond.instanceMethod yX2_moodAt, Cond.selects RX2 yX2_moodAt yX2_moodAt, Cond.code yX2_moodAt cX2_moodAt 2 (some .long), Cond.code yX6_goWithin cX6_goWithin 13 (some .long), Cond.fieldLink RX6 94 "PuppetCast$Part" "sort" "I", Cond.fieldLink RX6 101 "PuppetCast$Figure" "line" "LPuppetCast$Line;", Cond.fieldLink RX6 105 "PuppetCast$Line" "length" "I"]
def wsL_law_r35 : List Cond := [Cond.methodLink RX6 86 yX1_insteadPlace, Cond.instanceMethod yX1_insteadPlace, Cond.selects RX1 yX1_insteadPlace yX1_insteadPlace, Cond.code yX1_insteadPlace cX1_insteadPlace 6 (some .int), Cond.fieldLink RX1 182 "PuppetCast$Part" "sort" "I", Cond.methodLink RX6 90 yX1_guardAt, Cond.methodLink RL 99 yX10_play, Cond.instanceMethod yX10_play, Cond.selects RX10 yX10_play yX10_play, Cond.code yX10_play cX10_play 7 (some .int), Cond.fieldLink RX10 266 "PuppetCastModel" "marks" "I", Cond.fieldLink RX10 281 "PuppetCastModel" "did" "I", Cond.fieldLink RX10 243 "PuppetCastModel" "open" "I", Cond.fieldLink RX10 272 "PuppetCastModel" "most" "I", Cond.fieldLink RX10 236 "PuppetCastModel" "deep" "I", Cond.fieldLink RX10 292 "PuppetCastModel" "told" "J", Cond.fieldLink RX10 257 "PuppetCastModel" "by" "I", Cond.fieldLink RX10 262 "PuppetCastModel" "value" "J", Cond.methodLink RX10 275 yX10_against, Cond.instanceMethod yX10_against, Cond.selects RX10 yX10_against yX10_against, Cond.code yX10_against cX10_against 6 (some .int), Cond.methodLink RX10 253 yX10_pushLayer, Cond.instanceMethod yX10_pushLayer]
def wsL_law_r36 : List Cond := [Cond.selects RX10 yX10_pushLayer yX10_pushLayer, Cond.code yX10_pushLayer cX10_pushLayer 5 none, Cond.methodLink RX10 239 yX10_pushes, Cond.instanceMethod yX10_pushes, Cond.selects RX10 yX10_pushes yX10_pushes, Cond.code yX10_pushes cX10_pushes 5 none, Cond.methodLink RX10 295 yX10_does, Cond.instanceMethod yX10_does, Cond.selects RX10 yX10_does yX10_does, Cond.code yX10_does cX10_does 5 (some .int), Cond.methodLink RX10 246 yX10_pops, Cond.instanceMethod yX10_pops, Cond.selects RX10 yX10_pops yX10_pops, Cond.code yX10_pops cX10_pops 1 none, Cond.methodLink RX10 269 yX10_fails, Cond.instanceMethod yX10_fails, Cond.selects RX10 yX10_fails yX10_fails, Cond.code yX10_fails cX10_fails 3 (some .int), Cond.constantLong RX10 260 (-10), Cond.methodLink RX10 284 yX10_lays, Cond.instanceMethod yX10_lays, Cond.selects RX10 yX10_lays yX10_lays, Cond.code yX10_lays cX10_lays 3 none, Cond.methodLink RX10 278 yX10_isGuard]
def wsL_law_r37 : List Cond := [Cond.instanceMethod yX10_isGuard, Cond.selects RX10 yX10_isGuard yX10_isGuard, Cond.code yX10_isGuard cX10_isGuard 2 (some .boolean), Cond.methodLink RX10 288 yX10_opens, Cond.instanceMethod yX10_opens, Cond.selects RX10 yX10_opens yX10_opens, Cond.code yX10_opens cX10_opens 10 (some .int), Cond.methodLink RX10 249 yX10_pushOps, Cond.instanceMethod yX10_pushOps, Cond.selects RX10 yX10_pushOps yX10_pushOps, Cond.code yX10_pushOps cX10_pushOps 7 none, Cond.methodLink RX10 298 yX10_around, Cond.instanceMethod yX10_around, Cond.selects RX10 yX10_around yX10_around, Cond.code yX10_around cX10_around 7 none, Cond.methodLink RL 100 yX9_told, Cond.instanceMethod yX9_told, Cond.selects RX9 yX9_told yX9_told, Cond.code yX9_told cX9_told 2 (some .long), Cond.methodLink RX9 177 yX6_tellingOf, Cond.instanceMethod yX6_tellingOf, Cond.selects RX6 yX6_tellingOf yX6_tellingOf, Cond.code yX6_tellingOf cX6_tellingOf 2 (some .long), Cond.methodLink RL 104 yX10_told]
def wsL_law_r38 : List Cond := [Cond.instanceMethod yX10_told, Cond.selects RX10 yX10_told yX10_told, Cond.code yX10_told cX10_told 2 (some .long), Cond.methodLink RL 105 yX9_marks, Cond.instanceMethod yX9_marks, Cond.selects RX9 yX9_marks yX9_marks, Cond.code yX9_marks cX9_marks 1 (some .int), Cond.fieldLink RX9 181 "PuppetCast$Stage" "tape" "LPuppetCast$Tape;", Cond.fieldLink RX9 185 "PuppetCast$Tape" "size" "I", Cond.methodLink RL 109 yX10_marks, Cond.instanceMethod yX10_marks, Cond.selects RX10 yX10_marks yX10_marks, Cond.code yX10_marks cX10_marks 1 (some .int), Cond.methodLink RL 110 yX9_mark, Cond.instanceMethod yX9_mark, Cond.selects RX9 yX9_mark yX9_mark, Cond.code yX9_mark cX9_mark 3 (some .long), Cond.methodLink RX9 188 yX7_cell, Cond.instanceMethod yX7_cell, Cond.selects RX7 yX7_cell yX7_cell, Cond.code yX7_cell cX7_cell 3 (some .long), Cond.methodLink RL 114 yX10_mark, Cond.instanceMethod yX10_mark, Cond.selects RX10 yX10_mark yX10_mark]
def wsL_law_r39 : List Cond := [Cond.code yX10_mark cX10_mark 3 (some .long), Cond.methodLink RL 115 yX9_mood, Cond.instanceMethod yX9_mood, Cond.selects RX9 yX9_mood yX9_mood, Cond.code yX9_mood cX9_mood 4 (some .long), Cond.methodLink RX9 192 yX2_moodAt, Cond.methodLink RL 118 yX10_mood, Cond.instanceMethod yX10_mood, Cond.selects RX10 yX10_mood yX10_mood, Cond.code yX10_mood cX10_mood 3 (some .long), Cond.methodLink RL 119 yX9_setMood, Cond.instanceMethod yX9_setMood, Cond.selects RX9 yX9_setMood yX9_setMood, Cond.code yX9_setMood cX9_setMood 6 (some .int), Cond.methodLink RX9 195 yX2_putMood, Cond.methodLink RL 122 yX10_setMood, Cond.instanceMethod yX10_setMood, Cond.selects RX10 yX10_setMood yX10_setMood, Cond.code yX10_setMood cX10_setMood 5 (some .int), Cond.methodLink RL 123 yX9_count, Cond.instanceMethod yX9_count, Cond.selects RX9 yX9_count yX9_count, Cond.code yX9_count cX9_count 2 (some .int), Cond.methodLink RX9 199 yX1_countBodies]
def wsL_law_r40 : List Cond := [Cond.instanceMethod yX1_countBodies, Cond.selects RX1 yX1_countBodies yX1_countBodies, Cond.code yX1_countBodies cX1_countBodies 4 (some .int), Cond.methodLink RX1 185 yX8_countBodies, Cond.instanceMethod yX8_countBodies, Cond.selects RX8 yX8_countBodies yX8_countBodies, Cond.code yX8_countBodies cX8_countBodies 3 (some .int), Cond.methodLink RX8 31 yX8_bodyFor, Cond.methodLink RX9 202 yX1_countGuards, Cond.instanceMethod yX1_countGuards, Cond.selects RX1 yX1_countGuards yX1_countGuards, Cond.code yX1_countGuards cX1_countGuards 4 (some .int), Cond.methodLink RX1 189 yX8_countGuards, Cond.instanceMethod yX8_countGuards, Cond.selects RX8 yX8_countGuards yX8_countGuards, Cond.code yX8_countGuards cX8_countGuards 3 (some .int), Cond.methodLink RX8 35 yX8_guardFor, Cond.methodLink RX9 205 yX1_countClashes, Cond.instanceMethod yX1_countClashes, Cond.selects RX1 yX1_countClashes yX1_countClashes, Cond.code yX1_countClashes cX1_countClashes 4 (some .int), Cond.fieldLink RX1 196 "PuppetCast$Choice" "clash" "I", Cond.methodLink RX1 192 yX1_figureAt, Cond.methodLink RX9 208 yX1_countMissing]
def wsL_law_r41 : List Cond := [Cond.instanceMethod yX1_countMissing, Cond.selects RX1 yX1_countMissing yX1_countMissing, Cond.code yX1_countMissing cX1_countMissing 4 (some .int), Cond.fieldLink RX1 199 "PuppetCast$Choice" "giver" "I", Cond.methodLink RL 126 yX10_count, Cond.instanceMethod yX10_count, Cond.selects RX10 yX10_count yX10_count, Cond.code yX10_count cX10_count 5 (some .int), Cond.methodLink RL 127 yX9_digest, Cond.instanceMethod yX9_digest, Cond.selects RX9 yX9_digest yX9_digest, Cond.code yX9_digest cX9_digest 4 (some .long), Cond.constantLong RX9 211 (5), Cond.methodLink RX9 213 yX1_digestFigure, Cond.instanceMethod yX1_digestFigure, Cond.selects RX1 yX1_digestFigure yX1_digestFigure, Cond.code yX1_digestFigure cX1_digestFigure 8 (some .long), Cond.constantLong RX1 200 (31), Cond.methodLink RX1 202 yX2_moodAt, Cond.methodLink RL 131 yX10_digest, Cond.instanceMethod yX10_digest, Cond.selects RX10 yX10_digest yX10_digest, Cond.code yX10_digest cX10_digest 5 (some .long), Cond.constantLong RX10 302 (5)]
def wsL_law_r42 : List Cond := [Cond.constantLong RX10 304 (31)]
def wsL_law : List Cond := (wsL_law_r1 ++ (wsL_law_r2 ++ (wsL_law_r3 ++ (wsL_law_r4 ++ (wsL_law_r5 ++ (wsL_law_r6 ++ (wsL_law_r7 ++ (wsL_law_r8 ++ (wsL_law_r9 ++ (wsL_law_r10 ++ (wsL_law_r11 ++ (wsL_law_r12 ++ (wsL_law_r13 ++ (wsL_law_r14 ++ (wsL_law_r15 ++ (wsL_law_r16 ++ (wsL_law_r17 ++ (wsL_law_r18 ++ (wsL_law_r19 ++ (wsL_law_r20 ++ (wsL_law_r21 ++ (wsL_law_r22 ++ (wsL_law_r23 ++ (wsL_law_r24 ++ (wsL_law_r25 ++ (wsL_law_r26 ++ (wsL_law_r27 ++ (wsL_law_r28 ++ (wsL_law_r29 ++ (wsL_law_r30 ++ (wsL_law_r31 ++ (wsL_law_r32 ++ (wsL_law_r33 ++ (wsL_law_r34 ++ (wsL_law_r35 ++ (wsL_law_r36 ++ (wsL_law_r37 ++ (wsL_law_r38 ++ (wsL_law_r39 ++ (wsL_law_r40 ++ (wsL_law_r41 ++ wsL_law_r42))))))))))))))))))))))))))))))))))))))))) ++ wsX90 ++ wsX100 ++ wsX10 ++ wsX60 ++ wsX40 ++ wsX00 ++ wsX30 ++ wsX70 ++ wsX80 ++ wsX20 ++ wsX50 ++ ([] : List Cond)
theorem inlX0 : ∀ w ∈ wsX00, w ∈ wsL_law := fun _ h => List.mem_append_left _ (List.mem_append_left _ (List.mem_append_left _ (List.mem_append_left _ (List.mem_append_left _ (List.mem_append_left _ (List.mem_append_right _ h))))))
theorem inlX1 : ∀ w ∈ wsX10, w ∈ wsL_law := fun _ h => List.mem_append_left _ (List.mem_append_left _ (List.mem_append_left _ (List.mem_append_left _ (List.mem_append_left _ (List.mem_append_left _ (List.mem_append_left _ (List.mem_append_left _ (List.mem_append_left _ (List.mem_append_right _ h)))))))))
theorem inlX2 : ∀ w ∈ wsX20, w ∈ wsL_law := fun _ h => List.mem_append_left _ (List.mem_append_left _ (List.mem_append_right _ h))
theorem inlX3 : ∀ w ∈ wsX30, w ∈ wsL_law := fun _ h => List.mem_append_left _ (List.mem_append_left _ (List.mem_append_left _ (List.mem_append_left _ (List.mem_append_left _ (List.mem_append_right _ h)))))
theorem inlX4 : ∀ w ∈ wsX40, w ∈ wsL_law := fun _ h => List.mem_append_left _ (List.mem_append_left _ (List.mem_append_left _ (List.mem_append_left _ (List.mem_append_left _ (List.mem_append_left _ (List.mem_append_left _ (List.mem_append_right _ h)))))))
theorem inlX5 : ∀ w ∈ wsX50, w ∈ wsL_law := fun _ h => List.mem_append_left _ (List.mem_append_right _ h)
theorem inlX6 : ∀ w ∈ wsX60, w ∈ wsL_law := fun _ h => List.mem_append_left _ (List.mem_append_left _ (List.mem_append_left _ (List.mem_append_left _ (List.mem_append_left _ (List.mem_append_left _ (List.mem_append_left _ (List.mem_append_left _ (List.mem_append_right _ h))))))))
theorem inlX7 : ∀ w ∈ wsX70, w ∈ wsL_law := fun _ h => List.mem_append_left _ (List.mem_append_left _ (List.mem_append_left _ (List.mem_append_left _ (List.mem_append_right _ h))))
theorem inlX8 : ∀ w ∈ wsX80, w ∈ wsL_law := fun _ h => List.mem_append_left _ (List.mem_append_left _ (List.mem_append_left _ (List.mem_append_right _ h)))
theorem inlX9 : ∀ w ∈ wsX90, w ∈ wsL_law := fun _ h => List.mem_append_left _ (List.mem_append_left _ (List.mem_append_left _ (List.mem_append_left _ (List.mem_append_left _ (List.mem_append_left _ (List.mem_append_left _ (List.mem_append_left _ (List.mem_append_left _ (List.mem_append_left _ (List.mem_append_left _ (List.mem_append_right _ h)))))))))))
theorem inlX10 : ∀ w ∈ wsX100, w ∈ wsL_law := fun _ h => List.mem_append_left _ (List.mem_append_left _ (List.mem_append_left _ (List.mem_append_left _ (List.mem_append_left _ (List.mem_append_left _ (List.mem_append_left _ (List.mem_append_left _ (List.mem_append_left _ (List.mem_append_left _ (List.mem_append_right _ h))))))))))
abbrev vwCl : List vw_C := [(RX0, TX0, 10), (RX1, TX1, 6), (RX2, TX2, 13), (RX3, TX3, 3), (RX4, TX4, 5), (RX5, TX5, 9), (RX6, TX6, 7), (RX7, TX7, 2), (RX8, TX8, 3), (RX9, TX9, 3), (RX10, TX10, 55)]
end
section
/-! THE MEMORY of class and reference: addresses, kinds, array lengths, int / reference / long fields by (64 * class + slot, address), arrays by (address, place) -/
abbrev Mem : Type := List Nat × (Nat → Nat) × (Nat → Nat) × (Nat → Nat → Int32) × (Nat → Nat → Option Nat) × (Nat → Nat → Int64) × (Nat → Nat → Int32) × (Nat → Nat → Option Nat) × (Nat → Nat → Int64)
def mL (S : Mem) : List Nat := S.1
def mK (S : Mem) : Nat → Nat := S.2.1
def mN (S : Mem) : Nat → Nat := S.2.2.1
def mI (S : Mem) : Nat → Nat → Int32 := S.2.2.2.1
def mO (S : Mem) : Nat → Nat → Option Nat := S.2.2.2.2.1
def mJ (S : Mem) : Nat → Nat → Int64 := S.2.2.2.2.2.1
def mA (S : Mem) : Nat → Nat → Int32 := S.2.2.2.2.2.2.1
def mP (S : Mem) : Nat → Nat → Option Nat := S.2.2.2.2.2.2.2.1
def mQ (S : Mem) : Nat → Nat → Int64 := S.2.2.2.2.2.2.2.2
/-- two-place update -/
def up2 {α : Type} (f : Nat → Nat → α) (i j : Nat) (v : α) : Nat → Nat → α := fun i' j' => if i' = i ∧ j' = j then v else f i' j'
/-- a new address: all of its row gets one value -/
def upc {α : Type} (f : Nat → Nat → α) (j : Nat) (v : α) : Nat → Nat → α := fun i' j' => if j' = j then v else f i' j'
def upr {α : Type} (f : Nat → Nat → α) (i : Nat) (v : α) : Nat → Nat → α := fun i' j' => if i' = i then v else f i' j'
def sI (S : Mem) (g a : Nat) (v : Int32) : Mem := (mL S, mK S, mN S, up2 (mI S) g a v, mO S, mJ S, mA S, mP S, mQ S)
def sO (S : Mem) (g a : Nat) (v : Option Nat) : Mem := (mL S, mK S, mN S, mI S, up2 (mO S) g a v, mJ S, mA S, mP S, mQ S)
def sJ (S : Mem) (g a : Nat) (v : Int64) : Mem := (mL S, mK S, mN S, mI S, mO S, up2 (mJ S) g a v, mA S, mP S, mQ S)
def sA (S : Mem) (a i : Nat) (v : Int32) : Mem := (mL S, mK S, mN S, mI S, mO S, mJ S, up2 (mA S) a i v, mP S, mQ S)
def sP (S : Mem) (a i : Nat) (v : Option Nat) : Mem := (mL S, mK S, mN S, mI S, mO S, mJ S, mA S, up2 (mP S) a i v, mQ S)
def sQ (S : Mem) (a i : Nat) (v : Int64) : Mem := (mL S, mK S, mN S, mI S, mO S, mJ S, mA S, mP S, up2 (mQ S) a i v)
/-- a new object of class ci at a -/
def sNew (S : Mem) (a ci : Nat) : Mem := (mL S ++ [a], va_up (mK S) a ci, mN S, upc (mI S) a 0, upc (mO S) a none, upc (mJ S) a 0, mA S, mP S, mQ S)
/-- a new array of kind kd and length n at a -/
def sArr (S : Mem) (a kd n : Nat) : Mem := (mL S ++ [a], va_up (mK S) a kd, va_up (mN S) a n, mI S, mO S, mJ S, upr (mA S) a 0, upr (mP S) a none, upr (mQ S) a 0)
/-- the slots of each class: 0 an int, 1 a reference, 2 a long -/
def lay (c : Nat) : List Nat := match c with
  | 0 => [0, 1, 0, 0, 1, 1, 1, 0, 0, 0]
  | 1 => [1, 0, 1, 0, 1, 1]
  | 2 => [0, 0, 1, 1, 0, 1, 1, 0, 1, 1, 0, 1, 1]
  | 3 => [1, 1, 0]
  | 4 => [1, 1, 1, 1, 0]
  | 5 => [0, 0, 0, 0, 0, 1, 1, 1, 0]
  | 6 => [1, 1, 0, 0, 0, 0, 2]
  | 7 => [1, 0]
  | 8 => [1, 1, 1]
  | 9 => [1, 1, 1]
  | _ => [0, 1, 1, 0, 1, 1, 1, 1, 1, 1, 1, 1, 1, 1, 1, 1, 1, 1, 1, 0, 1, 1, 1, 1, 1, 1, 1, 1, 1, 0, 1, 1, 1, 1, 1, 1, 1, 1, 1, 1, 1, 1, 0, 2, 2, 0, 0, 0, 0, 0, 1, 1, 1, 1, 1]
def fv (S : Mem) (a g t : Nat) : Value := match t with
  | 0 => .int (mI S g a)
  | 1 => va_rf (mO S g a)
  | _ => .long (mJ S g a)
def fl (S : Mem) (a : Nat) : Nat → List Nat → List Value
  | _, [] => []
  | g, t :: r => fv S a g t :: fl S a (g + 1) r
theorem fl_len (S : Mem) (a : Nat) : ∀ (ts : List Nat) (g : Nat), (fl S a g ts).length = ts.length := by
  intro ts
  induction ts with
  | nil => intro g; rfl
  | cons t r ih => intro g; simp [fl, ih]
theorem fl_get (S : Mem) (a : Nat) : ∀ (ts : List Nat) (g k t : Nat), ts[k]? = some t → (fl S a g ts)[k]? = some (fv S a (g + k) t) := by
  intro ts
  induction ts with
  | nil => intro g k t h; simp at h
  | cons t0 r ih =>
    intro g k t h
    cases k with
    | zero => simp at h; subst h; simp [fl]
    | succ k =>
      simp at h
      have := ih (g + 1) k t h
      simp only [fl, List.getElem?_cons_succ]
      rw [this, show g + 1 + k = g + (k + 1) by omega]
theorem fl_cong {S S' : Mem} {a : Nat} : ∀ (ts : List Nat) (g : Nat), (∀ g' t, g ≤ g' → fv S' a g' t = fv S a g' t) → fl S' a g ts = fl S a g ts := by
  intro ts
  induction ts with
  | nil => intro g h; rfl
  | cons t r ih => intro g h; simp only [fl]; rw [h g t (Nat.le_refl g), ih (g + 1) (fun g' t hg => h g' t (by omega))]
theorem fl_set {S S' : Mem} {a : Nat} {gg tt : Nat} (hne : ∀ g' t, g' ≠ gg → fv S' a g' t = fv S a g' t) : ∀ (ts : List Nat) (g k : Nat), ts[k]? = some tt → g + k = gg → fl S' a g ts = (fl S a g ts).set k (fv S' a gg tt) := by
  intro ts
  induction ts with
  | nil => intro g k h; simp at h
  | cons t0 r ih =>
    intro g k h e
    cases k with
    | zero =>
      simp at h e; subst h; subst e
      simp only [fl, List.set_cons_zero]
      rw [fl_cong r (g + 1) (fun g' t hg => hne g' t (by omega))]
    | succ k =>
      simp at h
      simp only [fl, List.set_cons_succ]
      rw [hne g t0 (by omega), ih (g + 1) k h (by omega)]
/-- what stands at an address -/
def cellF (G : Nat → ClassId) (S : Mem) (a : Nat) : va_E :=
  if mK S a < 11 then .inr (mK S a, fl S a (64 * mK S a) (lay (mK S a)))
  else if mK S a = 12 then .inl (G 12, mN S a, .inr (.inl (mQ S a)))
  else if mK S a < 14 then .inl (G (mK S a), mN S a, .inl (mA S a))
  else .inl (G (mK S a), mN S a, .inr (.inr (.inr (.inr (mP S a)))))
theorem cell_obj {G : Nat → ClassId} {S : Mem} {a ci : Nat} (h : mK S a = ci) (hc : ci < 11) : cellF G S a = .inr (ci, fl S a (64 * ci) (lay ci)) := by
  subst h; simp [cellF, hc]
theorem cell_I {G : Nat → ClassId} {S : Mem} {a : Nat} (h : mK S a = 11) : cellF G S a = .inl (G 11, mN S a, .inl (mA S a)) := by simp [cellF, h]
theorem cell_J {G : Nat → ClassId} {S : Mem} {a : Nat} (h : mK S a = 12) : cellF G S a = .inl (G 12, mN S a, .inr (.inl (mQ S a))) := by simp [cellF, h]
theorem cell_Z {G : Nat → ClassId} {S : Mem} {a : Nat} (h : mK S a = 13) : cellF G S a = .inl (G 13, mN S a, .inl (mA S a)) := by simp [cellF, h]
theorem cell_P {G : Nat → ClassId} {S : Mem} {a kd : Nat} (h : mK S a = kd) (hk : 13 < kd) : cellF G S a = .inl (G kd, mN S a, .inr (.inr (.inr (.inr (mP S a))))) := by
  subst h
  simp only [cellF]
  rw [if_neg (by omega), if_neg (by omega), if_neg (by omega)]
/-- a store into a field: what cellF says afterwards -/
theorem cell_set {G : Nat → ClassId} {S S' : Mem} {a ci k tt : Nat} (hK : mK S' = mK S) (hN : mN S' = mN S) (hA : mA S' = mA S) (hP : mP S' = mP S) (hQ : mQ S' = mQ S) (h : mK S a = ci) (hc : ci < 11) (hk : (lay ci)[k]? = some tt)
    (hne : ∀ g' t, g' ≠ 64 * ci + k → fv S' a g' t = fv S a g' t) (hoth : ∀ b g' t, b ≠ a → fv S' b g' t = fv S b g' t) (b : Nat) :
    va_up (cellF G S) a (.inr (ci, (fl S a (64 * ci) (lay ci)).set k (fv S' a (64 * ci + k) tt))) b = cellF G S' b := by
  by_cases hb : b = a
  · subst hb
    rw [va_up_self, cell_obj (S := S') (by rw [hK]; exact h) hc, fl_set hne (lay ci) (64 * ci) k hk rfl]
  · rw [va_up_ne _ _ hb]
    simp only [cellF, hK, hN, hA, hP, hQ]
    split
    · rw [fl_cong (S := S) (S' := S') _ _ (fun g' t _ => hoth b g' t hb)]
    · rfl
theorem cell_setA {G : Nat → ClassId} {S S' : Mem} {a : Nat} {e : va_E} (hK : mK S' = mK S) (hN : mN S' = mN S) (hI : mI S' = mI S) (hO : mO S' = mO S) (hJ : mJ S' = mJ S) (he : cellF G S' a = e)
    (hA : ∀ b, b ≠ a → mA S' b = mA S b) (hP : ∀ b, b ≠ a → mP S' b = mP S b) (hQ : ∀ b, b ≠ a → mQ S' b = mQ S b) (b : Nat) :
    va_up (cellF G S) a e b = cellF G S' b := by
  by_cases hb : b = a
  · subst hb; rw [va_up_self, he]
  · rw [va_up_ne _ _ hb]
    simp only [cellF, hK, hN, hA b hb, hP b hb, hQ b hb]
    split
    · rw [fl_cong (S := S) (S' := S') _ _ (fun g' t _ => by simp only [fv, hI, hO, hJ])]
    · rfl
theorem cell_new {G : Nat → ClassId} {S S' : Mem} {a : Nat} {e : va_E} (he : cellF G S' a = e) (h : ∀ b, b ≠ a → mK S' b = mK S b ∧ mN S' b = mN S b ∧ mA S' b = mA S b ∧ mP S' b = mP S b ∧ mQ S' b = mQ S b ∧ ∀ g t, fv S' b g t = fv S b g t) (b : Nat) :
    va_up (cellF G S) a e b = cellF G S' b := by
  by_cases hb : b = a
  · subst hb; rw [va_up_self, he]
  · obtain ⟨h1, h2, h3, h4, h5, h6⟩ := h b hb
    rw [va_up_ne _ _ hb]
    simp only [cellF, h1, h2, h3, h4, h5]
    split
    · rw [fl_cong (S := S) (S' := S') _ _ (fun g' t _ => h6 g' t)]
    · rfl
theorem fv_sI_ne {S : Mem} {g a b g' t : Nat} {v : Int32} (h : g' ≠ g ∨ b ≠ a) : fv (sI S g a v) b g' t = fv S b g' t := by
  simp only [fv, sI, mI, mO, mJ, up2]
  split <;> first | rfl | (rw [if_neg (by rintro ⟨h1, h2⟩; rcases h with h | h <;> contradiction)])
theorem fv_sO_ne {S : Mem} {g a b g' t : Nat} {v : Option Nat} (h : g' ≠ g ∨ b ≠ a) : fv (sO S g a v) b g' t = fv S b g' t := by
  simp only [fv, sO, mI, mO, mJ, up2]
  split <;> first | rfl | (rw [if_neg (by rintro ⟨h1, h2⟩; rcases h with h | h <;> contradiction)])
theorem fv_sJ_ne {S : Mem} {g a b g' t : Nat} {v : Int64} (h : g' ≠ g ∨ b ≠ a) : fv (sJ S g a v) b g' t = fv S b g' t := by
  simp only [fv, sJ, mI, mO, mJ, up2]
  split <;> first | rfl | (rw [if_neg (by rintro ⟨h1, h2⟩; rcases h with h | h <;> contradiction)])
theorem fv_sI {S : Mem} {g a : Nat} {v : Int32} : fv (sI S g a v) a g 0 = .int v := by simp [fv, sI, mI, up2]
theorem fv_sO {S : Mem} {g a : Nat} {v : Option Nat} : fv (sO S g a v) a g 1 = va_rf v := by simp [fv, sO, mO, up2]
theorem fv_sJ {S : Mem} {g a : Nat} {v : Int64} : fv (sJ S g a v) a g 2 = .long v := by simp [fv, sJ, mJ, up2]
theorem cell_sI {G : Nat → ClassId} {S : Mem} {a ci k : Nat} (v : Int32) (h : mK S a = ci) (hc : ci < 11) (hk : (lay ci)[k]? = some 0) (b : Nat) : va_up (cellF G S) a (.inr (ci, (fl S a (64 * ci) (lay ci)).set k (.int v))) b = cellF G (sI S (64 * ci + k) a v) b := by
  rw [← fv_sI (S := S) (g := 64 * ci + k) (a := a) (v := v)]
  exact cell_set (S := S) (S' := sI S (64 * ci + k) a v) rfl rfl rfl rfl rfl h hc hk (fun g' t hg => fv_sI_ne (Or.inl hg)) (fun b g' t hb => fv_sI_ne (Or.inr hb)) b
theorem cell_sO {G : Nat → ClassId} {S : Mem} {a ci k : Nat} (v : Option Nat) (h : mK S a = ci) (hc : ci < 11) (hk : (lay ci)[k]? = some 1) (b : Nat) : va_up (cellF G S) a (.inr (ci, (fl S a (64 * ci) (lay ci)).set k (va_rf v))) b = cellF G (sO S (64 * ci + k) a v) b := by
  rw [← fv_sO (S := S) (g := 64 * ci + k) (a := a) (v := v)]
  exact cell_set (S := S) (S' := sO S (64 * ci + k) a v) rfl rfl rfl rfl rfl h hc hk (fun g' t hg => fv_sO_ne (Or.inl hg)) (fun b g' t hb => fv_sO_ne (Or.inr hb)) b
theorem cell_sJ {G : Nat → ClassId} {S : Mem} {a ci k : Nat} (v : Int64) (h : mK S a = ci) (hc : ci < 11) (hk : (lay ci)[k]? = some 2) (b : Nat) : va_up (cellF G S) a (.inr (ci, (fl S a (64 * ci) (lay ci)).set k (.long v))) b = cellF G (sJ S (64 * ci + k) a v) b := by
  rw [← fv_sJ (S := S) (g := 64 * ci + k) (a := a) (v := v)]
  exact cell_set (S := S) (S' := sJ S (64 * ci + k) a v) rfl rfl rfl rfl rfl h hc hk (fun g' t hg => fv_sJ_ne (Or.inl hg)) (fun b g' t hb => fv_sJ_ne (Or.inr hb)) b
theorem up2_row {α : Type} (f : Nat → Nat → α) (a i : Nat) (v : α) : up2 f a i v a = fun j => if j = i then v else f a j := by funext j; simp [up2]
theorem up2_row_ne {α : Type} (f : Nat → Nat → α) {a b : Nat} (i : Nat) (v : α) (h : b ≠ a) : up2 f a i v b = f b := by funext j; simp [up2, h]
theorem cell_sA {G : Nat → ClassId} {S : Mem} {a kd : Nat} (i : Nat) (v : Int32) (h : mK S a = kd) (hk : kd = 11 ∨ kd = 13) (b : Nat) : va_up (cellF G S) a (.inl (G kd, mN S a, .inl (upd (mA S a) i v))) b = cellF G (sA S a i v) b := by
  refine cell_setA (S := S) (S' := sA S a i v) rfl rfl rfl rfl rfl ?_ (fun b hb => up2_row_ne _ _ _ hb) (fun b hb => rfl) (fun b hb => rfl) b
  have e : mA (sA S a i v) a = upd (mA S a) i v := by show up2 (mA S) a i v a = _; rw [up2_row]; rfl
  rcases hk with rfl | rfl
  · rw [cell_I (S := sA S a i v) h, e]; rfl
  · rw [cell_Z (S := sA S a i v) h, e]; rfl
theorem cell_sP {G : Nat → ClassId} {S : Mem} {a kd : Nat} (i : Nat) (v : Option Nat) (h : mK S a = kd) (hk : 13 < kd) (b : Nat) : va_up (cellF G S) a (.inl (G kd, mN S a, .inr (.inr (.inr (.inr (va_up (mP S a) i v)))))) b = cellF G (sP S a i v) b := by
  refine cell_setA (S := S) (S' := sP S a i v) rfl rfl rfl rfl rfl ?_ (fun b hb => rfl) (fun b hb => up2_row_ne _ _ _ hb) (fun b hb => rfl) b
  have e : mP (sP S a i v) a = va_up (mP S a) i v := by show up2 (mP S) a i v a = _; rw [up2_row]; rfl
  rw [cell_P (S := sP S a i v) h hk, e]; rfl
theorem cell_sQ {G : Nat → ClassId} {S : Mem} {a : Nat} (i : Nat) (v : Int64) (h : mK S a = 12) (b : Nat) : va_up (cellF G S) a (.inl (G 12, mN S a, .inr (.inl (vp_updL (mQ S a) i v)))) b = cellF G (sQ S a i v) b := by
  refine cell_setA (S := S) (S' := sQ S a i v) rfl rfl rfl rfl rfl ?_ (fun b hb => rfl) (fun b hb => rfl) (fun b hb => up2_row_ne _ _ _ hb) b
  have e : mQ (sQ S a i v) a = vp_updL (mQ S a) i v := by show up2 (mQ S) a i v a = _; rw [up2_row]; rfl
  rw [cell_J (S := sQ S a i v) h, e]; rfl
theorem fv_sNew_ne {S : Mem} {a ci b g t : Nat} (h : b ≠ a) : fv (sNew S a ci) b g t = fv S b g t := by
  simp only [fv, sNew, mI, mO, mJ, upc, if_neg h]
/-- the fields of a new object -/
def fl0 : List Nat → List Value
  | [] => []
  | t :: r => (match t with | 0 => .int 0 | 1 => .null | _ => .long 0) :: fl0 r
theorem fl_new {S : Mem} {a ci : Nat} : ∀ (ts : List Nat) (g : Nat), fl (sNew S a ci) a g ts = fl0 ts := by
  intro ts
  induction ts with
  | nil => intro g; rfl
  | cons t r ih =>
    intro g
    simp only [fl, fl0, ih]
    congr 1
    simp only [fv, sNew, mI, mO, mJ, upc, if_true]
    split <;> rfl
theorem cell_sNew {G : Nat → ClassId} {S : Mem} {a ci : Nat} (hc : ci < 11) (b : Nat) : va_up (cellF G S) a (.inr (ci, fl0 (lay ci))) b = cellF G (sNew S a ci) b := by
  refine cell_new (S := S) (S' := sNew S a ci) ?_ (fun b hb => ⟨va_up_ne _ _ hb, rfl, rfl, rfl, rfl, fun g t => fv_sNew_ne hb⟩) b
  rw [cell_obj (S := sNew S a ci) (va_up_self _ _ _) hc, fl_new]
theorem fv_sArr {S : Mem} {a kd n b g t : Nat} : fv (sArr S a kd n) b g t = fv S b g t := rfl
theorem upr_ne {α : Type} (f : Nat → Nat → α) {a b : Nat} (v : α) (h : b ≠ a) : upr f a v b = f b := by funext j; simp [upr, h]
theorem upr_self {α : Type} (f : Nat → Nat → α) {a : Nat} (v : α) : upr f a v a = fun _ => v := by funext j; simp [upr]
theorem cell_sArr {G : Nat → ClassId} {S : Mem} {a kd n : Nat} {e : va_E} (he : cellF G (sArr S a kd n) a = e) (b : Nat) : va_up (cellF G S) a e b = cellF G (sArr S a kd n) b :=
  cell_new (S := S) (S' := sArr S a kd n) he (fun b hb => ⟨va_up_ne _ _ hb, va_up_ne _ _ hb, upr_ne _ _ hb, upr_ne _ _ hb, upr_ne _ _ hb, fun g t => rfl⟩) b
theorem cell_newI {G : Nat → ClassId} {S : Mem} {a kd n : Nat} (h : kd = 11 ∨ kd = 13) : cellF G (sArr S a kd n) a = .inl (G kd, n, .inl (fun _ => 0)) := by
  have h1 : mA (sArr S a kd n) a = fun _ => 0 := upr_self _ _
  have h2 : mN (sArr S a kd n) a = n := va_up_self _ _ _
  have h3 : mK (sArr S a kd n) a = kd := va_up_self _ _ _
  rcases h with rfl | rfl
  · rw [cell_I h3, h1, h2]
  · rw [cell_Z h3, h1, h2]
theorem cell_newJ {G : Nat → ClassId} {S : Mem} {a n : Nat} : cellF G (sArr S a 12 n) a = .inl (G 12, n, .inr (.inl (fun _ => 0))) := by
  have h1 : mQ (sArr S a 12 n) a = fun _ => 0 := upr_self _ _
  have h2 : mN (sArr S a 12 n) a = n := va_up_self _ _ _
  have h3 : mK (sArr S a 12 n) a = 12 := va_up_self _ _ _
  rw [cell_J h3, h1, h2]
theorem cell_newP {G : Nat → ClassId} {S : Mem} {a kd n : Nat} (h : 13 < kd) : cellF G (sArr S a kd n) a = .inl (G kd, n, .inr (.inr (.inr (.inr (fun _ => none))))) := by
  have h1 : mP (sArr S a kd n) a = fun _ => none := upr_self _ _
  have h2 : mN (sArr S a kd n) a = n := va_up_self _ _ _
  have h3 : mK (sArr S a kd n) a = kd := va_up_self _ _ _
  rw [cell_P h3 h, h1, h2]
end
section
/-! THE JUDGEMENT V over the memory, and its rows -/
def nests : List (String × Nat × MethodName) := [(RX9, 9, yX1_init), (RX1, 25, yX4_init), (RX1, 32, yX0_init), (RX6, 11, yX7_init), (RX1, 37, yX9_isBelow), (RX3, 28, yX9_isBelow), (RX4, 44, yX9_isBelow), (RX1, 79, yX8_init), (RX2, 61, yX9_isBelow), (RX8, 27, yX9_isBelow), (RX5, 41, yX9_isBelow), (RX7, 19, yX9_isBelow)]
def nestW (q : String × Nat × MethodName) : Cond := .methodLinkNest q.1 q.2.1 q.2.2 "PuppetCast"
def aoW : List String := [RX2, RX3, RX5, RX8]
def tysG (G : Nat → ClassId) : List (ClassId × FieldType) := [(G 11, .int), (G 12, .long), (G 13, .boolean), (G 14, .object RX2), (G 15, .object RX3), (G 16, .object RX5), (G 17, .object RX8)]
def hW (D : va_G) (G : Nat → ClassId) (bs : Nat) (S : Mem) (H : Heap) : Prop := va_P D vwCl (va_pl (mL S) (cellF G S)) H ∧ va_D (fun q => bs ≤ q) (va_pl (mL S) (cellF G S))
def tW (D : va_G) (G : Nat → ClassId) (U : State) : Prop := va_K D vwCl (tysG G) U ∧ (∀ q ∈ nests, va_Nw (nestW q) U) ∧ ∀ C ∈ aoW, va_AO C U
def wu (D : va_G) (G : Nat → ClassId) (bs : Nat) (S : Mem) (U : State) : Prop := hW D G bs S U.heap ∧ tW D G U ∧ bs ≤ U.heap.size
theorem tW.moved {D : va_G} {G : Nat → ClassId} {s U : State} (hW : s.WarmedH U.vm) (h : tW D G s) : tW D G U :=
  ⟨va_K.moved hW.alike h.1, fun q hq => va_Nw.warmM hW (h.2.1 q hq), fun C hC => va_AO.moved hW.alike (h.2.2 C hC)⟩
theorem tW.calling {D : va_G} {G : Nat → ClassId} {U : State} {g : JFrame} {mk : MethodId} {a : Array Value} (h : tW D G U) : tW D G (U.calling g mk a) :=
  ⟨va_K.moved (u := U) (U := U.calling g mk a) (Vm.Alike.refl U.vm) h.1, fun q hq => va_Nw.same (u := U) (U := U.calling g mk a) rfl rfl (h.2.1 q hq), fun C hC => va_AO.moved (u := U) (U := U.calling g mk a) (Vm.Alike.refl U.vm) (h.2.2 C hC)⟩
theorem wu.blind {D : va_G} {G : Nat → ClassId} {bs : Nat} {S : Mem} (av : List Value) : FrameBlind (va_Pc av (wu D G bs S)) := fun _ _ _ _ h => ⟨h.1, h.2.1, h.2.2.1.calling, h.2.2.2⟩
/-- a contract's end: the answer, the memory behind it; only what is from bs on may have changed -/
def QcT (D : va_G) (G : Nat → ClassId) (bs : Nat) (S : Mem) (av : List Value) (Post : Mem → List Value → Option Value → Mem → Prop) : Array Value → State → Outcome → State → Prop :=
  fun _ st oc t => (∃ (r : Option Value) (S' : Mem), oc = .returned r ∧ Post S av r S' ∧ hW D G bs S' t.heap) ∧ va_F (fun q => bs ≤ q) st t
/-- a contract: in any memory that meets Pre -/
def Ct (l : Launch) (y : MethodName) (cc : ByteArray) (maxL : Nat) (ret : Option FieldType) (f mc ms lo : Nat) (Pre : Mem → List Value → Prop) (Post : Mem → List Value → Option Value → Mem → Prop) : Prop :=
  ∀ (D : va_G) (G : Nat → ClassId) (bs : Nat) (S : Mem) (av : List Value), Pre S av → Met l y (.code y cc maxL ret :: wsL_law) ({ frames := f, cells := mc, slots := ms, locals := lo } : Room) (va_Pc av (wu D G bs S)) (QcT D G bs S av Post) mc ms (fun q => bs ≤ q)
def lvl : Nat → List (Option Value) → List (Nat × Value)
  | _, [] => []
  | i, none :: r => lvl (i + 1) r
  | i, some v :: r => (i, v) :: lvl (i + 1) r
theorem lvl_mem : ∀ (lv : List (Option Value)) (i j : Nat) (v : Value), lv[j]? = some (some v) → (i + j, v) ∈ lvl i lv := by
  intro lv
  induction lv with
  | nil => intro i j v h; simp at h
  | cons o r ih =>
    intro i j v h
    cases j with
    | zero => simp at h; subst h; simp [lvl]
    | succ j =>
      simp at h
      have h2 := ih (i + 1) j v h
      rw [show i + 1 + j = i + (j + 1) by omega] at h2
      cases o with
      | none => exact h2
      | some w => exact List.mem_cons_of_mem _ h2
theorem lvl_mem0 {lv : List (Option Value)} {j : Nat} {v : Value} (h : lv[j]? = some (some v)) : (j, v) ∈ lvl 0 lv := by
  have := lvl_mem lv 0 j v h
  rwa [Nat.zero_add] at this
theorem lvl_of : ∀ (lv : List (Option Value)) (i : Nat) (q : Nat × Value), q ∈ lvl i lv → ∃ j, q.1 = i + j ∧ lv[j]? = some (some q.2) := by
  intro lv
  induction lv with
  | nil => intro i q h; simp [lvl] at h
  | cons o r ih =>
    intro i q h
    cases o with
    | none =>
      obtain ⟨j, e, h2⟩ := ih (i + 1) q h
      exact ⟨j + 1, by omega, by simpa using h2⟩
    | some w =>
      rcases List.mem_cons.mp h with e | h
      · subst e; exact ⟨0, rfl, rfl⟩
      · obtain ⟨j, e, h2⟩ := ih (i + 1) q h
        exact ⟨j + 1, by omega, by simpa using h2⟩
theorem lvl_get {ls : Array Slot} {nL : Nat} {lv : List (Option Value)} (h : lv_has ls nL (lvl 0 lv)) {j : Nat} {v : Value} (hl : lv[j]? = some (some v)) : ls[j]? = some (.val v) := h.2.2 (j, v) (lvl_mem0 hl)
/-- what stands ahead of a place is no long -/
def okS (lv : List (Option Value)) : Nat → Bool
  | 0 => true
  | k + 1 => match lv[k]? with
    | some (some v) => v.category == 1
    | _ => true
theorem okS_of {lv : List (Option Value)} {i j : Nat} {v : Value} (h : okS lv i = true) (hj : lv[j]? = some (some v)) (e : j + 1 = i) : v.category = 1 := by
  subst e
  simpa [okS, hj] using h
theorem lvl_put {ls : Array Slot} {nL i : Nat} {lv : List (Option Value)} {v : Value} (h : lv_has ls nL ((i, v) :: (lvl 0 lv).filter (fun q => !(q.1 == i) && !(q.1 + 1 == i && q.2.category == 2)))) (ho : okS lv i = true) : lv_has ls nL (lvl 0 (lv.set i (some v))) := by
  refine ⟨h.1, h.2.1, fun q hq => ?_⟩
  obtain ⟨j, e, hj⟩ := lvl_of _ _ _ hq
  obtain ⟨q1, q2⟩ := q
  simp only [Nat.zero_add] at e
  subst e
  by_cases hji : q1 = i
  · subst hji
    have hlt : q1 < lv.length := by
      have := (List.getElem?_eq_some_iff.mp hj).1
      simpa using this
    rw [List.getElem?_set_self hlt] at hj
    cases hj
    exact h.2.2 _ List.mem_cons_self
  · rw [List.getElem?_set_ne (Ne.symm hji)] at hj
    refine h.2.2 (q1, q2) (List.mem_cons_of_mem _ (List.mem_filter.mpr ⟨lvl_mem0 hj, ?_⟩))
    simp only [Bool.and_eq_true, Bool.not_eq_true', beq_eq_false_iff_ne, ne_eq, Bool.and_eq_false_imp, beq_iff_eq]
    refine ⟨hji, fun z => ?_⟩
    rw [okS_of ho hj z]
    decide
theorem lvl_putL {ls : Array Slot} {nL i : Nat} {lv : List (Option Value)} {v : Value} (h : lv_has ls nL ((i, v) :: (lvl 0 lv).filter (fun q => !(q.1 == i) && (!(q.1 == i + 1) && !(q.1 + 1 == i && q.2.category == 2))))) (ho : okS lv i = true) : lv_has ls nL (lvl 0 ((lv.set i (some v)).set (i + 1) none)) := by
  refine ⟨h.1, h.2.1, fun q hq => ?_⟩
  obtain ⟨j, e, hj⟩ := lvl_of _ _ _ hq
  obtain ⟨q1, q2⟩ := q
  simp only [Nat.zero_add] at e
  subst e
  by_cases hj1 : q1 = i + 1
  · subst hj1
    have hlt : i + 1 < (lv.set i (some v)).length := by
      have := (List.getElem?_eq_some_iff.mp hj).1
      simpa using this
    rw [List.getElem?_set_self hlt] at hj
    cases hj
  · rw [List.getElem?_set_ne (Ne.symm hj1)] at hj
    by_cases hji : q1 = i
    · subst hji
      have hlt : q1 < lv.length := by
        have := (List.getElem?_eq_some_iff.mp hj).1
        simpa using this
      rw [List.getElem?_set_self hlt] at hj
      cases hj
      exact h.2.2 _ List.mem_cons_self
    · rw [List.getElem?_set_ne (Ne.symm hji)] at hj
      refine h.2.2 (q1, q2) (List.mem_cons_of_mem _ (List.mem_filter.mpr ⟨lvl_mem0 hj, ?_⟩))
      simp only [Bool.and_eq_true, Bool.not_eq_true', beq_eq_false_iff_ne, ne_eq, Bool.and_eq_false_imp, beq_iff_eq]
      refine ⟨hji, hj1, fun z => ?_⟩
      rw [okS_of ho hj z]
      decide
/-- the locals at a method's entry -/
def argl : Nat → List Value → List (Option Value)
  | n, [] => List.replicate n none
  | n, v :: r => some v :: (if v.category = 2 then none :: argl (n - 2) r else argl (n - 1) r)
theorem lvl_rep (n i : Nat) : lvl i (List.replicate n none) = [] := by
  induction n generalizing i with
  | zero => rfl
  | succ n ih => simp only [List.replicate_succ, lvl, ih]
theorem lvl_argl : ∀ (vs : List Value) (n i : Nat), lvl i (argl n vs) = lv_args i vs := by
  intro vs
  induction vs with
  | nil => intro n i; exact lvl_rep n i
  | cons v r ih =>
    intro n i
    simp only [argl, lvl, lv_args]
    by_cases h : v.category = 2
    · simp only [if_pos h, lvl, ih]
    · simp only [if_neg h, ih]
theorem cat_rf (o : Option Nat) : (va_rf o).category = 1 := by cases o <;> rfl
/-- a method's frame at its launch: what all rows ask -/
def Cx (p : Program) (s : State) (m : MethodId) (args : Array Value) (meth : Method) (c : Code) (D : va_G) (G : Nat → ClassId) (bs : Nat) (cc : ByteArray) (nL : Nat) (own : String) : Prop :=
  p.tables.exec = Jvm.exec ∧ c.code = cc ∧ c.maxLocals = nL ∧ s.vm.findClass own = some m.cls ∧ (∀ w ∈ wsL_law, w.before args s = true) ∧ tW D G s ∧ bs ≤ s.heap.size ∧ meth.locks = false
def V (p : Program) (l : Launch) (e : Env) (R : Room) (s : State) (m : MethodId) (args : Array Value) (below : List Frame) (meth : Method) (c : Code) (D : va_G) (G : Nat → ClassId) (bs nL : Nat) (Q : State → Prop) (cells slots : Nat) (S : Mem) (pc : Nat) (lv : List (Option Value)) (st : List Value) : Prop :=
  ∀ (H : Heap) (locs : List Loc) (ls : Array Slot), va_P D vwCl (va_pl (mL S) (cellF G S)) H → va_D (fun q => bs ≤ q) (va_pl (mL S) (cellF G S)) → va_S (fun q => bs ≤ q) s.heap H locs → lv_has ls nL (lvl 0 lv) → W p l e R s m args below meth c H locs cells slots Q (F0 m pc ls st)
/-- an address of a kind -/
def is (S : Mem) (a k : Nat) : Prop := a ∈ mL S ∧ mK S a = k
/-- an array of a kind and a length -/
def isA (S : Mem) (a k n : Nat) : Prop := a ∈ mL S ∧ mK S a = k ∧ mN S a = n
section ROWS
variable {p : Program} {l : Launch} {e : Env} {R : Room} {s : State} {m : MethodId} {args : Array Value} {below : List Frame} {meth : Method} {c : Code} {D : va_G} {G : Nat → ClassId} {bs nL cells slots pc : Nat} {cc : ByteArray} {own : String} {Q : State → Prop} {S : Mem} {lv : List (Option Value)} {st : List Value}

theorem v_iconst (C : Cx p s m args meth c D G bs cc nL own) {n : Int} {v : Int32} (hd : decode cc pc = .ok (.iconst n, 1)) (hv : Int32.ofInt n = v) (k : V p l e R s m args below meth c D G bs nL Q cells slots S (pc + 1) lv (.int v :: st)) : V p l e R s m args below meth c D G bs nL Q cells slots S (pc) lv (st) :=
  fun H locs ls h1 h2 h3 h4 => lv_iconst C.1 C.2.1 hd hv (k H locs ls h1 h2 h3 h4)
theorem v_bipush (C : Cx p s m args meth c D G bs cc nL own) {n : Int} {v : Int32} (hd : decode cc pc = .ok (.bipush n, 2)) (hv : (Int8.ofInt n).toInt32 = v) (k : V p l e R s m args below meth c D G bs nL Q cells slots S (pc + 2) lv (.int v :: st)) : V p l e R s m args below meth c D G bs nL Q cells slots S (pc) lv (st) :=
  fun H locs ls h1 h2 h3 h4 => lv_bipush C.1 C.2.1 hd hv (k H locs ls h1 h2 h3 h4)
theorem v_sipush (C : Cx p s m args meth c D G bs cc nL own) {n : Int} {v : Int32} (hd : decode cc pc = .ok (.sipush n, 3)) (hv : (Int16.ofInt n).toInt32 = v) (k : V p l e R s m args below meth c D G bs nL Q cells slots S (pc + 3) lv (.int v :: st)) : V p l e R s m args below meth c D G bs nL Q cells slots S (pc) lv (st) :=
  fun H locs ls h1 h2 h3 h4 => lv_sipush C.1 C.2.1 hd hv (k H locs ls h1 h2 h3 h4)
theorem v_lconst (C : Cx p s m args meth c D G bs cc nL own) {n : Fin 2} {v : Int64} (hd : decode cc pc = .ok (.lconst n, 1)) (hv : Int64.ofNat (n : Nat) = v) (k : V p l e R s m args below meth c D G bs nL Q cells slots S (pc + 1) lv (.long v :: st)) : V p l e R s m args below meth c D G bs nL Q cells slots S (pc) lv (st) :=
  fun H locs ls h1 h2 h3 h4 => lv_lconst C.1 C.2.1 hd hv (k H locs ls h1 h2 h3 h4)
theorem v_null (C : Cx p s m args meth c D G bs cc nL own) (hd : decode cc pc = .ok (.aconst_null, 1)) (k : V p l e R s m args below meth c D G bs nL Q cells slots S (pc + 1) lv (va_rf none :: st)) : V p l e R s m args below meth c D G bs nL Q cells slots S (pc) lv (st) :=
  fun H locs ls h1 h2 h3 h4 => lv_null C.1 C.2.1 hd (k H locs ls h1 h2 h3 h4)
theorem v_ldc (C : Cx p s m args meth c D G bs cc nL own) {i : Nat} {v : Int32} (hw : Cond.constant own i v ∈ wsL_law) (hd : decode cc pc = .ok (.ldc i, 2)) (k : V p l e R s m args below meth c D G bs nL Q cells slots S (pc + 2) lv (.int v :: st)) : V p l e R s m args below meth c D G bs nL Q cells slots S (pc) lv (st) :=
  fun H locs ls h1 h2 h3 h4 => lv_ldc C.1 C.2.1 C.2.2.2.1 (C.2.2.2.2.1 _ hw) hd (k H locs ls h1 h2 h3 h4)
theorem v_ldcw (C : Cx p s m args meth c D G bs cc nL own) {i : Nat} {v : Int32} (hw : Cond.constant own i v ∈ wsL_law) (hd : decode cc pc = .ok (.ldc_w i, 3)) (k : V p l e R s m args below meth c D G bs nL Q cells slots S (pc + 3) lv (.int v :: st)) : V p l e R s m args below meth c D G bs nL Q cells slots S (pc) lv (st) :=
  fun H locs ls h1 h2 h3 h4 => lv_ldcw C.1 C.2.1 C.2.2.2.1 (C.2.2.2.2.1 _ hw) hd (k H locs ls h1 h2 h3 h4)
theorem v_ldc2 (C : Cx p s m args meth c D G bs cc nL own) {i : Nat} {v : Int64} (hw : Cond.constantLong own i v ∈ wsL_law) (hd : decode cc pc = .ok (.ldc2_w i, 3)) (k : V p l e R s m args below meth c D G bs nL Q cells slots S (pc + 3) lv (.long v :: st)) : V p l e R s m args below meth c D G bs nL Q cells slots S (pc) lv (st) :=
  fun H locs ls h1 h2 h3 h4 => lv_ldc2 C.1 C.2.1 C.2.2.2.1 (C.2.2.2.2.1 _ hw) hd (k H locs ls h1 h2 h3 h4)
theorem v_iload_n (C : Cx p s m args meth c D G bs cc nL own) {i : Fin 4} {x : Int32} (hd : decode cc pc = .ok (.iload_n i, 1)) (hl : lv[(i : Nat)]? = some (some (.int x))) (k : V p l e R s m args below meth c D G bs nL Q cells slots S (pc + 1) lv (.int x :: st)) : V p l e R s m args below meth c D G bs nL Q cells slots S (pc) lv (st) :=
  fun H locs ls h1 h2 h3 h4 => lv_iload_n C.1 C.2.1 hd rfl (lvl_get h4 hl) (k H locs ls h1 h2 h3 h4)
theorem v_iload (C : Cx p s m args meth c D G bs cc nL own) {i : Nat} {x : Int32} (hd : decode cc pc = .ok (.iload i, 2)) (hl : lv[i]? = some (some (.int x))) (k : V p l e R s m args below meth c D G bs nL Q cells slots S (pc + 2) lv (.int x :: st)) : V p l e R s m args below meth c D G bs nL Q cells slots S (pc) lv (st) :=
  fun H locs ls h1 h2 h3 h4 => lv_iload C.1 C.2.1 hd (lvl_get h4 hl) (k H locs ls h1 h2 h3 h4)
theorem v_lload_n (C : Cx p s m args meth c D G bs cc nL own) {i : Fin 4} {x : Int64} (hd : decode cc pc = .ok (.lload_n i, 1)) (hl : lv[(i : Nat)]? = some (some (.long x))) (k : V p l e R s m args below meth c D G bs nL Q cells slots S (pc + 1) lv (.long x :: st)) : V p l e R s m args below meth c D G bs nL Q cells slots S (pc) lv (st) :=
  fun H locs ls h1 h2 h3 h4 => lv_lload_n C.1 C.2.1 hd rfl (lvl_get h4 hl) (k H locs ls h1 h2 h3 h4)
theorem v_lload (C : Cx p s m args meth c D G bs cc nL own) {i : Nat} {x : Int64} (hd : decode cc pc = .ok (.lload i, 2)) (hl : lv[i]? = some (some (.long x))) (k : V p l e R s m args below meth c D G bs nL Q cells slots S (pc + 2) lv (.long x :: st)) : V p l e R s m args below meth c D G bs nL Q cells slots S (pc) lv (st) :=
  fun H locs ls h1 h2 h3 h4 => lv_lload C.1 C.2.1 hd (lvl_get h4 hl) (k H locs ls h1 h2 h3 h4)
theorem v_aload_n (C : Cx p s m args meth c D G bs cc nL own) {i : Fin 4} {x : Nat} (hd : decode cc pc = .ok (.aload_n i, 1)) (hl : lv[(i : Nat)]? = some (some (.ref x))) (k : V p l e R s m args below meth c D G bs nL Q cells slots S (pc + 1) lv (.ref x :: st)) : V p l e R s m args below meth c D G bs nL Q cells slots S (pc) lv (st) :=
  fun H locs ls h1 h2 h3 h4 => lv_aload_n C.1 C.2.1 hd rfl (lvl_get h4 hl) (k H locs ls h1 h2 h3 h4)
theorem v_aload (C : Cx p s m args meth c D G bs cc nL own) {i : Nat} {x : Nat} (hd : decode cc pc = .ok (.aload i, 2)) (hl : lv[i]? = some (some (.ref x))) (k : V p l e R s m args below meth c D G bs nL Q cells slots S (pc + 2) lv (.ref x :: st)) : V p l e R s m args below meth c D G bs nL Q cells slots S (pc) lv (st) :=
  fun H locs ls h1 h2 h3 h4 => lv_aload C.1 C.2.1 hd (lvl_get h4 hl) (k H locs ls h1 h2 h3 h4)
theorem v_qload_n (C : Cx p s m args meth c D G bs cc nL own) {i : Fin 4} {o : Option Nat} (hd : decode cc pc = .ok (.aload_n i, 1)) (hl : lv[(i : Nat)]? = some (some (va_rf o))) (k : V p l e R s m args below meth c D G bs nL Q cells slots S (pc + 1) lv (va_rf o :: st)) : V p l e R s m args below meth c D G bs nL Q cells slots S (pc) lv (st) := by
  intro H locs ls h1 h2 h3 h4
  cases o with
  | none => exact lv_aload_nN C.1 C.2.1 hd rfl (lvl_get h4 hl) (k H locs ls h1 h2 h3 h4)
  | some x => exact lv_aload_n C.1 C.2.1 hd rfl (lvl_get h4 hl) (k H locs ls h1 h2 h3 h4)
theorem v_qload (C : Cx p s m args meth c D G bs cc nL own) {i : Nat} {o : Option Nat} (hd : decode cc pc = .ok (.aload i, 2)) (hl : lv[i]? = some (some (va_rf o))) (k : V p l e R s m args below meth c D G bs nL Q cells slots S (pc + 2) lv (va_rf o :: st)) : V p l e R s m args below meth c D G bs nL Q cells slots S (pc) lv (st) := by
  intro H locs ls h1 h2 h3 h4
  cases o with
  | none => exact lv_aloadN C.1 C.2.1 hd (lvl_get h4 hl) (k H locs ls h1 h2 h3 h4)
  | some x => exact lv_aload C.1 C.2.1 hd (lvl_get h4 hl) (k H locs ls h1 h2 h3 h4)
theorem v_istore_n (C : Cx p s m args meth c D G bs cc nL own) {i : Fin 4} {x : Int32} (hd : decode cc pc = .ok (.istore_n i, 1)) (hn : (i : Nat) < nL) (ho : okS lv i = true) (k : V p l e R s m args below meth c D G bs nL Q cells slots S (pc + 1) (lv.set (i : Nat) (some (.int x))) (st)) : V p l e R s m args below meth c D G bs nL Q cells slots S (pc) lv (.int x :: st) :=
  fun H locs ls h1 h2 h3 h4 => lv_istore_n C.1 C.2.1 hd rfl h4 hn rfl (fun ls' h => k H locs ls' h1 h2 h3 (lvl_put h ho))
theorem v_istore (C : Cx p s m args meth c D G bs cc nL own) {i : Nat} {x : Int32} (hd : decode cc pc = .ok (.istore i, 2)) (hn : i < nL) (ho : okS lv i = true) (k : V p l e R s m args below meth c D G bs nL Q cells slots S (pc + 2) (lv.set i (some (.int x))) (st)) : V p l e R s m args below meth c D G bs nL Q cells slots S (pc) lv (.int x :: st) :=
  fun H locs ls h1 h2 h3 h4 => lv_istore C.1 C.2.1 hd h4 hn rfl (fun ls' h => k H locs ls' h1 h2 h3 (lvl_put h ho))
theorem v_astore_n (C : Cx p s m args meth c D G bs cc nL own) {i : Fin 4} {x : Nat} (hd : decode cc pc = .ok (.astore_n i, 1)) (hn : (i : Nat) < nL) (ho : okS lv i = true) (k : V p l e R s m args below meth c D G bs nL Q cells slots S (pc + 1) (lv.set (i : Nat) (some (.ref x))) (st)) : V p l e R s m args below meth c D G bs nL Q cells slots S (pc) lv (.ref x :: st) :=
  fun H locs ls h1 h2 h3 h4 => lv_astore_n C.1 C.2.1 hd rfl h4 hn rfl (fun ls' h => k H locs ls' h1 h2 h3 (lvl_put h ho))
theorem v_astore (C : Cx p s m args meth c D G bs cc nL own) {i : Nat} {x : Nat} (hd : decode cc pc = .ok (.astore i, 2)) (hn : i < nL) (ho : okS lv i = true) (k : V p l e R s m args below meth c D G bs nL Q cells slots S (pc + 2) (lv.set i (some (.ref x))) (st)) : V p l e R s m args below meth c D G bs nL Q cells slots S (pc) lv (.ref x :: st) :=
  fun H locs ls h1 h2 h3 h4 => lv_astore C.1 C.2.1 hd h4 hn rfl (fun ls' h => k H locs ls' h1 h2 h3 (lvl_put h ho))
theorem v_qstore_n (C : Cx p s m args meth c D G bs cc nL own) {i : Fin 4} {o : Option Nat} (hd : decode cc pc = .ok (.astore_n i, 1)) (hn : (i : Nat) < nL) (ho : okS lv i = true) (k : V p l e R s m args below meth c D G bs nL Q cells slots S (pc + 1) (lv.set (i : Nat) (some (va_rf o))) (st)) : V p l e R s m args below meth c D G bs nL Q cells slots S (pc) lv (va_rf o :: st) := by
  intro H locs ls h1 h2 h3 h4
  cases o with
  | none => exact lv_astore_nN C.1 C.2.1 hd rfl h4 hn rfl (fun ls' h => k H locs ls' h1 h2 h3 (lvl_put h ho))
  | some x => exact lv_astore_n C.1 C.2.1 hd rfl h4 hn rfl (fun ls' h => k H locs ls' h1 h2 h3 (lvl_put h ho))
theorem v_qstore (C : Cx p s m args meth c D G bs cc nL own) {i : Nat} {o : Option Nat} (hd : decode cc pc = .ok (.astore i, 2)) (hn : i < nL) (ho : okS lv i = true) (k : V p l e R s m args below meth c D G bs nL Q cells slots S (pc + 2) (lv.set i (some (va_rf o))) (st)) : V p l e R s m args below meth c D G bs nL Q cells slots S (pc) lv (va_rf o :: st) := by
  intro H locs ls h1 h2 h3 h4
  cases o with
  | none => exact lv_astoreN C.1 C.2.1 hd h4 hn rfl (fun ls' h => k H locs ls' h1 h2 h3 (lvl_put h ho))
  | some x => exact lv_astore C.1 C.2.1 hd h4 hn rfl (fun ls' h => k H locs ls' h1 h2 h3 (lvl_put h ho))
theorem v_lstore_n (C : Cx p s m args meth c D G bs cc nL own) {i : Fin 4} {x : Int64} (hd : decode cc pc = .ok (.lstore_n i, 1)) (hn : (i : Nat) + 1 < nL) (ho : okS lv i = true) (k : V p l e R s m args below meth c D G bs nL Q cells slots S (pc + 1) ((lv.set (i : Nat) (some (.long x))).set ((i : Nat) + 1) none) (st)) : V p l e R s m args below meth c D G bs nL Q cells slots S (pc) lv (.long x :: st) :=
  fun H locs ls h1 h2 h3 h4 => lv_lstore_n C.1 C.2.1 hd rfl h4 hn rfl (fun ls' h => k H locs ls' h1 h2 h3 (lvl_putL h ho))
theorem v_lstore (C : Cx p s m args meth c D G bs cc nL own) {i : Nat} {x : Int64} (hd : decode cc pc = .ok (.lstore i, 2)) (hn : i + 1 < nL) (ho : okS lv i = true) (k : V p l e R s m args below meth c D G bs nL Q cells slots S (pc + 2) ((lv.set i (some (.long x))).set (i + 1) none) (st)) : V p l e R s m args below meth c D G bs nL Q cells slots S (pc) lv (.long x :: st) :=
  fun H locs ls h1 h2 h3 h4 => lv_lstore C.1 C.2.1 hd h4 hn rfl (fun ls' h => k H locs ls' h1 h2 h3 (lvl_putL h ho))
theorem v_iinc (C : Cx p s m args meth c D G bs cc nL own) {i : Nat} {n : Int} {x v : Int32} (hd : decode cc pc = .ok (.iinc i n, 3)) (hl : lv[i]? = some (some (.int x))) (hv : x + Int32.ofInt n = v) (hn : i < nL) (ho : okS lv i = true) (k : V p l e R s m args below meth c D G bs nL Q cells slots S (pc + 3) (lv.set i (some (.int v))) (st)) : V p l e R s m args below meth c D G bs nL Q cells slots S (pc) lv (st) := by
  intro H locs ls h1 h2 h3 h4
  obtain ⟨q, hq⟩ := List.getElem?_of_mem (lvl_mem0 hl)
  exact lv_iinc C.1 C.2.1 hd h4 hq hv hn rfl (fun ls' h => k H locs ls' h1 h2 h3 (lvl_put h ho))
theorem v_iadd (C : Cx p s m args meth c D G bs cc nL own) {x y : Int32} (hd : decode cc pc = .ok (.iadd, 1)) (k : V p l e R s m args below meth c D G bs nL Q cells slots S (pc + 1) lv (.int (x + y) :: st)) : V p l e R s m args below meth c D G bs nL Q cells slots S (pc) lv (.int y :: .int x :: st) :=
  fun H locs ls h1 h2 h3 h4 => lv_iadd C.1 C.2.1 hd (k H locs ls h1 h2 h3 h4)
theorem v_isub (C : Cx p s m args meth c D G bs cc nL own) {x y : Int32} (hd : decode cc pc = .ok (.isub, 1)) (k : V p l e R s m args below meth c D G bs nL Q cells slots S (pc + 1) lv (.int (x - y) :: st)) : V p l e R s m args below meth c D G bs nL Q cells slots S (pc) lv (.int y :: .int x :: st) :=
  fun H locs ls h1 h2 h3 h4 => lv_isub C.1 C.2.1 hd (k H locs ls h1 h2 h3 h4)
theorem v_imul (C : Cx p s m args meth c D G bs cc nL own) {x y : Int32} (hd : decode cc pc = .ok (.imul, 1)) (k : V p l e R s m args below meth c D G bs nL Q cells slots S (pc + 1) lv (.int (x * y) :: st)) : V p l e R s m args below meth c D G bs nL Q cells slots S (pc) lv (.int y :: .int x :: st) :=
  fun H locs ls h1 h2 h3 h4 => lv_imul C.1 C.2.1 hd (k H locs ls h1 h2 h3 h4)
theorem v_iand (C : Cx p s m args meth c D G bs cc nL own) {x y : Int32} (hd : decode cc pc = .ok (.iand, 1)) (k : V p l e R s m args below meth c D G bs nL Q cells slots S (pc + 1) lv (.int (x &&& y) :: st)) : V p l e R s m args below meth c D G bs nL Q cells slots S (pc) lv (.int y :: .int x :: st) :=
  fun H locs ls h1 h2 h3 h4 => lv_iand C.1 C.2.1 hd (k H locs ls h1 h2 h3 h4)
theorem v_ior (C : Cx p s m args meth c D G bs cc nL own) {x y : Int32} (hd : decode cc pc = .ok (.ior, 1)) (k : V p l e R s m args below meth c D G bs nL Q cells slots S (pc + 1) lv (.int (x ||| y) :: st)) : V p l e R s m args below meth c D G bs nL Q cells slots S (pc) lv (.int y :: .int x :: st) :=
  fun H locs ls h1 h2 h3 h4 => lv_ior C.1 C.2.1 hd (k H locs ls h1 h2 h3 h4)
theorem v_ishl (C : Cx p s m args meth c D G bs cc nL own) {x y : Int32} (hd : decode cc pc = .ok (.ishl, 1)) (k : V p l e R s m args below meth c D G bs nL Q cells slots S (pc + 1) lv (.int (x <<< (y &&& 31)) :: st)) : V p l e R s m args below meth c D G bs nL Q cells slots S (pc) lv (.int y :: .int x :: st) :=
  fun H locs ls h1 h2 h3 h4 => lv_ishl C.1 C.2.1 hd (k H locs ls h1 h2 h3 h4)
theorem v_ishr (C : Cx p s m args meth c D G bs cc nL own) {x y : Int32} (hd : decode cc pc = .ok (.ishr, 1)) (k : V p l e R s m args below meth c D G bs nL Q cells slots S (pc + 1) lv (.int (x >>> (y &&& 31)) :: st)) : V p l e R s m args below meth c D G bs nL Q cells slots S (pc) lv (.int y :: .int x :: st) :=
  fun H locs ls h1 h2 h3 h4 => lv_ishr C.1 C.2.1 hd (k H locs ls h1 h2 h3 h4)
theorem v_idiv (C : Cx p s m args meth c D G bs cc nL own) {x y : Int32} (hd : decode cc pc = .ok (.idiv, 1)) (hy : ¬ y = 0) (k : V p l e R s m args below meth c D G bs nL Q cells slots S (pc + 1) lv (.int (x / y) :: st)) : V p l e R s m args below meth c D G bs nL Q cells slots S (pc) lv (.int y :: .int x :: st) :=
  fun H locs ls h1 h2 h3 h4 => lv_idiv C.1 C.2.1 hd hy (k H locs ls h1 h2 h3 h4)
theorem v_irem (C : Cx p s m args meth c D G bs cc nL own) {x y : Int32} (hd : decode cc pc = .ok (.irem, 1)) (hy : ¬ y = 0) (k : V p l e R s m args below meth c D G bs nL Q cells slots S (pc + 1) lv (.int (x - x / y * y) :: st)) : V p l e R s m args below meth c D G bs nL Q cells slots S (pc) lv (.int y :: .int x :: st) :=
  fun H locs ls h1 h2 h3 h4 => lv_irem C.1 C.2.1 hd hy (k H locs ls h1 h2 h3 h4)
theorem v_ladd (C : Cx p s m args meth c D G bs cc nL own) {x y : Int64} (hd : decode cc pc = .ok (.ladd, 1)) (k : V p l e R s m args below meth c D G bs nL Q cells slots S (pc + 1) lv (.long (x + y) :: st)) : V p l e R s m args below meth c D G bs nL Q cells slots S (pc) lv (.long y :: .long x :: st) :=
  fun H locs ls h1 h2 h3 h4 => lv_ladd C.1 C.2.1 hd (k H locs ls h1 h2 h3 h4)
theorem v_lsub (C : Cx p s m args meth c D G bs cc nL own) {x y : Int64} (hd : decode cc pc = .ok (.lsub, 1)) (k : V p l e R s m args below meth c D G bs nL Q cells slots S (pc + 1) lv (.long (x - y) :: st)) : V p l e R s m args below meth c D G bs nL Q cells slots S (pc) lv (.long y :: .long x :: st) :=
  fun H locs ls h1 h2 h3 h4 => lv_lsub C.1 C.2.1 hd (k H locs ls h1 h2 h3 h4)
theorem v_lmul (C : Cx p s m args meth c D G bs cc nL own) {x y : Int64} (hd : decode cc pc = .ok (.lmul, 1)) (k : V p l e R s m args below meth c D G bs nL Q cells slots S (pc + 1) lv (.long (x * y) :: st)) : V p l e R s m args below meth c D G bs nL Q cells slots S (pc) lv (.long y :: .long x :: st) :=
  fun H locs ls h1 h2 h3 h4 => lv_lmul C.1 C.2.1 hd (k H locs ls h1 h2 h3 h4)
theorem v_land (C : Cx p s m args meth c D G bs cc nL own) {x y : Int64} (hd : decode cc pc = .ok (.land, 1)) (k : V p l e R s m args below meth c D G bs nL Q cells slots S (pc + 1) lv (.long (x &&& y) :: st)) : V p l e R s m args below meth c D G bs nL Q cells slots S (pc) lv (.long y :: .long x :: st) :=
  fun H locs ls h1 h2 h3 h4 => lv_land C.1 C.2.1 hd (k H locs ls h1 h2 h3 h4)
theorem v_lor (C : Cx p s m args meth c D G bs cc nL own) {x y : Int64} (hd : decode cc pc = .ok (.lor, 1)) (k : V p l e R s m args below meth c D G bs nL Q cells slots S (pc + 1) lv (.long (x ||| y) :: st)) : V p l e R s m args below meth c D G bs nL Q cells slots S (pc) lv (.long y :: .long x :: st) :=
  fun H locs ls h1 h2 h3 h4 => lv_lor C.1 C.2.1 hd (k H locs ls h1 h2 h3 h4)
theorem v_lshl (C : Cx p s m args meth c D G bs cc nL own) {x : Int64} {y : Int32} (hd : decode cc pc = .ok (.lshl, 1)) (k : V p l e R s m args below meth c D G bs nL Q cells slots S (pc + 1) lv (.long (x <<< (y.toInt64 &&& 63)) :: st)) : V p l e R s m args below meth c D G bs nL Q cells slots S (pc) lv (.int y :: .long x :: st) :=
  fun H locs ls h1 h2 h3 h4 => lv_lshl C.1 C.2.1 hd rfl (k H locs ls h1 h2 h3 h4)
theorem v_lcmp (C : Cx p s m args meth c D G bs cc nL own) {x y : Int64} (hd : decode cc pc = .ok (.lcmp, 1)) (k : V p l e R s m args below meth c D G bs nL Q cells slots S (pc + 1) lv (.int (lg_cmp x y) :: st)) : V p l e R s m args below meth c D G bs nL Q cells slots S (pc) lv (.long y :: .long x :: st) :=
  fun H locs ls h1 h2 h3 h4 => W.lcmp C.1 C.2.1 hd (k H locs ls h1 h2 h3 h4)
theorem v_i2l (C : Cx p s m args meth c D G bs cc nL own) {x : Int32} (hd : decode cc pc = .ok (.i2l, 1)) (k : V p l e R s m args below meth c D G bs nL Q cells slots S (pc + 1) lv (.long x.toInt64 :: st)) : V p l e R s m args below meth c D G bs nL Q cells slots S (pc) lv (.int x :: st) :=
  fun H locs ls h1 h2 h3 h4 => lv_i2l C.1 C.2.1 hd rfl (k H locs ls h1 h2 h3 h4)
theorem v_dup (C : Cx p s m args meth c D G bs cc nL own) {x : Value} (hd : decode cc pc = .ok (.dup, 1)) (hc : x.category = 1) (k : V p l e R s m args below meth c D G bs nL Q cells slots S (pc + 1) lv (x :: x :: st)) : V p l e R s m args below meth c D G bs nL Q cells slots S (pc) lv (x :: st) :=
  fun H locs ls h1 h2 h3 h4 => lv_dup C.1 C.2.1 hd hc (k H locs ls h1 h2 h3 h4)
theorem v_dup2 (C : Cx p s m args meth c D G bs cc nL own) {x y : Value} (hd : decode cc pc = .ok (.dup2, 1)) (hc : x.category = 1) (hc2 : y.category = 1) (k : V p l e R s m args below meth c D G bs nL Q cells slots S (pc + 1) lv (x :: y :: x :: y :: st)) : V p l e R s m args below meth c D G bs nL Q cells slots S (pc) lv (x :: y :: st) :=
  fun H locs ls h1 h2 h3 h4 => lv_dup2_11 C.1 C.2.1 hd hc hc2 (k H locs ls h1 h2 h3 h4)
theorem v_pop (C : Cx p s m args meth c D G bs cc nL own) {x : Value} (hd : decode cc pc = .ok (.pop, 1)) (hc : x.category = 1) (k : V p l e R s m args below meth c D G bs nL Q cells slots S (pc + 1) lv (st)) : V p l e R s m args below meth c D G bs nL Q cells slots S (pc) lv (x :: st) :=
  fun H locs ls h1 h2 h3 h4 => lv_pop C.1 C.2.1 hd hc (k H locs ls h1 h2 h3 h4)
theorem v_goto (C : Cx p s m args meth c D G bs cc nL own) {off : Int} {tgt : Nat} (hd : decode cc pc = .ok (.goto off, 3)) (ht : (pc : Int) + off = (tgt : Int)) (k : V p l e R s m args below meth c D G bs nL Q cells slots S (tgt) lv (st)) : V p l e R s m args below meth c D G bs nL Q cells slots S (pc) lv (st) :=
  fun H locs ls h1 h2 h3 h4 => lv_goto C.1 C.2.1 hd ht (k H locs ls h1 h2 h3 h4)
theorem v_if_eq (C : Cx p s m args meth c D G bs cc nL own) {x : Int32} {off : Int} {tgt : Nat} (hd : decode cc pc = .ok (.ifCond .eq off, 3)) (ht : (pc : Int) + off = (tgt : Int)) (kt : x = 0 → V p l e R s m args below meth c D G bs nL Q cells slots S (tgt) lv (st)) (kf : ¬ x = 0 → V p l e R s m args below meth c D G bs nL Q cells slots S (pc + 3) lv (st)) : V p l e R s m args below meth c D G bs nL Q cells slots S (pc) lv (.int x :: st) :=
  fun H locs ls h1 h2 h3 h4 => lv_if_eq C.1 C.2.1 hd ht (fun q => kt q H locs ls h1 h2 h3 h4) (fun q => kf q H locs ls h1 h2 h3 h4)
theorem v_icmp_eq (C : Cx p s m args meth c D G bs cc nL own) {x y : Int32} {off : Int} {tgt : Nat} (hd : decode cc pc = .ok (.if_icmp .eq off, 3)) (ht : (pc : Int) + off = (tgt : Int)) (kt : x = y → V p l e R s m args below meth c D G bs nL Q cells slots S (tgt) lv (st)) (kf : ¬ x = y → V p l e R s m args below meth c D G bs nL Q cells slots S (pc + 3) lv (st)) : V p l e R s m args below meth c D G bs nL Q cells slots S (pc) lv (.int y :: .int x :: st) :=
  fun H locs ls h1 h2 h3 h4 => lv_icmp_eq C.1 C.2.1 hd ht (fun q => kt q H locs ls h1 h2 h3 h4) (fun q => kf q H locs ls h1 h2 h3 h4)
theorem v_if_ne (C : Cx p s m args meth c D G bs cc nL own) {x : Int32} {off : Int} {tgt : Nat} (hd : decode cc pc = .ok (.ifCond .ne off, 3)) (ht : (pc : Int) + off = (tgt : Int)) (kt : ¬ x = 0 → V p l e R s m args below meth c D G bs nL Q cells slots S (tgt) lv (st)) (kf : x = 0 → V p l e R s m args below meth c D G bs nL Q cells slots S (pc + 3) lv (st)) : V p l e R s m args below meth c D G bs nL Q cells slots S (pc) lv (.int x :: st) :=
  fun H locs ls h1 h2 h3 h4 => lv_if_ne C.1 C.2.1 hd ht (fun q => kt q H locs ls h1 h2 h3 h4) (fun q => kf q H locs ls h1 h2 h3 h4)
theorem v_icmp_ne (C : Cx p s m args meth c D G bs cc nL own) {x y : Int32} {off : Int} {tgt : Nat} (hd : decode cc pc = .ok (.if_icmp .ne off, 3)) (ht : (pc : Int) + off = (tgt : Int)) (kt : ¬ x = y → V p l e R s m args below meth c D G bs nL Q cells slots S (tgt) lv (st)) (kf : x = y → V p l e R s m args below meth c D G bs nL Q cells slots S (pc + 3) lv (st)) : V p l e R s m args below meth c D G bs nL Q cells slots S (pc) lv (.int y :: .int x :: st) :=
  fun H locs ls h1 h2 h3 h4 => lv_icmp_ne C.1 C.2.1 hd ht (fun q => kt q H locs ls h1 h2 h3 h4) (fun q => kf q H locs ls h1 h2 h3 h4)
theorem v_if_lt (C : Cx p s m args meth c D G bs cc nL own) {x : Int32} {off : Int} {tgt : Nat} (hd : decode cc pc = .ok (.ifCond .lt off, 3)) (ht : (pc : Int) + off = (tgt : Int)) (kt : x < 0 → V p l e R s m args below meth c D G bs nL Q cells slots S (tgt) lv (st)) (kf : ¬ x < 0 → V p l e R s m args below meth c D G bs nL Q cells slots S (pc + 3) lv (st)) : V p l e R s m args below meth c D G bs nL Q cells slots S (pc) lv (.int x :: st) :=
  fun H locs ls h1 h2 h3 h4 => lv_if_lt C.1 C.2.1 hd ht (fun q => kt q H locs ls h1 h2 h3 h4) (fun q => kf q H locs ls h1 h2 h3 h4)
theorem v_icmp_lt (C : Cx p s m args meth c D G bs cc nL own) {x y : Int32} {off : Int} {tgt : Nat} (hd : decode cc pc = .ok (.if_icmp .lt off, 3)) (ht : (pc : Int) + off = (tgt : Int)) (kt : x < y → V p l e R s m args below meth c D G bs nL Q cells slots S (tgt) lv (st)) (kf : ¬ x < y → V p l e R s m args below meth c D G bs nL Q cells slots S (pc + 3) lv (st)) : V p l e R s m args below meth c D G bs nL Q cells slots S (pc) lv (.int y :: .int x :: st) :=
  fun H locs ls h1 h2 h3 h4 => lv_icmp_lt C.1 C.2.1 hd ht (fun q => kt q H locs ls h1 h2 h3 h4) (fun q => kf q H locs ls h1 h2 h3 h4)
theorem v_if_ge (C : Cx p s m args meth c D G bs cc nL own) {x : Int32} {off : Int} {tgt : Nat} (hd : decode cc pc = .ok (.ifCond .ge off, 3)) (ht : (pc : Int) + off = (tgt : Int)) (kt : 0 ≤ x → V p l e R s m args below meth c D G bs nL Q cells slots S (tgt) lv (st)) (kf : ¬ 0 ≤ x → V p l e R s m args below meth c D G bs nL Q cells slots S (pc + 3) lv (st)) : V p l e R s m args below meth c D G bs nL Q cells slots S (pc) lv (.int x :: st) :=
  fun H locs ls h1 h2 h3 h4 => lv_if_ge C.1 C.2.1 hd ht (fun q => kt q H locs ls h1 h2 h3 h4) (fun q => kf q H locs ls h1 h2 h3 h4)
theorem v_icmp_ge (C : Cx p s m args meth c D G bs cc nL own) {x y : Int32} {off : Int} {tgt : Nat} (hd : decode cc pc = .ok (.if_icmp .ge off, 3)) (ht : (pc : Int) + off = (tgt : Int)) (kt : y ≤ x → V p l e R s m args below meth c D G bs nL Q cells slots S (tgt) lv (st)) (kf : ¬ y ≤ x → V p l e R s m args below meth c D G bs nL Q cells slots S (pc + 3) lv (st)) : V p l e R s m args below meth c D G bs nL Q cells slots S (pc) lv (.int y :: .int x :: st) :=
  fun H locs ls h1 h2 h3 h4 => lv_icmp_ge C.1 C.2.1 hd ht (fun q => kt q H locs ls h1 h2 h3 h4) (fun q => kf q H locs ls h1 h2 h3 h4)
theorem v_if_gt (C : Cx p s m args meth c D G bs cc nL own) {x : Int32} {off : Int} {tgt : Nat} (hd : decode cc pc = .ok (.ifCond .gt off, 3)) (ht : (pc : Int) + off = (tgt : Int)) (kt : 0 < x → V p l e R s m args below meth c D G bs nL Q cells slots S (tgt) lv (st)) (kf : ¬ 0 < x → V p l e R s m args below meth c D G bs nL Q cells slots S (pc + 3) lv (st)) : V p l e R s m args below meth c D G bs nL Q cells slots S (pc) lv (.int x :: st) :=
  fun H locs ls h1 h2 h3 h4 => lv_if_gt C.1 C.2.1 hd ht (fun q => kt q H locs ls h1 h2 h3 h4) (fun q => kf q H locs ls h1 h2 h3 h4)
theorem v_icmp_gt (C : Cx p s m args meth c D G bs cc nL own) {x y : Int32} {off : Int} {tgt : Nat} (hd : decode cc pc = .ok (.if_icmp .gt off, 3)) (ht : (pc : Int) + off = (tgt : Int)) (kt : y < x → V p l e R s m args below meth c D G bs nL Q cells slots S (tgt) lv (st)) (kf : ¬ y < x → V p l e R s m args below meth c D G bs nL Q cells slots S (pc + 3) lv (st)) : V p l e R s m args below meth c D G bs nL Q cells slots S (pc) lv (.int y :: .int x :: st) :=
  fun H locs ls h1 h2 h3 h4 => lv_icmp_gt C.1 C.2.1 hd ht (fun q => kt q H locs ls h1 h2 h3 h4) (fun q => kf q H locs ls h1 h2 h3 h4)
theorem v_if_le (C : Cx p s m args meth c D G bs cc nL own) {x : Int32} {off : Int} {tgt : Nat} (hd : decode cc pc = .ok (.ifCond .le off, 3)) (ht : (pc : Int) + off = (tgt : Int)) (kt : x ≤ 0 → V p l e R s m args below meth c D G bs nL Q cells slots S (tgt) lv (st)) (kf : ¬ x ≤ 0 → V p l e R s m args below meth c D G bs nL Q cells slots S (pc + 3) lv (st)) : V p l e R s m args below meth c D G bs nL Q cells slots S (pc) lv (.int x :: st) :=
  fun H locs ls h1 h2 h3 h4 => lv_if_le C.1 C.2.1 hd ht (fun q => kt q H locs ls h1 h2 h3 h4) (fun q => kf q H locs ls h1 h2 h3 h4)
theorem v_icmp_le (C : Cx p s m args meth c D G bs cc nL own) {x y : Int32} {off : Int} {tgt : Nat} (hd : decode cc pc = .ok (.if_icmp .le off, 3)) (ht : (pc : Int) + off = (tgt : Int)) (kt : x ≤ y → V p l e R s m args below meth c D G bs nL Q cells slots S (tgt) lv (st)) (kf : ¬ x ≤ y → V p l e R s m args below meth c D G bs nL Q cells slots S (pc + 3) lv (st)) : V p l e R s m args below meth c D G bs nL Q cells slots S (pc) lv (.int y :: .int x :: st) :=
  fun H locs ls h1 h2 h3 h4 => lv_icmp_le C.1 C.2.1 hd ht (fun q => kt q H locs ls h1 h2 h3 h4) (fun q => kf q H locs ls h1 h2 h3 h4)
theorem v_ifnull (C : Cx p s m args meth c D G bs cc nL own) {o : Option Nat} {off : Int} {tgt : Nat} (hd : decode cc pc = .ok (.ifnull off, 3)) (ht : (pc : Int) + off = (tgt : Int)) (kt : o = none → V p l e R s m args below meth c D G bs nL Q cells slots S (tgt) lv (st)) (kf : ∀ x, o = some x → V p l e R s m args below meth c D G bs nL Q cells slots S (pc + 3) lv (st)) : V p l e R s m args below meth c D G bs nL Q cells slots S (pc) lv (va_rf o :: st) := by
  intro H locs ls h1 h2 h3 h4
  cases o with
  | none => exact lv_ifnullN C.1 C.2.1 hd ht (kt rfl H locs ls h1 h2 h3 h4)
  | some x => exact lv_ifnull C.1 C.2.1 hd (kf x rfl H locs ls h1 h2 h3 h4)
theorem v_ifnonnull (C : Cx p s m args meth c D G bs cc nL own) {o : Option Nat} {off : Int} {tgt : Nat} (hd : decode cc pc = .ok (.ifnonnull off, 3)) (ht : (pc : Int) + off = (tgt : Int)) (kt : ∀ x, o = some x → V p l e R s m args below meth c D G bs nL Q cells slots S (tgt) lv (st)) (kf : o = none → V p l e R s m args below meth c D G bs nL Q cells slots S (pc + 3) lv (st)) : V p l e R s m args below meth c D G bs nL Q cells slots S (pc) lv (va_rf o :: st) := by
  intro H locs ls h1 h2 h3 h4
  cases o with
  | none => exact lv_ifnonnullN C.1 C.2.1 hd (kf rfl H locs ls h1 h2 h3 h4)
  | some x => exact lv_ifnonnull C.1 C.2.1 hd ht (kt x rfl H locs ls h1 h2 h3 h4)
theorem v_tableIn (C : Cx p s m args meth c D G bs cc nL own) {dflt lo hi : Int} {offs : Array Int} {len : Nat} {x : Int32} {off : Int} {tgt : Nat} (hd : decode cc pc = .ok (.tableswitch dflt lo hi offs, len)) (h1 : ¬ x.toInt < lo) (h2 : ¬ hi < x.toInt) (ho : offs[(x.toInt - lo).toNat]? = some off) (ht : (pc : Int) + off = (tgt : Int)) (k : V p l e R s m args below meth c D G bs nL Q cells slots S (tgt) lv (st)) : V p l e R s m args below meth c D G bs nL Q cells slots S (pc) lv (.int x :: st) :=
  fun H locs ls g1 g2 g3 g4 => lv_tableIn C.1 C.2.1 hd h1 h2 ho ht (k H locs ls g1 g2 g3 g4)
theorem v_tableOut (C : Cx p s m args meth c D G bs cc nL own) {dflt lo hi : Int} {offs : Array Int} {len : Nat} {x : Int32} {tgt : Nat} (hd : decode cc pc = .ok (.tableswitch dflt lo hi offs, len)) (h : x.toInt < lo ∨ hi < x.toInt) (ht : (pc : Int) + dflt = (tgt : Int)) (k : V p l e R s m args below meth c D G bs nL Q cells slots S (tgt) lv (st)) : V p l e R s m args below meth c D G bs nL Q cells slots S (pc) lv (.int x :: st) :=
  fun H locs ls g1 g2 g3 g4 => lv_tableOut C.1 C.2.1 hd h ht (k H locs ls g1 g2 g3 g4)
theorem v_topi {x : Int32} (k : ∀ y : Int32, y = x → V p l e R s m args below meth c D G bs nL Q cells slots S (pc) lv (.int y :: st)) : V p l e R s m args below meth c D G bs nL Q cells slots S (pc) lv (.int x :: st) := k x rfl
theorem V.widen {c2 s2 : Nat} (hc : cells ≤ c2) (hs : slots ≤ s2) (k : V p l e R s m args below meth c D G bs nL Q c2 s2 S (pc) lv (st)) : V p l e R s m args below meth c D G bs nL Q cells slots S (pc) lv (st) :=
  fun H locs ls h1 h2 h3 h4 => W.widen hc hs (k H locs ls h1 h2 h3 h4)
-- fields
theorem v_get (C : Cx p s m args meth c D G bs cc nL own) {a ci k i N tt : Nat} {ref Cn : String} {T : u_T} (ha : is S a ci) (hc : ci < 11) (hcl : vwCl[ci]? = some (Cn, T, N)) (hin : ∀ w ∈ u_ws Cn T N, w ∈ wsL_law) (hkN : k < N) (hw : Cond.fieldLink own i ref (T k).2.1 (T k).2.2.1 ∈ wsL_law) (hsame : (T k).1 = ref) (ht : (lay ci)[k]? = some tt) (hd : decode cc pc = .ok (.getfield i, 3)) (kk : V p l e R s m args below meth c D G bs nL Q cells slots S (pc + 3) lv (fv S a (64 * ci + k) tt :: st)) : V p l e R s m args below meth c D G bs nL Q cells slots S (pc) lv (.ref a :: st) := by
  intro H locs ls h1 h2 h3 h4
  obtain ⟨q, hq⟩ := va_pl_get (X := []) (f := cellF G S) ha.1
  rw [cell_obj ha.2 hc] at hq
  exact va_get C.1 C.2.1 C.2.2.2.2.1 hin C.2.2.2.1 C.2.2.2.2.2.1.1 h1 q hq hcl k hkN (C.2.2.2.2.1 _ hw) (fun x hx => by rw [← hsame]; exact hx) (fl_get S a _ _ _ _ ht) hd (kk H locs ls h1 h2 h3 h4)
theorem v_put (C : Cx p s m args meth c D G bs cc nL own) {a ci k i N : Nat} {ref Cn : String} {T : u_T} {ty0 : Nat → FieldType} {ty : FieldType} {v : Value} {S' : Mem} (ha : is S a ci) (hc : ci < 11) (hcl : vwCl[ci]? = some (Cn, T, N)) (hin : ∀ w ∈ u_ws Cn T N, w ∈ wsL_law) (hty : ∀ k, k < N → parseFieldDescriptor (T k).2.2.1 = some (ty0 k)) (hnm : ∀ a, a < N → ∀ b, b < N → a ≠ b → (T a).2.1 ≠ (T b).2.1) (hkN : k < N) (hw : Cond.fieldLink own i ref (T k).2.1 (T k).2.2.1 ∈ wsL_law) (hsame : (T k).1 = ref) (hfin : (T k).2.2.2 = false ∨ ((T k).2.2.2 = true ∧ meth.name = "<init>" ∧ (T k).1 = own)) (hpd : parseFieldDescriptor (T k).2.2.1 = some ty) (hnr : narrow ty v = v) (hft : fits ty v = true) (hl : k < (lay ci).length) (hS' : mL S' = mL S) (hcell : ∀ b, va_up (cellF G S) a (.inr (ci, (fl S a (64 * ci) (lay ci)).set k v)) b = cellF G S' b) (hd : decode cc pc = .ok (.putfield i, 3)) (kk : V p l e R s m args below meth c D G bs nL Q cells slots S' (pc + 3) lv (st)) : V p l e R s m args below meth c D G bs nL Q cells slots S (pc) lv (v :: .ref a :: st) := by
  intro H locs ls h1 h2 h3 h4
  obtain ⟨q, hq0⟩ := va_pl_get (X := []) (f := cellF G S) ha.1
  have hq := hq0
  rw [cell_obj ha.2 hc] at hq
  have hset : (va_pl (mL S) (cellF G S)).set q (a, .inr (ci, (fl S a (64 * ci) (lay ci)).set k v)) = va_pl (mL S') (cellF G S') := by
    have := va_pl_set (X := []) (f := cellF G S) (e := .inr (ci, (fl S a (64 * ci) (lay ci)).set k v)) (A := fun q => bs ≤ q) h2 ha.1 hq0
    simp only [List.nil_append] at this
    rw [this, va_pl_congr hcell, hS']
  rcases hfin with hf | ⟨hf, hin2, hdecl⟩
  · exact va_put C.1 C.2.1 C.2.2.2.2.1 hin ty0 hty hnm C.2.2.2.1 C.2.2.2.2.2.1.1 h1 h2 h3 q hq hcl k hkN (C.2.2.2.2.1 _ hw) (fun x hx => by rw [← hsame]; exact hx) hf hpd hnr hft (by rw [fl_len]; exact hl) hd (fun H1 locs1 g1 g2 g3 => by rw [hset] at g1 g2; exact kk H1 locs1 ls g1 g2 g3 h4)
  · exact va_putF C.1 C.2.1 C.2.2.2.2.1 hin ty0 hty hnm C.2.2.2.1 C.2.2.2.2.2.1.1 h1 h2 h3 q hq hcl k hkN (C.2.2.2.2.1 _ hw) (fun x hx => by rw [← hsame]; exact hx) hf hin2 hdecl hpd hnr hft (by rw [fl_len]; exact hl) hd (fun H1 locs1 g1 g2 g3 => by rw [hset] at g1 g2; exact kk H1 locs1 ls g1 g2 g3 h4)
-- arrays
theorem v_iald (C : Cx p s m args meth c D G bs cc nL own) {a n : Nat} {i : Int32} (ha : isA S a 11 n) (hi : vp_in i n) (hd : decode cc pc = .ok (.iaload, 1)) (kk : V p l e R s m args below meth c D G bs nL Q cells slots S (pc + 1) lv (.int (mA S a i.toNatClampNeg) :: st)) : V p l e R s m args below meth c D G bs nL Q cells slots S (pc) lv (.int i :: .ref a :: st) := by
  intro H locs ls h1 h2 h3 h4
  obtain ⟨q, hq⟩ := va_pl_get (X := []) (f := cellF G S) ha.1
  rw [cell_I ha.2.1, ha.2.2] at hq
  exact va_iald C.1 C.2.1 C.2.2.2.2.2.1.1 h1 q 0 hq rfl hi hd (kk H locs ls h1 h2 h3 h4)
theorem v_zald (C : Cx p s m args meth c D G bs cc nL own) {a n : Nat} {i : Int32} (ha : isA S a 13 n) (hi : vp_in i n) (hd : decode cc pc = .ok (.baload, 1)) (kk : V p l e R s m args below meth c D G bs nL Q cells slots S (pc + 1) lv (.int (mA S a i.toNatClampNeg) :: st)) : V p l e R s m args below meth c D G bs nL Q cells slots S (pc) lv (.int i :: .ref a :: st) := by
  intro H locs ls h1 h2 h3 h4
  obtain ⟨q, hq⟩ := va_pl_get (X := []) (f := cellF G S) ha.1
  rw [cell_Z ha.2.1, ha.2.2] at hq
  exact va_zald C.1 C.2.1 C.2.2.2.2.2.1.1 h1 q 2 hq rfl hi hd (kk H locs ls h1 h2 h3 h4)
theorem v_lald (C : Cx p s m args meth c D G bs cc nL own) {a n : Nat} {i : Int32} (ha : isA S a 12 n) (hi : vp_in i n) (hd : decode cc pc = .ok (.laload, 1)) (kk : V p l e R s m args below meth c D G bs nL Q cells slots S (pc + 1) lv (.long (mQ S a i.toNatClampNeg) :: st)) : V p l e R s m args below meth c D G bs nL Q cells slots S (pc) lv (.int i :: .ref a :: st) := by
  intro H locs ls h1 h2 h3 h4
  obtain ⟨q, hq⟩ := va_pl_get (X := []) (f := cellF G S) ha.1
  rw [cell_J ha.2.1, ha.2.2] at hq
  exact va_lald C.1 C.2.1 C.2.2.2.2.2.1.1 h1 q 1 hq rfl hi hd (kk H locs ls h1 h2 h3 h4)
theorem v_aald (C : Cx p s m args meth c D G bs cc nL own) {a n kd t0 : Nat} {Cn : String} {i : Int32} (ha : isA S a kd n) (hkd : 13 < kd) (ht : (tysG G)[t0]? = some (G kd, .object Cn)) (hi : vp_in i n) (hd : decode cc pc = .ok (.aaload, 1)) (kk : V p l e R s m args below meth c D G bs nL Q cells slots S (pc + 1) lv (va_rf (mP S a i.toNatClampNeg) :: st)) : V p l e R s m args below meth c D G bs nL Q cells slots S (pc) lv (.int i :: .ref a :: st) := by
  intro H locs ls h1 h2 h3 h4
  obtain ⟨q, hq⟩ := va_pl_get (X := []) (f := cellF G S) ha.1
  rw [cell_P ha.2.1 hkd, ha.2.2] at hq
  exact va_aldq C.1 C.2.1 C.2.2.2.2.2.1.1 h1 q t0 hq ht hi hd (kk H locs ls h1 h2 h3 h4)
theorem set_eq {a q : Nat} {e : va_E} {S' : Mem} {A : Nat → Prop} (h2 : va_D A (va_pl (mL S) (cellF G S))) (ha : a ∈ mL S) (hq0 : (va_pl (mL S) (cellF G S))[q]? = some (a, cellF G S a)) (hS' : mL S' = mL S) (hcell : ∀ b, va_up (cellF G S) a e b = cellF G S' b) : (va_pl (mL S) (cellF G S)).set q (a, e) = va_pl (mL S') (cellF G S') := by
  have := va_pl_set (X := []) (f := cellF G S) (e := e) (A := A) h2 ha hq0
  simp only [List.nil_append] at this
  rw [this, va_pl_congr hcell, hS']
theorem v_iast (C : Cx p s m args meth c D G bs cc nL own) {a n : Nat} {i x : Int32} (ha : isA S a 11 n) (hi : vp_in i n) (hd : decode cc pc = .ok (.iastore, 1)) (kk : V p l e R s m args below meth c D G bs nL Q cells slots (sA S a i.toNatClampNeg x) (pc + 1) lv (st)) : V p l e R s m args below meth c D G bs nL Q cells slots S (pc) lv (.int x :: .int i :: .ref a :: st) := by
  intro H locs ls h1 h2 h3 h4
  obtain ⟨q, hq0⟩ := va_pl_get (X := []) (f := cellF G S) ha.1
  have hq := hq0
  rw [cell_I ha.2.1] at hq
  have hset := set_eq (S' := sA S a i.toNatClampNeg x) h2 ha.1 hq0 rfl (cell_sA (G := G) (S := S) i.toNatClampNeg x ha.2.1 (Or.inl rfl))
  exact va_iast C.1 C.2.1 C.2.2.2.2.2.1.1 h1 h2 h3 q 0 hq rfl (by rw [ha.2.2]; exact hi) hd (fun H1 locs1 g1 g2 g3 => by rw [hset] at g1 g2; exact kk H1 locs1 ls g1 g2 g3 h4)
theorem v_zast (C : Cx p s m args meth c D G bs cc nL own) {a n : Nat} {i x : Int32} (ha : isA S a 13 n) (hi : vp_in i n) (hx : vp_nar .boolean x = x) (hd : decode cc pc = .ok (.bastore, 1)) (kk : V p l e R s m args below meth c D G bs nL Q cells slots (sA S a i.toNatClampNeg x) (pc + 1) lv (st)) : V p l e R s m args below meth c D G bs nL Q cells slots S (pc) lv (.int x :: .int i :: .ref a :: st) := by
  intro H locs ls h1 h2 h3 h4
  obtain ⟨q, hq0⟩ := va_pl_get (X := []) (f := cellF G S) ha.1
  have hq := hq0
  rw [cell_Z ha.2.1] at hq
  have hset := set_eq (S' := sA S a i.toNatClampNeg x) h2 ha.1 hq0 rfl (cell_sA (G := G) (S := S) i.toNatClampNeg x ha.2.1 (Or.inr rfl))
  exact va_zast C.1 C.2.1 C.2.2.2.2.2.1.1 h1 h2 h3 q 2 hq rfl (by rw [ha.2.2]; exact hi) hd (fun H1 locs1 g1 g2 g3 => by rw [hx, hset] at g1 g2; exact kk H1 locs1 ls g1 g2 g3 h4)
theorem v_last (C : Cx p s m args meth c D G bs cc nL own) {a n : Nat} {i : Int32} {x : Int64} (ha : isA S a 12 n) (hi : vp_in i n) (hd : decode cc pc = .ok (.lastore, 1)) (kk : V p l e R s m args below meth c D G bs nL Q cells slots (sQ S a i.toNatClampNeg x) (pc + 1) lv (st)) : V p l e R s m args below meth c D G bs nL Q cells slots S (pc) lv (.long x :: .int i :: .ref a :: st) := by
  intro H locs ls h1 h2 h3 h4
  obtain ⟨q, hq0⟩ := va_pl_get (X := []) (f := cellF G S) ha.1
  have hq := hq0
  rw [cell_J ha.2.1] at hq
  have hset := set_eq (S' := sQ S a i.toNatClampNeg x) h2 ha.1 hq0 rfl (cell_sQ (G := G) (S := S) i.toNatClampNeg x ha.2.1)
  exact va_last C.1 C.2.1 C.2.2.2.2.2.1.1 h1 h2 h3 q 1 hq rfl (by rw [ha.2.2]; exact hi) hd (fun H1 locs1 g1 g2 g3 => by rw [hset] at g1 g2; exact kk H1 locs1 ls g1 g2 g3 h4)
theorem v_aast (C : Cx p s m args meth c D G bs cc nL own) {a n kd t0 v cv : Nat} {r : vw_C} {i : Int32} (ha : isA S a kd n) (hkd : 13 < kd) (hv : is S v cv) (hcv : cv < 11) (hr : vwCl[cv]? = some r) (ht : (tysG G)[t0]? = some (G kd, .object r.1)) (hi : vp_in i n) (hd : decode cc pc = .ok (.aastore, 1)) (kk : V p l e R s m args below meth c D G bs nL Q cells slots (sP S a i.toNatClampNeg (some v)) (pc + 1) lv (st)) : V p l e R s m args below meth c D G bs nL Q cells slots S (pc) lv (.ref v :: .int i :: .ref a :: st) := by
  intro H locs ls h1 h2 h3 h4
  obtain ⟨q, hq0⟩ := va_pl_get (X := []) (f := cellF G S) ha.1
  obtain ⟨q2, hq2⟩ := va_pl_get (X := []) (f := cellF G S) hv.1
  rw [cell_obj hv.2 hcv] at hq2
  have hq := hq0
  rw [cell_P ha.2.1 hkd] at hq
  have hset := set_eq (S' := sP S a i.toNatClampNeg (some v)) h2 ha.1 hq0 rfl (cell_sP (G := G) (S := S) i.toNatClampNeg (some v) ha.2.1 hkd)
  exact va_astq C.1 C.2.1 C.2.2.2.2.2.1.1 h1 h2 h3 q t0 q2 cv hq ht hq2 hr (by rw [ha.2.2]; exact hi) hd (fun H1 locs1 g1 g2 g3 => by rw [hset] at g1 g2; exact kk H1 locs1 ls g1 g2 g3 h4)
-- new cells
theorem push_eq {a : Nat} {e : va_E} {S' : Mem} (hn : a ∉ mL S) (hS' : mL S' = mL S ++ [a]) (hcell : ∀ b, va_up (cellF G S) a e b = cellF G S' b) : va_pl (mL S) (cellF G S) ++ [(a, e)] = va_pl (mL S') (cellF G S') := by
  rw [va_pl_push hn, va_pl_congr hcell, hS']
theorem v_new (C : Cx p s m args meth c D G bs cc nL own) {ci i N : Nat} {Cn : String} {T : u_T} {ty : Nat → FieldType} (hc : ci < 11) (hcl : vwCl[ci]? = some (Cn, T, N)) (hin : ∀ w ∈ u_ws Cn T N, w ∈ wsL_law) (hty : ∀ k, k < N → parseFieldDescriptor (T k).2.2.1 = some (ty k)) (hw1 : Cond.classLink own i Cn ∈ wsL_law) (hw2 : Cond.instantiable Cn N ∈ wsL_law) (hw3 : Cond.initialized Cn ∈ wsL_law) (hfs : ∀ j, j < N → defaultValue (ty j) = vp_V (fl0 (lay ci)) j) (hcells : cells + 1 ≤ R.cells) (hslots : slots + N ≤ R.slots) (hd : decode cc pc = .ok (.new i, 3)) (kk : ∀ a, a ∉ mL S → V p l e R s m args below meth c D G bs nL Q (cells + 1) (slots + N) (sNew S a ci) (pc + 3) lv (.ref a :: st)) : V p l e R s m args below meth c D G bs nL Q cells slots S (pc) lv (st) := by
  intro H locs ls h1 h2 h3 h4
  refine va_new C.1 C.2.1 C.2.2.2.2.1 hin ty hty C.2.2.2.1 (C.2.2.2.2.1 _ hw1) (C.2.2.2.2.1 _ hw2) (C.2.2.2.2.1 _ hw3) C.2.2.2.2.2.1.1 h1 h2 h3 (fun q hq => Nat.le_trans C.2.2.2.2.2.2.1 hq) hcl hfs hcells hslots hd (fun q H1 g1 g2 g3 => ?_)
  have hn : q ∉ mL S := va_pl_fresh2 (X := []) g2
  rw [push_eq (S' := sNew S q ci) hn rfl (cell_sNew (G := G) (S := S) (ci := ci) hc)] at g1 g2
  exact kk q hn H1 locs ls g1 g2 g3 h4
theorem G_of {ty : FieldType} {cA cB : ClassId} (h1 : va_RA s cA ty) (h2 : va_RA s cB ty) : cA = cB := by
  cases ty with
  | object C =>
    obtain ⟨_, _, _, _, _, e1⟩ := h1
    obtain ⟨_, _, _, _, _, e2⟩ := h2
    exact Option.some.inj (e1.symm.trans e2)
  | _ => exact Option.some.inj (h1.symm.trans h2)
theorem v_newarr (C : Cx p s m args meth c D G bs cc nL own) {atype : ArrayType} {ty : FieldType} {kd t0 N : Nat} {a0 : vp_A} {n : Int32} (hw : Cond.arrayClass ty ∈ wsL_law) (hty : newarray.typeOf atype = ty) (ht : (tysG G)[t0]? = some (G kd, ty)) (ht7 : t0 < 7) (ha0 : ∀ a, cellF G (sArr S a kd N) a = .inl (G kd, a0)) (ha : ∀ cA : ClassId, vp_cell cA a0 = arrV cA N (fun _ => defaultValue ty)) (hn : ¬ n < 0) (hN : n.toNatClampNeg = N) (hb : N * componentBytes ty ≤ 536870912) (hcells : cells + 1 ≤ R.cells) (hslots : slots + N ≤ R.slots) (hd : decode cc pc = .ok (.newarray atype, 2)) (kk : ∀ a, a ∉ mL S → V p l e R s m args below meth c D G bs nL Q (cells + 1) (slots + N) (sArr S a kd N) (pc + 2) lv (.ref a :: st)) : V p l e R s m args below meth c D G bs nL Q cells slots S (pc) lv (.int n :: st) := by
  intro H locs ls h1 h2 h3 h4
  refine va_newa C.1 C.2.1 (by rw [hty]; exact C.2.2.2.2.1 _ hw) hty C.2.2.2.2.2.1.1 h1 h2 h3 (fun q hq => Nat.le_trans C.2.2.2.2.2.2.1 hq) (a0 := a0) ha hn hN hb hcells hslots hd (fun q cA H1 g0 g1 g2 g3 => ?_)
  have hcA : cA = G kd := G_of (g0.2 7 (cA, ty) rfl).2 (C.2.2.2.2.2.1.1.2 t0 _ ht).2
  subst hcA
  have hn' : q ∉ mL S := va_pl_fresh2 (X := []) g2
  rw [push_eq (S' := sArr S q kd N) hn' rfl (cell_sArr (ha0 q))] at g1 g2
  exact kk q hn' H1 locs ls g1 g2 g3 h4
theorem v_newrefs (C : Cx p s m args meth c D G bs cc nL own) {kd t0 N i : Nat} {Cn : String} {n : Int32} (hkd : 13 < kd) (hao : Cn ∈ aoW) (hw : Cond.classLink own i Cn ∈ wsL_law) (ht : (tysG G)[t0]? = some (G kd, .object Cn)) (hn : ¬ n < 0) (hN : n.toNatClampNeg = N) (hb : N * 4 ≤ 536870912) (hcells : cells + 1 ≤ R.cells) (hslots : slots + N ≤ R.slots) (hd : decode cc pc = .ok (.anewarray i, 3)) (kk : ∀ a, a ∉ mL S → V p l e R s m args below meth c D G bs nL Q (cells + 1) (slots + N) (sArr S a kd N) (pc + 3) lv (.ref a :: st)) : V p l e R s m args below meth c D G bs nL Q cells slots S (pc) lv (.int n :: st) := by
  intro H locs ls h1 h2 h3 h4
  refine va_newq C.1 C.2.1 C.2.2.2.1 (C.2.2.2.2.1 _ hw) (C.2.2.2.2.2.1.2.2 _ hao) C.2.2.2.2.2.1.1 h1 h2 h3 (fun q hq => Nat.le_trans C.2.2.2.2.2.2.1 hq) hn hN hb hcells hslots hd (fun q cA H1 g0 g1 g2 g3 => ?_)
  have hcA : cA = G kd := G_of (g0.2 7 (cA, .object Cn) rfl).2 (C.2.2.2.2.2.1.1.2 t0 _ ht).2
  subst hcA
  have hn' : q ∉ mL S := va_pl_fresh2 (X := []) g2
  rw [push_eq (S' := sArr S q kd N) hn' rfl (cell_sArr (cell_newP hkd))] at g1 g2
  exact kk q hn' H1 locs ls g1 g2 g3 h4
theorem v_objInit (C : Cx p s m args meth c D G bs cc nL own) {i a : Nat} (hw1 : Cond.methodLink own i objectInit ∈ wsL_law) (hw2 : Cond.instanceMethod objectInit ∈ wsL_law) (hw3 : Cond.code objectInit ⟨#[0xb1]⟩ 1 none ∈ wsL_law) (hd : decode cc pc = .ok (.invokespecial i, 3)) (hfr : 1 ≤ R.frames) (hlo : (st.map fun v => v.category).sum + 12 ≤ R.locals) (kk : V p l e R s m args below meth c D G bs nL Q cells slots S (pc + 3) lv (st)) : V p l e R s m args below meth c D G bs nL Q cells slots S (pc) lv (.ref a :: st) := by
  intro H locs ls h1 h2 h3 h4
  refine W.objInit C.1 C.2.1 C.2.2.2.1 (C.2.2.2.2.1 _ hw1) (C.2.2.2.2.1 _ hw2) (C.2.2.2.2.1 _ hw3) rfl (h4.1.trans C.2.2.1.symm) rfl hd hfr (by show 2 * 0 + _ + 12 ≤ _; omega) ?_
  exact kk H locs ls h1 h2 h3 h4
theorem v_max (C : Cx p s m args meth c D G bs cc nL own) {i : Nat} {x y : Int32} (hw1 : Cond.methodLink own i Lib.Math.max.name ∈ wsL_law) (hw2 : Cond.static Lib.Math.max.name ∈ wsL_law) (hw3 : Cond.initialized "java/lang/Math" ∈ wsL_law) (hw4 : Cond.code Lib.Math.max.name Lib.Math.max.code 2 (some .int) ∈ wsL_law) (hd : decode cc pc = .ok (.invokestatic i, 3)) (hfr : 1 ≤ R.frames) (hlo : (st.map fun v => v.category).sum + 13 ≤ R.locals) (hc : cells ≤ R.cells) (hs : slots ≤ R.slots) (kk : V p l e R s m args below meth c D G bs nL Q cells slots S (pc + 3) lv (.int (if x < y then y else x) :: st)) : V p l e R s m args below meth c D G bs nL Q cells slots S (pc) lv (.int y :: .int x :: st) := by
  intro H locs ls h1 h2 h3 h4
  exact va_mmax C.1 C.2.1 (C.2.2.1.trans h4.1.symm) C.2.2.2.1 (C.2.2.2.2.1 _ hw1) (C.2.2.2.2.1 _ hw2) (C.2.2.2.2.1 _ hw3) (C.2.2.2.2.1 _ hw4) hfr hlo hc hs hd (kk H locs ls h1 h2 h3 h4)
-- calls
theorem v_run (C : Cx p s m args meth c D G bs cc nL own) {mc ms : Nat} {st0 rest av : List Value} {a : Array Value} {Post : Mem → List Value → Option Value → Mem → Prop}
    (hr : ∀ (H : Heap) (locs : List Loc) (ls : Array Slot), hW D G bs S H → bs ≤ H.size → lv_has ls nL (lvl 0 lv) → va_Run p l e R s m args below meth c H locs cells slots mc ms (F0 m pc ls st0) rest (QcT D G bs S av Post a) (fun q => bs ≤ q))
    (kk : ∀ (r : Option Value) (S' : Mem), Post S av r S' → V p l e R s m args below meth c D G bs nL Q (cells + mc) (slots + ms) S' (pc + 3) lv (r.toList ++ rest)) : V p l e R s m args below meth c D G bs nL Q cells slots S (pc) lv (st0) := by
  intro H locs ls h1 h2 hS h4 T hT X
  obtain ⟨v, st₀, t, T', L, h0, X', hL, e1, e2, ⟨⟨r, S', hv, hp, hb⟩, hz, hk⟩, stp⟩ := hr H locs ls ⟨h1, h2⟩ (Nat.le_trans C.2.2.2.2.2.2.1 hS.1) h4 T hT X
  cases hv
  rw [h0] at hz hk
  rw [← e1] at hb hz hk
  obtain ⟨t2, a1, b1⟩ := kk v S' hp T'.heap (locs ++ L) ls hb.1 hb.2 ⟨Nat.le_trans hS.1 hz, fun q g1 g2 => by rw [hk q (Nat.lt_of_lt_of_le g1 hS.1) g2]; exact hS.2.1 q g1 g2, fun q hq => by
      rcases List.mem_append.mp hq with h | h
      · exact hS.2.2 q h
      · exact hL q h⟩ h4 T' rfl X'
  exact ⟨t2, stp t2 a1, b1⟩
theorem allGood : ∀ w ∈ wsL_law, (w.onTables && w.keeps) = true ∨ ∃ ty, w = .arrayClass ty := by
  have h : wsL_law.all goodWord = true := by decide +kernel
  exact fun w hw => good_of_word (List.all_eq_true.mp h w hw)
theorem good_code {y : MethodName} {bytes : ByteArray} {maxL : Nat} {ret : Option FieldType} (h5 : Cond.code y bytes maxL ret ∈ wsL_law) : GoodIn wsL_law (.code y bytes maxL ret :: wsL_law) := fun w hw => by
  rcases List.mem_cons.mp hw with rfl | hw
  · exact ⟨h5, allGood _ h5⟩
  · exact ⟨hw, allGood _ hw⟩
theorem good_V {y : MethodName} {bytes : ByteArray} {maxL i : Nat} {ret : Option FieldType} {Cn : String} (h1 : Cond.methodLink own i y ∈ wsL_law) (h2 : Cond.instanceMethod y ∈ wsL_law) (h3 : Cond.selects Cn y y ∈ wsL_law) (h4 : Cond.initialized Cn ∈ wsL_law) (h5 : Cond.code y bytes maxL ret ∈ wsL_law) : GoodIn wsL_law (wsV own i Cn y (.code y bytes maxL ret :: wsL_law)) := fun w hw => by
  rcases List.mem_append.mp hw with hw | hw
  · simp only [List.mem_cons, List.not_mem_nil, or_false] at hw
    rcases hw with rfl | rfl | rfl | rfl
    · exact ⟨h1, allGood _ h1⟩
    · exact ⟨h2, allGood _ h2⟩
    · exact ⟨h3, allGood _ h3⟩
    · exact ⟨h4, allGood _ h4⟩
  · exact good_code h5 w hw
theorem good_S {y : MethodName} {bytes : ByteArray} {maxL i : Nat} {ret : Option FieldType} (h1 : Cond.methodLink own i y ∈ wsL_law) (h2 : Cond.static y ∈ wsL_law) (h4 : Cond.initialized y.cls ∈ wsL_law) (h5 : Cond.code y bytes maxL ret ∈ wsL_law) : GoodIn wsL_law (va_wsS own i y (.code y bytes maxL ret :: wsL_law)) := fun w hw => by
  rcases List.mem_append.mp hw with hw | hw
  · simp only [List.mem_cons, List.not_mem_nil, or_false] at hw
    rcases hw with rfl | rfl | rfl
    · exact ⟨h1, allGood _ h1⟩
    · exact ⟨h2, allGood _ h2⟩
    · exact ⟨h4, allGood _ h4⟩
  · exact good_code h5 w hw
theorem v_callV (C : Cx p s m args meth c D G bs cc nL own) {y : MethodName} {bytes : ByteArray} {maxL i f mc ms lo n b ci N : Nat} {ret : Option FieldType} {Pre : Mem → List Value → Prop} {Post : Mem → List Value → Option Value → Mem → Prop} {As rest st0 : List Value} {Cn : String} {T : u_T}
    (hM : Ct l y bytes maxL ret f mc ms lo Pre Post) (hst : st0 = As.reverse ++ .ref b :: rest) (hb : is S b ci) (hc : ci < 11) (hcl : vwCl[ci]? = some (Cn, T, N))
    (hw : Cond.methodLink own i y ∈ wsL_law ∧ Cond.instanceMethod y ∈ wsL_law ∧ Cond.selects Cn y y ∈ wsL_law ∧ Cond.initialized Cn ∈ wsL_law ∧ Cond.code y bytes maxL ret ∈ wsL_law)
    (hy : y.cls = Cn ∧ y.cls ≠ "java/lang/invoke/MethodHandle" ∧ y.cls ≠ "java/lang/invoke/VarHandle" ∧ (parseMethodDescriptor y.desc).map (fun d => d.parameters.length) = some n) (hn : As.length = n)
    (hR : f + 1 ≤ R.frames ∧ 8 + (maxL + 11) + lo ≤ R.locals) (hrest : (rest.map fun v => v.category).sum ≤ 8) (hcs : cells + mc ≤ R.cells ∧ slots + ms ≤ R.slots) (hd : decode cc pc = .ok (.invokevirtual i, 3))
    (hpre : Pre S (.ref b :: As)) (kk : ∀ (r : Option Value) (S' : Mem), Post S (.ref b :: As) r S' → V p l e R s m args below meth c D G bs nL Q (cells + mc) (slots + ms) S' (pc + 3) lv (r.toList ++ rest)) : V p l e R s m args below meth c D G bs nL Q cells slots S (pc) lv (st0) := by
  subst hst
  refine v_run (a := (Value.ref b :: As).toArray) C (fun H locs ls hw1 hbs h4 => ?_) kk
  obtain ⟨q, hq⟩ := va_pl_get (X := []) (f := cellF G S) hb.1
  rw [cell_obj hb.2 hc] at hq
  exact va_runV ⟨C.1, C.2.1, C.2.2.1, C.2.2.2.1, C.2.2.2.2.1⟩ (hM D G bs S (.ref b :: As) hpre) (cwV n C.2.2.2.2.1 (good_V hw.1 hw.2.1 hw.2.2.1 hw.2.2.2.1 hw.2.2.2.2) rfl rfl rfl hy hR) ⟨wu.blind _, va_recv C.2.2.2.2.2.1.1 hw1.1 hcl hq, fun U hU hW => ⟨rfl, by rw [hU]; exact hw1, C.2.2.2.2.2.1.moved hW, by rw [hU]; exact hbs⟩⟩ rfl hn h4.1 rfl (lv_room hrest) hd hcs
theorem v_callS (C : Cx p s m args meth c D G bs cc nL own) {y : MethodName} {bytes : ByteArray} {maxL i f mc ms lo n : Nat} {ret : Option FieldType} {Pre : Mem → List Value → Prop} {Post : Mem → List Value → Option Value → Mem → Prop} {As rest st0 : List Value}
    (hM : Ct l y bytes maxL ret f mc ms lo Pre Post) (hst : st0 = As.reverse ++ rest)
    (hw : Cond.methodLink own i y ∈ wsL_law ∧ Cond.static y ∈ wsL_law ∧ Cond.initialized y.cls ∈ wsL_law ∧ Cond.code y bytes maxL ret ∈ wsL_law)
    (hy : y.cls ≠ "java/lang/invoke/MethodHandle" ∧ y.cls ≠ "java/lang/invoke/VarHandle" ∧ (parseMethodDescriptor y.desc).map (fun d => d.parameters.length) = some n) (hn : As.length = n)
    (hR : f + 1 ≤ R.frames ∧ 8 + (maxL + 11) + lo ≤ R.locals) (hrest : (rest.map fun v => v.category).sum ≤ 8) (hcs : cells + mc ≤ R.cells ∧ slots + ms ≤ R.slots) (hd : decode cc pc = .ok (.invokestatic i, 3))
    (hpre : Pre S As) (kk : ∀ (r : Option Value) (S' : Mem), Post S As r S' → V p l e R s m args below meth c D G bs nL Q (cells + mc) (slots + ms) S' (pc + 3) lv (r.toList ++ rest)) : V p l e R s m args below meth c D G bs nL Q cells slots S (pc) lv (st0) := by
  subst hst
  refine v_run (a := As.toArray) C (fun H locs ls hw1 hbs h4 => ?_) kk
  exact va_runS ⟨C.1, C.2.1, C.2.2.1, C.2.2.2.1, C.2.2.2.2.1⟩ (hM D G bs S As hpre) (va_cwS n C.2.2.2.2.1 (good_S hw.1 hw.2.1 hw.2.2.1 hw.2.2.2) rfl rfl rfl hy hR) ⟨wu.blind _, fun U hU hW => ⟨rfl, by rw [hU]; exact hw1, C.2.2.2.2.2.1.moved hW, by rw [hU]; exact hbs⟩⟩ rfl hn h4.1 rfl (lv_room hrest) hd hcs
/-- a private static of a nest mate -/
theorem v_callSN (C : Cx p s m args meth c D G bs cc nL own) {y : MethodName} {bytes : ByteArray} {maxL i f mc ms lo n : Nat} {ret : Option FieldType} {Pre : Mem → List Value → Prop} {Post : Mem → List Value → Option Value → Mem → Prop} {As rest st0 : List Value}
    (hM : Ct l y bytes maxL ret f mc ms lo Pre Post) (hst : st0 = As.reverse ++ rest)
    (hw : (own, i, y) ∈ nests ∧ Cond.static y ∈ wsL_law ∧ Cond.initialized y.cls ∈ wsL_law ∧ Cond.code y bytes maxL ret ∈ wsL_law)
    (hy : y.cls ≠ "java/lang/invoke/MethodHandle" ∧ y.cls ≠ "java/lang/invoke/VarHandle" ∧ (parseMethodDescriptor y.desc).map (fun d => d.parameters.length) = some n) (hn : As.length = n)
    (hR : f + 1 ≤ R.frames ∧ 8 + (maxL + 11) + lo ≤ R.locals) (hrest : (rest.map fun v => v.category).sum ≤ 8) (hcs : cells + mc ≤ R.cells ∧ slots + ms ≤ R.slots) (hd : decode cc pc = .ok (.invokestatic i, 3))
    (hpre : Pre S As) (kk : ∀ (r : Option Value) (S' : Mem), Post S As r S' → V p l e R s m args below meth c D G bs nL Q (cells + mc) (slots + ms) S' (pc + 3) lv (r.toList ++ rest)) : V p l e R s m args below meth c D G bs nL Q cells slots S (pc) lv (st0) := by
  subst hst
  refine v_run (a := As.toArray) C (fun H locs ls hw1 hbs h4 => ?_) kk
  exact va_runSN ⟨C.1, C.2.1, C.2.2.1, C.2.2.2.1, C.2.2.2.2.1⟩ (hM D G bs S As hpre) ⟨va_cnB n C.2.2.2.2.1 (good_code hw.2.2.2) rfl rfl rfl (C.2.2.2.2.2.1.2.1 _ hw.1) (C.2.2.2.2.1 _ hw.2.2.1) hy hR, C.2.2.2.2.1 _ hw.2.1, trivial⟩ ⟨wu.blind _, fun U hU hW => ⟨rfl, by rw [hU]; exact hw1, C.2.2.2.2.2.1.moved hW, by rw [hU]; exact hbs⟩⟩ rfl hn h4.1 rfl (lv_room hrest) hd hcs
/-- a constructor -/
theorem v_callI (C : Cx p s m args meth c D G bs cc nL own) {y : MethodName} {bytes : ByteArray} {maxL i f mc ms lo n b : Nat} {Pre : Mem → List Value → Prop} {Post : Mem → List Value → Option Value → Mem → Prop} {As rest st0 : List Value}
    (hM : Ct l y bytes maxL none f mc ms lo Pre Post) (hst : st0 = As.reverse ++ .ref b :: rest)
    (hw : Cond.methodLink own i y ∈ wsL_law ∧ Cond.instanceMethod y ∈ wsL_law ∧ Cond.initialized y.cls ∈ wsL_law ∧ Cond.code y bytes maxL none ∈ wsL_law) (hy1 : y.name = "<init>")
    (hy : y.cls ≠ "java/lang/invoke/MethodHandle" ∧ y.cls ≠ "java/lang/invoke/VarHandle" ∧ (parseMethodDescriptor y.desc).map (fun d => d.parameters.length) = some n) (hn : As.length = n)
    (hR : f + 1 ≤ R.frames ∧ 8 + (maxL + 11) + lo ≤ R.locals) (hrest : (rest.map fun v => v.category).sum ≤ 8) (hcs : cells + mc ≤ R.cells ∧ slots + ms ≤ R.slots) (hd : decode cc pc = .ok (.invokespecial i, 3))
    (hpre : Pre S (.ref b :: As)) (kk : ∀ (r : Option Value) (S' : Mem), Post S (.ref b :: As) r S' → V p l e R s m args below meth c D G bs nL Q (cells + mc) (slots + ms) S' (pc + 3) lv (r.toList ++ rest)) : V p l e R s m args below meth c D G bs nL Q cells slots S (pc) lv (st0) := by
  subst hst
  refine v_run (a := (Value.ref b :: As).toArray) C (fun H locs ls hw1 hbs h4 => ?_) kk
  exact va_runI ⟨C.1, C.2.1, C.2.2.1, C.2.2.2.1, C.2.2.2.2.1⟩ (hM D G bs S (.ref b :: As) hpre) (cwI n C.2.2.2.2.1 (good_code hw.2.2.2) rfl rfl rfl (C.2.2.2.2.1 _ hw.2.2.1) (C.2.2.2.2.1 _ hw.1) (C.2.2.2.2.1 _ hw.2.1) hy1 hy hR) ⟨wu.blind _, fun U hU hW => ⟨rfl, by rw [hU]; exact hw1, C.2.2.2.2.2.1.moved hW, by rw [hU]; exact hbs⟩⟩ rfl hn h4.1 rfl (lv_room hrest) hd hcs
/-- a private constructor of a nest mate -/
theorem v_callIN (C : Cx p s m args meth c D G bs cc nL own) {y : MethodName} {bytes : ByteArray} {maxL i f mc ms lo n b : Nat} {Pre : Mem → List Value → Prop} {Post : Mem → List Value → Option Value → Mem → Prop} {As rest st0 : List Value}
    (hM : Ct l y bytes maxL none f mc ms lo Pre Post) (hst : st0 = As.reverse ++ .ref b :: rest)
    (hw : (own, i, y) ∈ nests ∧ Cond.instanceMethod y ∈ wsL_law ∧ Cond.initialized y.cls ∈ wsL_law ∧ Cond.code y bytes maxL none ∈ wsL_law) (hy1 : y.name = "<init>")
    (hy : y.cls ≠ "java/lang/invoke/MethodHandle" ∧ y.cls ≠ "java/lang/invoke/VarHandle" ∧ (parseMethodDescriptor y.desc).map (fun d => d.parameters.length) = some n) (hn : As.length = n)
    (hR : f + 1 ≤ R.frames ∧ 8 + (maxL + 11) + lo ≤ R.locals) (hrest : (rest.map fun v => v.category).sum ≤ 8) (hcs : cells + mc ≤ R.cells ∧ slots + ms ≤ R.slots) (hd : decode cc pc = .ok (.invokespecial i, 3))
    (hpre : Pre S (.ref b :: As)) (kk : ∀ (r : Option Value) (S' : Mem), Post S (.ref b :: As) r S' → V p l e R s m args below meth c D G bs nL Q (cells + mc) (slots + ms) S' (pc + 3) lv (r.toList ++ rest)) : V p l e R s m args below meth c D G bs nL Q cells slots S (pc) lv (st0) := by
  subst hst
  refine v_run (a := (Value.ref b :: As).toArray) C (fun H locs ls hw1 hbs h4 => ?_) kk
  exact va_runIN ⟨C.1, C.2.1, C.2.2.1, C.2.2.2.1, C.2.2.2.2.1⟩ (hM D G bs S (.ref b :: As) hpre) ⟨va_cnB n C.2.2.2.2.1 (good_code hw.2.2.2) rfl rfl rfl (C.2.2.2.2.2.1.2.1 _ hw.1) (C.2.2.2.2.1 _ hw.2.2.1) hy hR, hy1, C.2.2.2.2.1 _ hw.2.1⟩ ⟨wu.blind _, fun U hU hW => ⟨rfl, by rw [hU]; exact hw1, C.2.2.2.2.2.1.moved hW, by rw [hU]; exact hbs⟩⟩ rfl hn h4.1 rfl (lv_room hrest) hd hcs
-- a method's end
theorem v_iret (C : Cx p s m args meth c D G bs cc nL own) {S0 : Mem} {av : List Value} {Post : Mem → List Value → Option Value → Mem → Prop} {mc ms : Nat} {v : Int32} (hr : meth.sig.returnType = some .int) (hc : cells ≤ mc) (hs : slots ≤ ms) (hd : decode cc pc = .ok (.ireturn, 1)) (hp : Post S0 av (some (.int v)) S) : V p l e R s m args below meth c D G bs nL (MQ below (QcT D G bs S0 av Post) args s mc ms (fun q => bs ≤ q)) cells slots S pc lv [.int v] := by
  intro H locs ls h1 h2 h3 h4
  refine W.widen hc hs ?_
  exact W.iret (hlocks := C.2.2.2.2.2.2.2) C.1 C.2.1 hr (fun t ht hW => ⟨⟨_, S, rfl, hp, by rw [ht]; exact ⟨h1, h2⟩⟩, h3.F ht⟩) h3.2.2 hd
theorem v_zret (C : Cx p s m args meth c D G bs cc nL own) {S0 : Mem} {av : List Value} {Post : Mem → List Value → Option Value → Mem → Prop} {mc ms : Nat} {v : Int32} (hr : meth.sig.returnType = some .boolean) (hn : narrow .boolean (.int v) = .int v) (hc : cells ≤ mc) (hs : slots ≤ ms) (hd : decode cc pc = .ok (.ireturn, 1)) (hp : Post S0 av (some (.int v)) S) : V p l e R s m args below meth c D G bs nL (MQ below (QcT D G bs S0 av Post) args s mc ms (fun q => bs ≤ q)) cells slots S pc lv [.int v] := by
  intro H locs ls h1 h2 h3 h4
  refine W.widen hc hs ?_
  exact W.zret (hlocks := C.2.2.2.2.2.2.2) C.1 C.2.1 hr hn (fun t ht hW => ⟨⟨_, S, rfl, hp, by rw [ht]; exact ⟨h1, h2⟩⟩, h3.F ht⟩) h3.2.2 hd
theorem v_lret (C : Cx p s m args meth c D G bs cc nL own) {S0 : Mem} {av : List Value} {Post : Mem → List Value → Option Value → Mem → Prop} {mc ms : Nat} {v : Int64} (hr : meth.sig.returnType = some .long) (hc : cells ≤ mc) (hs : slots ≤ ms) (hd : decode cc pc = .ok (.lreturn, 1)) (hp : Post S0 av (some (.long v)) S) : V p l e R s m args below meth c D G bs nL (MQ below (QcT D G bs S0 av Post) args s mc ms (fun q => bs ≤ q)) cells slots S pc lv [.long v] := by
  intro H locs ls h1 h2 h3 h4
  refine W.widen hc hs ?_
  exact W.lret (hlocks := C.2.2.2.2.2.2.2) C.1 C.2.1 hr (fun t ht hW => ⟨⟨_, S, rfl, hp, by rw [ht]; exact ⟨h1, h2⟩⟩, h3.F ht⟩) h3.2.2 hd
theorem v_vret (C : Cx p s m args meth c D G bs cc nL own) {S0 : Mem} {av : List Value} {Post : Mem → List Value → Option Value → Mem → Prop} {mc ms : Nat} (hr : meth.sig.returnType = none) (hc : cells ≤ mc) (hs : slots ≤ ms) (hd : decode cc pc = .ok (.return_, 1)) (hp : Post S0 av none S) : V p l e R s m args below meth c D G bs nL (MQ below (QcT D G bs S0 av Post) args s mc ms (fun q => bs ≤ q)) cells slots S pc lv [] := by
  intro H locs ls h1 h2 h3 h4
  refine W.widen hc hs ?_
  exact W.vret (hlocks := C.2.2.2.2.2.2.2) C.1 C.2.1 hr (fun t ht hW => ⟨⟨_, S, rfl, hp, by rw [ht]; exact ⟨h1, h2⟩⟩, h3.F ht⟩) h3.2.2 hd
theorem v_aret (C : Cx p s m args meth c D G bs cc nL own) {S0 : Mem} {av : List Value} {Post : Mem → List Value → Option Value → Mem → Prop} {mc ms : Nat} {o : Option Nat} {Cn : String} (hr : meth.sig.returnType = some (.object Cn)) (hc : cells ≤ mc) (hs : slots ≤ ms) (hd : decode cc pc = .ok (.areturn, 1)) (hp : Post S0 av (some (va_rf o)) S) : V p l e R s m args below meth c D G bs nL (MQ below (QcT D G bs S0 av Post) args s mc ms (fun q => bs ≤ q)) cells slots S pc lv [va_rf o] := by
  intro H locs ls h1 h2 h3 h4
  refine W.widen hc hs ?_
  exact W.aret (hlocks := C.2.2.2.2.2.2.2) C.1 C.2.1 hr (Or.inl ⟨_, rfl⟩) (va_rf_or o) (fun t ht hW => ⟨⟨_, S, rfl, hp, by rw [ht]; exact ⟨h1, h2⟩⟩, h3.F ht⟩) h3.2.2 hd
/-- a contract out of the walk of the body -/
theorem ct_of {y : MethodName} {maxL f mc ms lo : Nat} {ret : Option FieldType} {Pre : Mem → List Value → Prop} {Post : Mem → List Value → Option Value → Mem → Prop} (hy : plainName y.cls = true) (hlen : ∀ S av, Pre S av → (lg_sl av).length ≤ maxL)
    (body : ∀ (p : Program) (e : Env) (s : State) (m : MethodId) (args : Array Value) (below : List Frame) (meth : Method) (c : Code) (D : va_G) (G : Nat → ClassId) (bs : Nat) (S : Mem) (av : List Value), Cx p s m args meth c D G bs cc maxL y.cls → meth.sig.returnType = ret → (y.name = "<init>" → meth.name = "<init>") → Pre S av →
      V p l e ({ frames := f, cells := mc, slots := ms, locals := lo } : Room) s m args below meth c D G bs maxL (MQ below (QcT D G bs S av Post) args s mc ms (fun q => bs ≤ q)) 0 0 S 0 (argl maxL av) []) :
    Ct l y cc maxL ret f mc ms lo Pre Post := by
  intro D G bs S av hpre
  refine Met.ofW (cc := cc) (maxL := maxL) (ret := ret) hy rfl ?_
  intro p e s m args below meth c s₁ B hml hv
  obtain ⟨rfl, hwu⟩ := hv
  have hts := atoms_spec (ws := .code y cc maxL ret :: wsL_law) B.pre
  have hown : s.vm.findClass y.cls = some m.cls := findClass_of_methodNamed B.named
  have hl := lv_entry av (n := maxL) (hlen S av hpre)
  rw [lg_entry_eq]
  refine body p e s m av.toArray below meth c D G bs S av ⟨B.exec, B.bytes, hml, hown, fun w hw => hts w (List.mem_cons_of_mem _ hw), hwu.2.1, hwu.2.2, B.notSynchronized⟩ B.returns (fun h => ((name_of_methodNamed B.named B.method).1).trans h) hpre s.heap [] _ hwu.1.1 hwu.1.2 va_S.rf ?_
  rw [lvl_argl]
  exact hl

end ROWS
end
section
theorem mR1 : ∀ w ∈ wsL_law_r1, w ∈ wsL_law := fun _ h => List.mem_append_left _ (List.mem_append_left _ (List.mem_append_left _ (List.mem_append_left _ (List.mem_append_left _ (List.mem_append_left _ (List.mem_append_left _ (List.mem_append_left _ (List.mem_append_left _ (List.mem_append_left _ (List.mem_append_left _ (List.mem_append_left _ (List.mem_append_left _ h))))))))))))
theorem mR2 : ∀ w ∈ wsL_law_r2, w ∈ wsL_law := fun _ h => List.mem_append_left _ (List.mem_append_left _ (List.mem_append_left _ (List.mem_append_left _ (List.mem_append_left _ (List.mem_append_left _ (List.mem_append_left _ (List.mem_append_left _ (List.mem_append_left _ (List.mem_append_left _ (List.mem_append_left _ (List.mem_append_left _ (List.mem_append_right _ (List.mem_append_left _ h)))))))))))))
theorem mR3 : ∀ w ∈ wsL_law_r3, w ∈ wsL_law := fun _ h => List.mem_append_left _ (List.mem_append_left _ (List.mem_append_left _ (List.mem_append_left _ (List.mem_append_left _ (List.mem_append_left _ (List.mem_append_left _ (List.mem_append_left _ (List.mem_append_left _ (List.mem_append_left _ (List.mem_append_left _ (List.mem_append_left _ (List.mem_append_right _ (List.mem_append_right _ (List.mem_append_left _ h))))))))))))))
theorem mR4 : ∀ w ∈ wsL_law_r4, w ∈ wsL_law := fun _ h => List.mem_append_left _ (List.mem_append_left _ (List.mem_append_left _ (List.mem_append_left _ (List.mem_append_left _ (List.mem_append_left _ (List.mem_append_left _ (List.mem_append_left _ (List.mem_append_left _ (List.mem_append_left _ (List.mem_append_left _ (List.mem_append_left _ (List.mem_append_right _ (List.mem_append_right _ (List.mem_append_right _ (List.mem_append_left _ h)))))))))))))))
theorem mR5 : ∀ w ∈ wsL_law_r5, w ∈ wsL_law := fun _ h => List.mem_append_left _ (List.mem_append_left _ (List.mem_append_left _ (List.mem_append_left _ (List.mem_append_left _ (List.mem_append_left _ (List.mem_append_left _ (List.mem_append_left _ (List.mem_append_left _ (List.mem_append_left _ (List.mem_append_left _ (List.mem_append_left _ (List.mem_append_right _ (List.mem_append_right _ (List.mem_append_right _ (List.mem_append_right _ (List.mem_append_left _ h))))))))))))))))
theorem mR6 : ∀ w ∈ wsL_law_r6, w ∈ wsL_law := fun _ h => List.mem_append_left _ (List.mem_append_left _ (List.mem_append_left _ (List.mem_append_left _ (List.mem_append_left _ (List.mem_append_left _ (List.mem_append_left _ (List.mem_append_left _ (List.mem_append_left _ (List.mem_append_left _ (List.mem_append_left _ (List.mem_append_left _ (List.mem_append_right _ (List.mem_append_right _ (List.mem_append_right _ (List.mem_append_right _ (List.mem_append_right _ (List.mem_append_left _ h)))))))))))))))))
theorem mR7 : ∀ w ∈ wsL_law_r7, w ∈ wsL_law := fun _ h => List.mem_append_left _ (List.mem_append_left _ (List.mem_append_left _ (List.mem_append_left _ (List.mem_append_left _ (List.mem_append_left _ (List.mem_append_left _ (List.mem_append_left _ (List.mem_append_left _ (List.mem_append_left _ (List.mem_append_left _ (List.mem_append_left _ (List.mem_append_right _ (List.mem_append_right _ (List.mem_append_right _ (List.mem_append_right _ (List.mem_append_right _ (List.mem_append_right _ (List.mem_append_left _ h))))))))))))))))))
theorem mR8 : ∀ w ∈ wsL_law_r8, w ∈ wsL_law := fun _ h => List.mem_append_left _ (List.mem_append_left _ (List.mem_append_left _ (List.mem_append_left _ (List.mem_append_left _ (List.mem_append_left _ (List.mem_append_left _ (List.mem_append_left _ (List.mem_append_left _ (List.mem_append_left _ (List.mem_append_left _ (List.mem_append_left _ (List.mem_append_right _ (List.mem_append_right _ (List.mem_append_right _ (List.mem_append_right _ (List.mem_append_right _ (List.mem_append_right _ (List.mem_append_right _ (List.mem_append_left _ h)))))))))))))))))))
theorem mR9 : ∀ w ∈ wsL_law_r9, w ∈ wsL_law := fun _ h => List.mem_append_left _ (List.mem_append_left _ (List.mem_append_left _ (List.mem_append_left _ (List.mem_append_left _ (List.mem_append_left _ (List.mem_append_left _ (List.mem_append_left _ (List.mem_append_left _ (List.mem_append_left _ (List.mem_append_left _ (List.mem_append_left _ (List.mem_append_right _ (List.mem_append_right _ (List.mem_append_right _ (List.mem_append_right _ (List.mem_append_right _ (List.mem_append_right _ (List.mem_append_right _ (List.mem_append_right _ (List.mem_append_left _ h))))))))))))))))))))
theorem mR10 : ∀ w ∈ wsL_law_r10, w ∈ wsL_law := fun _ h => List.mem_append_left _ (List.mem_append_left _ (List.mem_append_left _ (List.mem_append_left _ (List.mem_append_left _ (List.mem_append_left _ (List.mem_append_left _ (List.mem_append_left _ (List.mem_append_left _ (List.mem_append_left _ (List.mem_append_left _ (List.mem_append_left _ (List.mem_append_right _ (List.mem_append_right _ (List.mem_append_right _ (List.mem_append_right _ (List.mem_append_right _ (List.mem_append_right _ (List.mem_append_right _ (List.mem_append_right _ (List.mem_append_right _ (List.mem_append_left _ h)))))))))))))))))))))
theorem mR11 : ∀ w ∈ wsL_law_r11, w ∈ wsL_law := fun _ h => List.mem_append_left _ (List.mem_append_left _ (List.mem_append_left _ (List.mem_append_left _ (List.mem_append_left _ (List.mem_append_left _ (List.mem_append_left _ (List.mem_append_left _ (List.mem_append_left _ (List.mem_append_left _ (List.mem_append_left _ (List.mem_append_left _ (List.mem_append_right _ (List.mem_append_right _ (List.mem_append_right _ (List.mem_append_right _ (List.mem_append_right _ (List.mem_append_right _ (List.mem_append_right _ (List.mem_append_right _ (List.mem_append_right _ (List.mem_append_right _ (List.mem_append_left _ h))))))))))))))))))))))
theorem mR12 : ∀ w ∈ wsL_law_r12, w ∈ wsL_law := fun _ h => List.mem_append_left _ (List.mem_append_left _ (List.mem_append_left _ (List.mem_append_left _ (List.mem_append_left _ (List.mem_append_left _ (List.mem_append_left _ (List.mem_append_left _ (List.mem_append_left _ (List.mem_append_left _ (List.mem_append_left _ (List.mem_append_left _ (List.mem_append_right _ (List.mem_append_right _ (List.mem_append_right _ (List.mem_append_right _ (List.mem_append_right _ (List.mem_append_right _ (List.mem_append_right _ (List.mem_append_right _ (List.mem_append_right _ (List.mem_append_right _ (List.mem_append_right _ (List.mem_append_left _ h)))))))))))))))))))))))
theorem mR13 : ∀ w ∈ wsL_law_r13, w ∈ wsL_law := fun _ h => List.mem_append_left _ (List.mem_append_left _ (List.mem_append_left _ (List.mem_append_left _ (List.mem_append_left _ (List.mem_append_left _ (List.mem_append_left _ (List.mem_append_left _ (List.mem_append_left _ (List.mem_append_left _ (List.mem_append_left _ (List.mem_append_left _ (List.mem_append_right _ (List.mem_append_right _ (List.mem_append_right _ (List.mem_append_right _ (List.mem_append_right _ (List.mem_append_right _ (List.mem_append_right _ (List.mem_append_right _ (List.mem_append_right _ (List.mem_append_right _ (List.mem_append_right _ (List.mem_append_right _ (List.mem_append_left _ h))))))))))))))))))))))))
theorem mR14 : ∀ w ∈ wsL_law_r14, w ∈ wsL_law := fun _ h => List.mem_append_left _ (List.mem_append_left _ (List.mem_append_left _ (List.mem_append_left _ (List.mem_append_left _ (List.mem_append_left _ (List.mem_append_left _ (List.mem_append_left _ (List.mem_append_left _ (List.mem_append_left _ (List.mem_append_left _ (List.mem_append_left _ (List.mem_append_right _ (List.mem_append_right _ (List.mem_append_right _ (List.mem_append_right _ (List.mem_append_right _ (List.mem_append_right _ (List.mem_append_right _ (List.mem_append_right _ (List.mem_append_right _ (List.mem_append_right _ (List.mem_append_right _ (List.mem_append_right _ (List.mem_append_right _ (List.mem_append_left _ h)))))))))))))))))))))))))
theorem mR15 : ∀ w ∈ wsL_law_r15, w ∈ wsL_law := fun _ h => List.mem_append_left _ (List.mem_append_left _ (List.mem_append_left _ (List.mem_append_left _ (List.mem_append_left _ (List.mem_append_left _ (List.mem_append_left _ (List.mem_append_left _ (List.mem_append_left _ (List.mem_append_left _ (List.mem_append_left _ (List.mem_append_left _ (List.mem_append_right _ (List.mem_append_right _ (List.mem_append_right _ (List.mem_append_right _ (List.mem_append_right _ (List.mem_append_right _ (List.mem_append_right _ (List.mem_append_right _ (List.mem_append_right _ (List.mem_append_right _ (List.mem_append_right _ (List.mem_append_right _ (List.mem_append_right _ (List.mem_append_right _ (List.mem_append_left _ h))))))))))))))))))))))))))
theorem mR16 : ∀ w ∈ wsL_law_r16, w ∈ wsL_law := fun _ h => List.mem_append_left _ (List.mem_append_left _ (List.mem_append_left _ (List.mem_append_left _ (List.mem_append_left _ (List.mem_append_left _ (List.mem_append_left _ (List.mem_append_left _ (List.mem_append_left _ (List.mem_append_left _ (List.mem_append_left _ (List.mem_append_left _ (List.mem_append_right _ (List.mem_append_right _ (List.mem_append_right _ (List.mem_append_right _ (List.mem_append_right _ (List.mem_append_right _ (List.mem_append_right _ (List.mem_append_right _ (List.mem_append_right _ (List.mem_append_right _ (List.mem_append_right _ (List.mem_append_right _ (List.mem_append_right _ (List.mem_append_right _ (List.mem_append_right _ (List.mem_append_left _ h)))))))))))))))))))))))))))
theorem mR17 : ∀ w ∈ wsL_law_r17, w ∈ wsL_law := fun _ h => List.mem_append_left _ (List.mem_append_left _ (List.mem_append_left _ (List.mem_append_left _ (List.mem_append_left _ (List.mem_append_left _ (List.mem_append_left _ (List.mem_append_left _ (List.mem_append_left _ (List.mem_append_left _ (List.mem_append_left _ (List.mem_append_left _ (List.mem_append_right _ (List.mem_append_right _ (List.mem_append_right _ (List.mem_append_right _ (List.mem_append_right _ (List.mem_append_right _ (List.mem_append_right _ (List.mem_append_right _ (List.mem_append_right _ (List.mem_append_right _ (List.mem_append_right _ (List.mem_append_right _ (List.mem_append_right _ (List.mem_append_right _ (List.mem_append_right _ (List.mem_append_right _ (List.mem_append_left _ h))))))))))))))))))))))))))))
theorem mR18 : ∀ w ∈ wsL_law_r18, w ∈ wsL_law := fun _ h => List.mem_append_left _ (List.mem_append_left _ (List.mem_append_left _ (List.mem_append_left _ (List.mem_append_left _ (List.mem_append_left _ (List.mem_append_left _ (List.mem_append_left _ (List.mem_append_left _ (List.mem_append_left _ (List.mem_append_left _ (List.mem_append_left _ (List.mem_append_right _ (List.mem_append_right _ (List.mem_append_right _ (List.mem_append_right _ (List.mem_append_right _ (List.mem_append_right _ (List.mem_append_right _ (List.mem_append_right _ (List.mem_append_right _ (List.mem_append_right _ (List.mem_append_right _ (List.mem_append_right _ (List.mem_append_right _ (List.mem_append_right _ (List.mem_append_right _ (List.mem_append_right _ (List.mem_append_right _ (List.mem_append_left _ h)))))))))))))))))))))))))))))
theorem mR19 : ∀ w ∈ wsL_law_r19, w ∈ wsL_law := fun _ h => List.mem_append_left _ (List.mem_append_left _ (List.mem_append_left _ (List.mem_append_left _ (List.mem_append_left _ (List.mem_append_left _ (List.mem_append_left _ (List.mem_append_left _ (List.mem_append_left _ (List.mem_append_left _ (List.mem_append_left _ (List.mem_append_left _ (List.mem_append_right _ (List.mem_append_right _ (List.mem_append_right _ (List.mem_append_right _ (List.mem_append_right _ (List.mem_append_right _ (List.mem_append_right _ (List.mem_append_right _ (List.mem_append_right _ (List.mem_append_right _ (List.mem_append_right _ (List.mem_append_right _ (List.mem_append_right _ (List.mem_append_right _ (List.mem_append_right _ (List.mem_append_right _ (List.mem_append_right _ (List.mem_append_right _ (List.mem_append_left _ h))))))))))))))))))))))))))))))
theorem mR20 : ∀ w ∈ wsL_law_r20, w ∈ wsL_law := fun _ h => List.mem_append_left _ (List.mem_append_left _ (List.mem_append_left _ (List.mem_append_left _ (List.mem_append_left _ (List.mem_append_left _ (List.mem_append_left _ (List.mem_append_left _ (List.mem_append_left _ (List.mem_append_left _ (List.mem_append_left _ (List.mem_append_left _ (List.mem_append_right _ (List.mem_append_right _ (List.mem_append_right _ (List.mem_append_right _ (List.mem_append_right _ (List.mem_append_right _ (List.mem_append_right _ (List.mem_append_right _ (List.mem_append_right _ (List.mem_append_right _ (List.mem_append_right _ (List.mem_append_right _ (List.mem_append_right _ (List.mem_append_right _ (List.mem_append_right _ (List.mem_append_right _ (List.mem_append_right _ (List.mem_append_right _ (List.mem_append_right _ (List.mem_append_left _ h)))))))))))))))))))))))))))))))
theorem mR21 : ∀ w ∈ wsL_law_r21, w ∈ wsL_law := fun _ h => List.mem_append_left _ (List.mem_append_left _ (List.mem_append_left _ (List.mem_append_left _ (List.mem_append_left _ (List.mem_append_left _ (List.mem_append_left _ (List.mem_append_left _ (List.mem_append_left _ (List.mem_append_left _ (List.mem_append_left _ (List.mem_append_left _ (List.mem_append_right _ (List.mem_append_right _ (List.mem_append_right _ (List.mem_append_right _ (List.mem_append_right _ (List.mem_append_right _ (List.mem_append_right _ (List.mem_append_right _ (List.mem_append_right _ (List.mem_append_right _ (List.mem_append_right _ (List.mem_append_right _ (List.mem_append_right _ (List.mem_append_right _ (List.mem_append_right _ (List.mem_append_right _ (List.mem_append_right _ (List.mem_append_right _ (List.mem_append_right _ (List.mem_append_right _ (List.mem_append_left _ h))))))))))))))))))))))))))))))))
theorem mR22 : ∀ w ∈ wsL_law_r22, w ∈ wsL_law := fun _ h => List.mem_append_left _ (List.mem_append_left _ (List.mem_append_left _ (List.mem_append_left _ (List.mem_append_left _ (List.mem_append_left _ (List.mem_append_left _ (List.mem_append_left _ (List.mem_append_left _ (List.mem_append_left _ (List.mem_append_left _ (List.mem_append_left _ (List.mem_append_right _ (List.mem_append_right _ (List.mem_append_right _ (List.mem_append_right _ (List.mem_append_right _ (List.mem_append_right _ (List.mem_append_right _ (List.mem_append_right _ (List.mem_append_right _ (List.mem_append_right _ (List.mem_append_right _ (List.mem_append_right _ (List.mem_append_right _ (List.mem_append_right _ (List.mem_append_right _ (List.mem_append_right _ (List.mem_append_right _ (List.mem_append_right _ (List.mem_append_right _ (List.mem_append_right _ (List.mem_append_right _ (List.mem_append_left _ h)))))))))))))))))))))))))))))))))
theorem mR23 : ∀ w ∈ wsL_law_r23, w ∈ wsL_law := fun _ h => List.mem_append_left _ (List.mem_append_left _ (List.mem_append_left _ (List.mem_append_left _ (List.mem_append_left _ (List.mem_append_left _ (List.mem_append_left _ (List.mem_append_left _ (List.mem_append_left _ (List.mem_append_left _ (List.mem_append_left _ (List.mem_append_left _ (List.mem_append_right _ (List.mem_append_right _ (List.mem_append_right _ (List.mem_append_right _ (List.mem_append_right _ (List.mem_append_right _ (List.mem_append_right _ (List.mem_append_right _ (List.mem_append_right _ (List.mem_append_right _ (List.mem_append_right _ (List.mem_append_right _ (List.mem_append_right _ (List.mem_append_right _ (List.mem_append_right _ (List.mem_append_right _ (List.mem_append_right _ (List.mem_append_right _ (List.mem_append_right _ (List.mem_append_right _ (List.mem_append_right _ (List.mem_append_right _ (List.mem_append_left _ h))))))))))))))))))))))))))))))))))
theorem mR24 : ∀ w ∈ wsL_law_r24, w ∈ wsL_law := fun _ h => List.mem_append_left _ (List.mem_append_left _ (List.mem_append_left _ (List.mem_append_left _ (List.mem_append_left _ (List.mem_append_left _ (List.mem_append_left _ (List.mem_append_left _ (List.mem_append_left _ (List.mem_append_left _ (List.mem_append_left _ (List.mem_append_left _ (List.mem_append_right _ (List.mem_append_right _ (List.mem_append_right _ (List.mem_append_right _ (List.mem_append_right _ (List.mem_append_right _ (List.mem_append_right _ (List.mem_append_right _ (List.mem_append_right _ (List.mem_append_right _ (List.mem_append_right _ (List.mem_append_right _ (List.mem_append_right _ (List.mem_append_right _ (List.mem_append_right _ (List.mem_append_right _ (List.mem_append_right _ (List.mem_append_right _ (List.mem_append_right _ (List.mem_append_right _ (List.mem_append_right _ (List.mem_append_right _ (List.mem_append_right _ (List.mem_append_left _ h)))))))))))))))))))))))))))))))))))
theorem mR25 : ∀ w ∈ wsL_law_r25, w ∈ wsL_law := fun _ h => List.mem_append_left _ (List.mem_append_left _ (List.mem_append_left _ (List.mem_append_left _ (List.mem_append_left _ (List.mem_append_left _ (List.mem_append_left _ (List.mem_append_left _ (List.mem_append_left _ (List.mem_append_left _ (List.mem_append_left _ (List.mem_append_left _ (List.mem_append_right _ (List.mem_append_right _ (List.mem_append_right _ (List.mem_append_right _ (List.mem_append_right _ (List.mem_append_right _ (List.mem_append_right _ (List.mem_append_right _ (List.mem_append_right _ (List.mem_append_right _ (List.mem_append_right _ (List.mem_append_right _ (List.mem_append_right _ (List.mem_append_right _ (List.mem_append_right _ (List.mem_append_right _ (List.mem_append_right _ (List.mem_append_right _ (List.mem_append_right _ (List.mem_append_right _ (List.mem_append_right _ (List.mem_append_right _ (List.mem_append_right _ (List.mem_append_right _ (List.mem_append_left _ h))))))))))))))))))))))))))))))))))))
theorem mR26 : ∀ w ∈ wsL_law_r26, w ∈ wsL_law := fun _ h => List.mem_append_left _ (List.mem_append_left _ (List.mem_append_left _ (List.mem_append_left _ (List.mem_append_left _ (List.mem_append_left _ (List.mem_append_left _ (List.mem_append_left _ (List.mem_append_left _ (List.mem_append_left _ (List.mem_append_left _ (List.mem_append_left _ (List.mem_append_right _ (List.mem_append_right _ (List.mem_append_right _ (List.mem_append_right _ (List.mem_append_right _ (List.mem_append_right _ (List.mem_append_right _ (List.mem_append_right _ (List.mem_append_right _ (List.mem_append_right _ (List.mem_append_right _ (List.mem_append_right _ (List.mem_append_right _ (List.mem_append_right _ (List.mem_append_right _ (List.mem_append_right _ (List.mem_append_right _ (List.mem_append_right _ (List.mem_append_right _ (List.mem_append_right _ (List.mem_append_right _ (List.mem_append_right _ (List.mem_append_right _ (List.mem_append_right _ (List.mem_append_right _ (List.mem_append_left _ h)))))))))))))))))))))))))))))))))))))
theorem mR27 : ∀ w ∈ wsL_law_r27, w ∈ wsL_law := fun _ h => List.mem_append_left _ (List.mem_append_left _ (List.mem_append_left _ (List.mem_append_left _ (List.mem_append_left _ (List.mem_append_left _ (List.mem_append_left _ (List.mem_append_left _ (List.mem_append_left _ (List.mem_append_left _ (List.mem_append_left _ (List.mem_append_left _ (List.mem_append_right _ (List.mem_append_right _ (List.mem_append_right _ (List.mem_append_right _ (List.mem_append_right _ (List.mem_append_right _ (List.mem_append_right _ (List.mem_append_right _ (List.mem_append_right _ (List.mem_append_right _ (List.mem_append_right _ (List.mem_append_right _ (List.mem_append_right _ (List.mem_append_right _ (List.mem_append_right _ (List.mem_append_right _ (List.mem_append_right _ (List.mem_append_right _ (List.mem_append_right _ (List.mem_append_right _ (List.mem_append_right _ (List.mem_append_right _ (List.mem_append_right _ (List.mem_append_right _ (List.mem_append_right _ (List.mem_append_right _ (List.mem_append_left _ h))))))))))))))))))))))))))))))))))))))
theorem mR28 : ∀ w ∈ wsL_law_r28, w ∈ wsL_law := fun _ h => List.mem_append_left _ (List.mem_append_left _ (List.mem_append_left _ (List.mem_append_left _ (List.mem_append_left _ (List.mem_append_left _ (List.mem_append_left _ (List.mem_append_left _ (List.mem_append_left _ (List.mem_append_left _ (List.mem_append_left _ (List.mem_append_left _ (List.mem_append_right _ (List.mem_append_right _ (List.mem_append_right _ (List.mem_append_right _ (List.mem_append_right _ (List.mem_append_right _ (List.mem_append_right _ (List.mem_append_right _ (List.mem_append_right _ (List.mem_append_right _ (List.mem_append_right _ (List.mem_append_right _ (List.mem_append_right _ (List.mem_append_right _ (List.mem_append_right _ (List.mem_append_right _ (List.mem_append_right _ (List.mem_append_right _ (List.mem_append_right _ (List.mem_append_right _ (List.mem_append_right _ (List.mem_append_right _ (List.mem_append_right _ (List.mem_append_right _ (List.mem_append_right _ (List.mem_append_right _ (List.mem_append_right _ (List.mem_append_left _ h)))))))))))))))))))))))))))))))))))))))
theorem mR29 : ∀ w ∈ wsL_law_r29, w ∈ wsL_law := fun _ h => List.mem_append_left _ (List.mem_append_left _ (List.mem_append_left _ (List.mem_append_left _ (List.mem_append_left _ (List.mem_append_left _ (List.mem_append_left _ (List.mem_append_left _ (List.mem_append_left _ (List.mem_append_left _ (List.mem_append_left _ (List.mem_append_left _ (List.mem_append_right _ (List.mem_append_right _ (List.mem_append_right _ (List.mem_append_right _ (List.mem_append_right _ (List.mem_append_right _ (List.mem_append_right _ (List.mem_append_right _ (List.mem_append_right _ (List.mem_append_right _ (List.mem_append_right _ (List.mem_append_right _ (List.mem_append_right _ (List.mem_append_right _ (List.mem_append_right _ (List.mem_append_right _ (List.mem_append_right _ (List.mem_append_right _ (List.mem_append_right _ (List.mem_append_right _ (List.mem_append_right _ (List.mem_append_right _ (List.mem_append_right _ (List.mem_append_right _ (List.mem_append_right _ (List.mem_append_right _ (List.mem_append_right _ (List.mem_append_right _ (List.mem_append_left _ h))))))))))))))))))))))))))))))))))))))))
theorem mR30 : ∀ w ∈ wsL_law_r30, w ∈ wsL_law := fun _ h => List.mem_append_left _ (List.mem_append_left _ (List.mem_append_left _ (List.mem_append_left _ (List.mem_append_left _ (List.mem_append_left _ (List.mem_append_left _ (List.mem_append_left _ (List.mem_append_left _ (List.mem_append_left _ (List.mem_append_left _ (List.mem_append_left _ (List.mem_append_right _ (List.mem_append_right _ (List.mem_append_right _ (List.mem_append_right _ (List.mem_append_right _ (List.mem_append_right _ (List.mem_append_right _ (List.mem_append_right _ (List.mem_append_right _ (List.mem_append_right _ (List.mem_append_right _ (List.mem_append_right _ (List.mem_append_right _ (List.mem_append_right _ (List.mem_append_right _ (List.mem_append_right _ (List.mem_append_right _ (List.mem_append_right _ (List.mem_append_right _ (List.mem_append_right _ (List.mem_append_right _ (List.mem_append_right _ (List.mem_append_right _ (List.mem_append_right _ (List.mem_append_right _ (List.mem_append_right _ (List.mem_append_right _ (List.mem_append_right _ (List.mem_append_right _ (List.mem_append_left _ h)))))))))))))))))))))))))))))))))))))))))
theorem mR31 : ∀ w ∈ wsL_law_r31, w ∈ wsL_law := fun _ h => List.mem_append_left _ (List.mem_append_left _ (List.mem_append_left _ (List.mem_append_left _ (List.mem_append_left _ (List.mem_append_left _ (List.mem_append_left _ (List.mem_append_left _ (List.mem_append_left _ (List.mem_append_left _ (List.mem_append_left _ (List.mem_append_left _ (List.mem_append_right _ (List.mem_append_right _ (List.mem_append_right _ (List.mem_append_right _ (List.mem_append_right _ (List.mem_append_right _ (List.mem_append_right _ (List.mem_append_right _ (List.mem_append_right _ (List.mem_append_right _ (List.mem_append_right _ (List.mem_append_right _ (List.mem_append_right _ (List.mem_append_right _ (List.mem_append_right _ (List.mem_append_right _ (List.mem_append_right _ (List.mem_append_right _ (List.mem_append_right _ (List.mem_append_right _ (List.mem_append_right _ (List.mem_append_right _ (List.mem_append_right _ (List.mem_append_right _ (List.mem_append_right _ (List.mem_append_right _ (List.mem_append_right _ (List.mem_append_right _ (List.mem_append_right _ (List.mem_append_right _ (List.mem_append_left _ h))))))))))))))))))))))))))))))))))))))))))
theorem mR32 : ∀ w ∈ wsL_law_r32, w ∈ wsL_law := fun _ h => List.mem_append_left _ (List.mem_append_left _ (List.mem_append_left _ (List.mem_append_left _ (List.mem_append_left _ (List.mem_append_left _ (List.mem_append_left _ (List.mem_append_left _ (List.mem_append_left _ (List.mem_append_left _ (List.mem_append_left _ (List.mem_append_left _ (List.mem_append_right _ (List.mem_append_right _ (List.mem_append_right _ (List.mem_append_right _ (List.mem_append_right _ (List.mem_append_right _ (List.mem_append_right _ (List.mem_append_right _ (List.mem_append_right _ (List.mem_append_right _ (List.mem_append_right _ (List.mem_append_right _ (List.mem_append_right _ (List.mem_append_right _ (List.mem_append_right _ (List.mem_append_right _ (List.mem_append_right _ (List.mem_append_right _ (List.mem_append_right _ (List.mem_append_right _ (List.mem_append_right _ (List.mem_append_right _ (List.mem_append_right _ (List.mem_append_right _ (List.mem_append_right _ (List.mem_append_right _ (List.mem_append_right _ (List.mem_append_right _ (List.mem_append_right _ (List.mem_append_right _ (List.mem_append_right _ (List.mem_append_left _ h)))))))))))))))))))))))))))))))))))))))))))
theorem mR33 : ∀ w ∈ wsL_law_r33, w ∈ wsL_law := fun _ h => List.mem_append_left _ (List.mem_append_left _ (List.mem_append_left _ (List.mem_append_left _ (List.mem_append_left _ (List.mem_append_left _ (List.mem_append_left _ (List.mem_append_left _ (List.mem_append_left _ (List.mem_append_left _ (List.mem_append_left _ (List.mem_append_left _ (List.mem_append_right _ (List.mem_append_right _ (List.mem_append_right _ (List.mem_append_right _ (List.mem_append_right _ (List.mem_append_right _ (List.mem_append_right _ (List.mem_append_right _ (List.mem_append_right _ (List.mem_append_right _ (List.mem_append_right _ (List.mem_append_right _ (List.mem_append_right _ (List.mem_append_right _ (List.mem_append_right _ (List.mem_append_right _ (List.mem_append_right _ (List.mem_append_right _ (List.mem_append_right _ (List.mem_append_right _ (List.mem_append_right _ (List.mem_append_right _ (List.mem_append_right _ (List.mem_append_right _ (List.mem_append_right _ (List.mem_append_right _ (List.mem_append_right _ (List.mem_append_right _ (List.mem_append_right _ (List.mem_append_right _ (List.mem_append_right _ (List.mem_append_right _ (List.mem_append_left _ h))))))))))))))))))))))))))))))))))))))))))))
theorem mR34 : ∀ w ∈ wsL_law_r34, w ∈ wsL_law := fun _ h => List.mem_append_left _ (List.mem_append_left _ (List.mem_append_left _ (List.mem_append_left _ (List.mem_append_left _ (List.mem_append_left _ (List.mem_append_left _ (List.mem_append_left _ (List.mem_append_left _ (List.mem_append_left _ (List.mem_append_left _ (List.mem_append_left _ (List.mem_append_right _ (List.mem_append_right _ (List.mem_append_right _ (List.mem_append_right _ (List.mem_append_right _ (List.mem_append_right _ (List.mem_append_right _ (List.mem_append_right _ (List.mem_append_right _ (List.mem_append_right _ (List.mem_append_right _ (List.mem_append_right _ (List.mem_append_right _ (List.mem_append_right _ (List.mem_append_right _ (List.mem_append_right _ (List.mem_append_right _ (List.mem_append_right _ (List.mem_append_right _ (List.mem_append_right _ (List.mem_append_right _ (List.mem_append_right _ (List.mem_append_right _ (List.mem_append_right _ (List.mem_append_right _ (List.mem_append_right _ (List.mem_append_right _ (List.mem_append_right _ (List.mem_append_right _ (List.mem_append_right _ (List.mem_append_right _ (List.mem_append_right _ (List.mem_append_right _ (List.mem_append_left _ h)))))))))))))))))))))))))))))))))))))))))))))
theorem mR35 : ∀ w ∈ wsL_law_r35, w ∈ wsL_law := fun _ h => List.mem_append_left _ (List.mem_append_left _ (List.mem_append_left _ (List.mem_append_left _ (List.mem_append_left _ (List.mem_append_left _ (List.mem_append_left _ (List.mem_append_left _ (List.mem_append_left _ (List.mem_append_left _ (List.mem_append_left _ (List.mem_append_left _ (List.mem_append_right _ (List.mem_append_right _ (List.mem_append_right _ (List.mem_append_right _ (List.mem_append_right _ (List.mem_append_right _ (List.mem_append_right _ (List.mem_append_right _ (List.mem_append_right _ (List.mem_append_right _ (List.mem_append_right _ (List.mem_append_right _ (List.mem_append_right _ (List.mem_append_right _ (List.mem_append_right _ (List.mem_append_right _ (List.mem_append_right _ (List.mem_append_right _ (List.mem_append_right _ (List.mem_append_right _ (List.mem_append_right _ (List.mem_append_right _ (List.mem_append_right _ (List.mem_append_right _ (List.mem_append_right _ (List.mem_append_right _ (List.mem_append_right _ (List.mem_append_right _ (List.mem_append_right _ (List.mem_append_right _ (List.mem_append_right _ (List.mem_append_right _ (List.mem_append_right _ (List.mem_append_right _ (List.mem_append_left _ h))))))))))))))))))))))))))))))))))))))))))))))
theorem mR36 : ∀ w ∈ wsL_law_r36, w ∈ wsL_law := fun _ h => List.mem_append_left _ (List.mem_append_left _ (List.mem_append_left _ (List.mem_append_left _ (List.mem_append_left _ (List.mem_append_left _ (List.mem_append_left _ (List.mem_append_left _ (List.mem_append_left _ (List.mem_append_left _ (List.mem_append_left _ (List.mem_append_left _ (List.mem_append_right _ (List.mem_append_right _ (List.mem_append_right _ (List.mem_append_right _ (List.mem_append_right _ (List.mem_append_right _ (List.mem_append_right _ (List.mem_append_right _ (List.mem_append_right _ (List.mem_append_right _ (List.mem_append_right _ (List.mem_append_right _ (List.mem_append_right _ (List.mem_append_right _ (List.mem_append_right _ (List.mem_append_right _ (List.mem_append_right _ (List.mem_append_right _ (List.mem_append_right _ (List.mem_append_right _ (List.mem_append_right _ (List.mem_append_right _ (List.mem_append_right _ (List.mem_append_right _ (List.mem_append_right _ (List.mem_append_right _ (List.mem_append_right _ (List.mem_append_right _ (List.mem_append_right _ (List.mem_append_right _ (List.mem_append_right _ (List.mem_append_right _ (List.mem_append_right _ (List.mem_append_right _ (List.mem_append_right _ (List.mem_append_left _ h)))))))))))))))))))))))))))))))))))))))))))))))
theorem mR37 : ∀ w ∈ wsL_law_r37, w ∈ wsL_law := fun _ h => List.mem_append_left _ (List.mem_append_left _ (List.mem_append_left _ (List.mem_append_left _ (List.mem_append_left _ (List.mem_append_left _ (List.mem_append_left _ (List.mem_append_left _ (List.mem_append_left _ (List.mem_append_left _ (List.mem_append_left _ (List.mem_append_left _ (List.mem_append_right _ (List.mem_append_right _ (List.mem_append_right _ (List.mem_append_right _ (List.mem_append_right _ (List.mem_append_right _ (List.mem_append_right _ (List.mem_append_right _ (List.mem_append_right _ (List.mem_append_right _ (List.mem_append_right _ (List.mem_append_right _ (List.mem_append_right _ (List.mem_append_right _ (List.mem_append_right _ (List.mem_append_right _ (List.mem_append_right _ (List.mem_append_right _ (List.mem_append_right _ (List.mem_append_right _ (List.mem_append_right _ (List.mem_append_right _ (List.mem_append_right _ (List.mem_append_right _ (List.mem_append_right _ (List.mem_append_right _ (List.mem_append_right _ (List.mem_append_right _ (List.mem_append_right _ (List.mem_append_right _ (List.mem_append_right _ (List.mem_append_right _ (List.mem_append_right _ (List.mem_append_right _ (List.mem_append_right _ (List.mem_append_right _ (List.mem_append_left _ h))))))))))))))))))))))))))))))))))))))))))))))))
theorem mR38 : ∀ w ∈ wsL_law_r38, w ∈ wsL_law := fun _ h => List.mem_append_left _ (List.mem_append_left _ (List.mem_append_left _ (List.mem_append_left _ (List.mem_append_left _ (List.mem_append_left _ (List.mem_append_left _ (List.mem_append_left _ (List.mem_append_left _ (List.mem_append_left _ (List.mem_append_left _ (List.mem_append_left _ (List.mem_append_right _ (List.mem_append_right _ (List.mem_append_right _ (List.mem_append_right _ (List.mem_append_right _ (List.mem_append_right _ (List.mem_append_right _ (List.mem_append_right _ (List.mem_append_right _ (List.mem_append_right _ (List.mem_append_right _ (List.mem_append_right _ (List.mem_append_right _ (List.mem_append_right _ (List.mem_append_right _ (List.mem_append_right _ (List.mem_append_right _ (List.mem_append_right _ (List.mem_append_right _ (List.mem_append_right _ (List.mem_append_right _ (List.mem_append_right _ (List.mem_append_right _ (List.mem_append_right _ (List.mem_append_right _ (List.mem_append_right _ (List.mem_append_right _ (List.mem_append_right _ (List.mem_append_right _ (List.mem_append_right _ (List.mem_append_right _ (List.mem_append_right _ (List.mem_append_right _ (List.mem_append_right _ (List.mem_append_right _ (List.mem_append_right _ (List.mem_append_right _ (List.mem_append_left _ h)))))))))))))))))))))))))))))))))))))))))))))))))
theorem mR39 : ∀ w ∈ wsL_law_r39, w ∈ wsL_law := fun _ h => List.mem_append_left _ (List.mem_append_left _ (List.mem_append_left _ (List.mem_append_left _ (List.mem_append_left _ (List.mem_append_left _ (List.mem_append_left _ (List.mem_append_left _ (List.mem_append_left _ (List.mem_append_left _ (List.mem_append_left _ (List.mem_append_left _ (List.mem_append_right _ (List.mem_append_right _ (List.mem_append_right _ (List.mem_append_right _ (List.mem_append_right _ (List.mem_append_right _ (List.mem_append_right _ (List.mem_append_right _ (List.mem_append_right _ (List.mem_append_right _ (List.mem_append_right _ (List.mem_append_right _ (List.mem_append_right _ (List.mem_append_right _ (List.mem_append_right _ (List.mem_append_right _ (List.mem_append_right _ (List.mem_append_right _ (List.mem_append_right _ (List.mem_append_right _ (List.mem_append_right _ (List.mem_append_right _ (List.mem_append_right _ (List.mem_append_right _ (List.mem_append_right _ (List.mem_append_right _ (List.mem_append_right _ (List.mem_append_right _ (List.mem_append_right _ (List.mem_append_right _ (List.mem_append_right _ (List.mem_append_right _ (List.mem_append_right _ (List.mem_append_right _ (List.mem_append_right _ (List.mem_append_right _ (List.mem_append_right _ (List.mem_append_right _ (List.mem_append_left _ h))))))))))))))))))))))))))))))))))))))))))))))))))
theorem mR40 : ∀ w ∈ wsL_law_r40, w ∈ wsL_law := fun _ h => List.mem_append_left _ (List.mem_append_left _ (List.mem_append_left _ (List.mem_append_left _ (List.mem_append_left _ (List.mem_append_left _ (List.mem_append_left _ (List.mem_append_left _ (List.mem_append_left _ (List.mem_append_left _ (List.mem_append_left _ (List.mem_append_left _ (List.mem_append_right _ (List.mem_append_right _ (List.mem_append_right _ (List.mem_append_right _ (List.mem_append_right _ (List.mem_append_right _ (List.mem_append_right _ (List.mem_append_right _ (List.mem_append_right _ (List.mem_append_right _ (List.mem_append_right _ (List.mem_append_right _ (List.mem_append_right _ (List.mem_append_right _ (List.mem_append_right _ (List.mem_append_right _ (List.mem_append_right _ (List.mem_append_right _ (List.mem_append_right _ (List.mem_append_right _ (List.mem_append_right _ (List.mem_append_right _ (List.mem_append_right _ (List.mem_append_right _ (List.mem_append_right _ (List.mem_append_right _ (List.mem_append_right _ (List.mem_append_right _ (List.mem_append_right _ (List.mem_append_right _ (List.mem_append_right _ (List.mem_append_right _ (List.mem_append_right _ (List.mem_append_right _ (List.mem_append_right _ (List.mem_append_right _ (List.mem_append_right _ (List.mem_append_right _ (List.mem_append_right _ (List.mem_append_left _ h)))))))))))))))))))))))))))))))))))))))))))))))))))
theorem mR41 : ∀ w ∈ wsL_law_r41, w ∈ wsL_law := fun _ h => List.mem_append_left _ (List.mem_append_left _ (List.mem_append_left _ (List.mem_append_left _ (List.mem_append_left _ (List.mem_append_left _ (List.mem_append_left _ (List.mem_append_left _ (List.mem_append_left _ (List.mem_append_left _ (List.mem_append_left _ (List.mem_append_left _ (List.mem_append_right _ (List.mem_append_right _ (List.mem_append_right _ (List.mem_append_right _ (List.mem_append_right _ (List.mem_append_right _ (List.mem_append_right _ (List.mem_append_right _ (List.mem_append_right _ (List.mem_append_right _ (List.mem_append_right _ (List.mem_append_right _ (List.mem_append_right _ (List.mem_append_right _ (List.mem_append_right _ (List.mem_append_right _ (List.mem_append_right _ (List.mem_append_right _ (List.mem_append_right _ (List.mem_append_right _ (List.mem_append_right _ (List.mem_append_right _ (List.mem_append_right _ (List.mem_append_right _ (List.mem_append_right _ (List.mem_append_right _ (List.mem_append_right _ (List.mem_append_right _ (List.mem_append_right _ (List.mem_append_right _ (List.mem_append_right _ (List.mem_append_right _ (List.mem_append_right _ (List.mem_append_right _ (List.mem_append_right _ (List.mem_append_right _ (List.mem_append_right _ (List.mem_append_right _ (List.mem_append_right _ (List.mem_append_right _ (List.mem_append_left _ h))))))))))))))))))))))))))))))))))))))))))))))))))))
theorem mR42 : ∀ w ∈ wsL_law_r42, w ∈ wsL_law := fun _ h => List.mem_append_left _ (List.mem_append_left _ (List.mem_append_left _ (List.mem_append_left _ (List.mem_append_left _ (List.mem_append_left _ (List.mem_append_left _ (List.mem_append_left _ (List.mem_append_left _ (List.mem_append_left _ (List.mem_append_left _ (List.mem_append_left _ (List.mem_append_right _ (List.mem_append_right _ (List.mem_append_right _ (List.mem_append_right _ (List.mem_append_right _ (List.mem_append_right _ (List.mem_append_right _ (List.mem_append_right _ (List.mem_append_right _ (List.mem_append_right _ (List.mem_append_right _ (List.mem_append_right _ (List.mem_append_right _ (List.mem_append_right _ (List.mem_append_right _ (List.mem_append_right _ (List.mem_append_right _ (List.mem_append_right _ (List.mem_append_right _ (List.mem_append_right _ (List.mem_append_right _ (List.mem_append_right _ (List.mem_append_right _ (List.mem_append_right _ (List.mem_append_right _ (List.mem_append_right _ (List.mem_append_right _ (List.mem_append_right _ (List.mem_append_right _ (List.mem_append_right _ (List.mem_append_right _ (List.mem_append_right _ (List.mem_append_right _ (List.mem_append_right _ (List.mem_append_right _ (List.mem_append_right _ (List.mem_append_right _ (List.mem_append_right _ (List.mem_append_right _ (List.mem_append_right _ (List.mem_append_right _ (h)))))))))))))))))))))))))))))))))))))))))))))))))))))
theorem wd0 : Cond.classLink RL 7 RX9 ∈ wsL_law := mR1 _ (List.mem_of_getElem? (i := 0) rfl)
theorem wd1 : Cond.instantiable RX9 3 ∈ wsL_law := mR1 _ (List.mem_of_getElem? (i := 1) rfl)
theorem wd2 : Cond.initialized RX9 ∈ wsL_law := mR1 _ (List.mem_of_getElem? (i := 2) rfl)
theorem wd3 : Cond.classLink RL 10 RX10 ∈ wsL_law := mR1 _ (List.mem_of_getElem? (i := 3) rfl)
theorem wd4 : Cond.instantiable RX10 55 ∈ wsL_law := mR1 _ (List.mem_of_getElem? (i := 4) rfl)
theorem wd5 : Cond.initialized RX10 ∈ wsL_law := mR1 _ (List.mem_of_getElem? (i := 5) rfl)
theorem wd6 : Cond.constantLong RL 93 (4294967295) ∈ wsL_law := mR1 _ (List.mem_of_getElem? (i := 6) rfl)
theorem wd7 : Cond.methodLink RL 9 yX9_init ∈ wsL_law := mR1 _ (List.mem_of_getElem? (i := 7) rfl)
theorem wd8 : Cond.instanceMethod yX9_init ∈ wsL_law := mR1 _ (List.mem_of_getElem? (i := 8) rfl)
theorem wd9 : Cond.code yX9_init cX9_init 1 none ∈ wsL_law := mR1 _ (List.mem_of_getElem? (i := 9) rfl)
theorem wd10 : Cond.methodLink RX9 1 objectInit ∈ wsL_law := mR1 _ (List.mem_of_getElem? (i := 10) rfl)
theorem wd11 : Cond.instanceMethod objectInit ∈ wsL_law := mR1 _ (List.mem_of_getElem? (i := 11) rfl)
theorem wd12 : Cond.code objectInit ⟨#[0xb1]⟩ 1 none ∈ wsL_law := mR1 _ (List.mem_of_getElem? (i := 12) rfl)
theorem wd13 : Cond.classLink RX9 7 RX1 ∈ wsL_law := mR1 _ (List.mem_of_getElem? (i := 13) rfl)
theorem wd14 : Cond.instantiable RX1 6 ∈ wsL_law := mR1 _ (List.mem_of_getElem? (i := 14) rfl)
theorem wd15 : Cond.initialized RX1 ∈ wsL_law := mR1 _ (List.mem_of_getElem? (i := 15) rfl)
theorem wd16 : Cond.fieldLink RX9 10 "PuppetCast" "company" "LPuppetCast$Company;" ∈ wsL_law := mR1 _ (List.mem_of_getElem? (i := 16) rfl)
theorem wd17 : Cond.classLink RX9 16 RX6 ∈ wsL_law := mR1 _ (List.mem_of_getElem? (i := 17) rfl)
theorem wd18 : Cond.instantiable RX6 7 ∈ wsL_law := mR1 _ (List.mem_of_getElem? (i := 18) rfl)
theorem wd19 : Cond.initialized RX6 ∈ wsL_law := mR1 _ (List.mem_of_getElem? (i := 19) rfl)
theorem wd20 : Cond.fieldLink RX9 21 "PuppetCast" "stage" "LPuppetCast$Stage;" ∈ wsL_law := mR1 _ (List.mem_of_getElem? (i := 20) rfl)
theorem wd21 : Cond.fieldLink RX9 25 "PuppetCast" "latest" "LPuppetCast$Part;" ∈ wsL_law := mR1 _ (List.mem_of_getElem? (i := 21) rfl)
theorem wd22 : Cond.instanceMethod yX1_init ∈ wsL_law := mR1 _ (List.mem_of_getElem? (i := 22) rfl)
theorem wd23 : Cond.code yX1_init cX1_init 1 none ∈ wsL_law := mR1 _ (List.mem_of_getElem? (i := 23) rfl)
theorem wd24 : Cond.methodLink RX1 3 objectInit ∈ wsL_law := mR2 _ (List.mem_of_getElem? (i := 0) rfl)
theorem wd25 : Cond.classLink RX1 9 RX8 ∈ wsL_law := mR2 _ (List.mem_of_getElem? (i := 1) rfl)
theorem wd26 : Cond.fieldLink RX1 11 "PuppetCast$Company" "traits" "[LPuppetCast$Trait;" ∈ wsL_law := mR2 _ (List.mem_of_getElem? (i := 2) rfl)
theorem wd27 : Cond.classLink RX1 17 RX2 ∈ wsL_law := mR2 _ (List.mem_of_getElem? (i := 3) rfl)
theorem wd28 : Cond.fieldLink RX1 19 "PuppetCast$Company" "figures" "[LPuppetCast$Figure;" ∈ wsL_law := mR2 _ (List.mem_of_getElem? (i := 4) rfl)
theorem wd29 : Cond.classLink RX1 23 RX4 ∈ wsL_law := mR2 _ (List.mem_of_getElem? (i := 5) rfl)
theorem wd30 : Cond.instantiable RX4 5 ∈ wsL_law := mR2 _ (List.mem_of_getElem? (i := 6) rfl)
theorem wd31 : Cond.initialized RX4 ∈ wsL_law := mR2 _ (List.mem_of_getElem? (i := 7) rfl)
theorem wd32 : Cond.fieldLink RX1 26 "PuppetCast$Company" "merger" "LPuppetCast$Merger;" ∈ wsL_law := mR2 _ (List.mem_of_getElem? (i := 8) rfl)
theorem wd33 : Cond.classLink RX1 30 RX0 ∈ wsL_law := mR2 _ (List.mem_of_getElem? (i := 9) rfl)
theorem wd34 : Cond.instantiable RX0 10 ∈ wsL_law := mR2 _ (List.mem_of_getElem? (i := 10) rfl)
theorem wd35 : Cond.initialized RX0 ∈ wsL_law := mR2 _ (List.mem_of_getElem? (i := 11) rfl)
theorem wd36 : Cond.fieldLink RX1 33 "PuppetCast$Company" "choice" "LPuppetCast$Choice;" ∈ wsL_law := mR2 _ (List.mem_of_getElem? (i := 12) rfl)
theorem wd37 : Cond.instanceMethod yX4_init ∈ wsL_law := mR2 _ (List.mem_of_getElem? (i := 13) rfl)
theorem wd38 : Cond.code yX4_init cX4_init 1 none ∈ wsL_law := mR2 _ (List.mem_of_getElem? (i := 14) rfl)
theorem wd39 : Cond.methodLink RX4 3 objectInit ∈ wsL_law := mR2 _ (List.mem_of_getElem? (i := 15) rfl)
theorem wd40 : Cond.classLink RX4 11 RX3 ∈ wsL_law := mR2 _ (List.mem_of_getElem? (i := 16) rfl)
theorem wd41 : Cond.fieldLink RX4 13 "PuppetCast$Merger" "rows" "[LPuppetCast$Line;" ∈ wsL_law := mR2 _ (List.mem_of_getElem? (i := 17) rfl)
theorem wd42 : Cond.arrayClass .int ∈ wsL_law := mR2 _ (List.mem_of_getElem? (i := 18) rfl)
theorem wd43 : Cond.fieldLink RX4 17 "PuppetCast$Merger" "firsts" "[I" ∈ wsL_law := mR2 _ (List.mem_of_getElem? (i := 19) rfl)
theorem wd44 : Cond.instantiable RX3 3 ∈ wsL_law := mR2 _ (List.mem_of_getElem? (i := 20) rfl)
theorem wd45 : Cond.initialized RX3 ∈ wsL_law := mR2 _ (List.mem_of_getElem? (i := 21) rfl)
theorem wd46 : Cond.fieldLink RX4 22 "PuppetCast$Merger" "givers" "LPuppetCast$Line;" ∈ wsL_law := mR2 _ (List.mem_of_getElem? (i := 22) rfl)
theorem wd47 : Cond.fieldLink RX4 26 "PuppetCast$Merger" "merged" "LPuppetCast$Line;" ∈ wsL_law := mR2 _ (List.mem_of_getElem? (i := 23) rfl)
theorem wd48 : Cond.methodLink RX4 21 yX3_init ∈ wsL_law := mR3 _ (List.mem_of_getElem? (i := 0) rfl)
theorem wd49 : Cond.instanceMethod yX3_init ∈ wsL_law := mR3 _ (List.mem_of_getElem? (i := 1) rfl)
theorem wd50 : Cond.code yX3_init cX3_init 1 none ∈ wsL_law := mR3 _ (List.mem_of_getElem? (i := 2) rfl)
theorem wd51 : Cond.methodLink RX3 3 objectInit ∈ wsL_law := mR3 _ (List.mem_of_getElem? (i := 3) rfl)
theorem wd52 : Cond.fieldLink RX3 9 "PuppetCast$Line" "row" "[I" ∈ wsL_law := mR3 _ (List.mem_of_getElem? (i := 4) rfl)
theorem wd53 : Cond.fieldLink RX3 15 "PuppetCast$Line" "places" "[I" ∈ wsL_law := mR3 _ (List.mem_of_getElem? (i := 5) rfl)
theorem wd54 : Cond.methodLink RX3 18 yJ7_fill_53178 ∈ wsL_law := mR3 _ (List.mem_of_getElem? (i := 6) rfl)
theorem wd55 : Cond.static yJ7_fill_53178 ∈ wsL_law := mR3 _ (List.mem_of_getElem? (i := 7) rfl)
theorem wd56 : Cond.initialized RJ7 ∈ wsL_law := mR3 _ (List.mem_of_getElem? (i := 8) rfl)
theorem wd57 : Cond.code yJ7_fill_53178 cJ7_fill_53178 4 none ∈ wsL_law := mR3 _ (List.mem_of_getElem? (i := 9) rfl)
theorem wd58 : Cond.instanceMethod yX0_init ∈ wsL_law := mR3 _ (List.mem_of_getElem? (i := 10) rfl)
theorem wd59 : Cond.code yX0_init cX0_init 1 none ∈ wsL_law := mR3 _ (List.mem_of_getElem? (i := 11) rfl)
theorem wd60 : Cond.methodLink RX0 3 objectInit ∈ wsL_law := mR3 _ (List.mem_of_getElem? (i := 12) rfl)
theorem wd61 : Cond.methodLink RX9 18 yX6_init ∈ wsL_law := mR3 _ (List.mem_of_getElem? (i := 13) rfl)
theorem wd62 : Cond.instanceMethod yX6_init ∈ wsL_law := mR3 _ (List.mem_of_getElem? (i := 14) rfl)
theorem wd63 : Cond.code yX6_init cX6_init 2 none ∈ wsL_law := mR3 _ (List.mem_of_getElem? (i := 15) rfl)
theorem wd64 : Cond.methodLink RX6 3 objectInit ∈ wsL_law := mR3 _ (List.mem_of_getElem? (i := 16) rfl)
theorem wd65 : Cond.classLink RX6 9 RX7 ∈ wsL_law := mR3 _ (List.mem_of_getElem? (i := 17) rfl)
theorem wd66 : Cond.instantiable RX7 2 ∈ wsL_law := mR3 _ (List.mem_of_getElem? (i := 18) rfl)
theorem wd67 : Cond.initialized RX7 ∈ wsL_law := mR3 _ (List.mem_of_getElem? (i := 19) rfl)
theorem wd68 : Cond.fieldLink RX6 12 "PuppetCast$Stage" "tape" "LPuppetCast$Tape;" ∈ wsL_law := mR3 _ (List.mem_of_getElem? (i := 20) rfl)
theorem wd69 : Cond.fieldLink RX6 18 "PuppetCast$Stage" "company" "LPuppetCast$Company;" ∈ wsL_law := mR3 _ (List.mem_of_getElem? (i := 21) rfl)
theorem wd70 : Cond.instanceMethod yX7_init ∈ wsL_law := mR3 _ (List.mem_of_getElem? (i := 22) rfl)
theorem wd71 : Cond.code yX7_init cX7_init 1 none ∈ wsL_law := mR3 _ (List.mem_of_getElem? (i := 23) rfl)
theorem wd72 : Cond.methodLink RX7 3 objectInit ∈ wsL_law := mR4 _ (List.mem_of_getElem? (i := 0) rfl)
theorem wd73 : Cond.arrayClass .long ∈ wsL_law := mR4 _ (List.mem_of_getElem? (i := 1) rfl)
theorem wd74 : Cond.fieldLink RX7 11 "PuppetCast$Tape" "cells" "[J" ∈ wsL_law := mR4 _ (List.mem_of_getElem? (i := 2) rfl)
theorem wd75 : Cond.methodLink RL 12 yX10_init ∈ wsL_law := mR4 _ (List.mem_of_getElem? (i := 3) rfl)
theorem wd76 : Cond.instanceMethod yX10_init ∈ wsL_law := mR4 _ (List.mem_of_getElem? (i := 4) rfl)
theorem wd77 : Cond.code yX10_init cX10_init 1 none ∈ wsL_law := mR4 _ (List.mem_of_getElem? (i := 5) rfl)
theorem wd78 : Cond.methodLink RX10 1 objectInit ∈ wsL_law := mR4 _ (List.mem_of_getElem? (i := 6) rfl)
theorem wd79 : Cond.fieldLink RX10 7 "PuppetCastModel" "traitLine" "[I" ∈ wsL_law := mR4 _ (List.mem_of_getElem? (i := 7) rfl)
theorem wd80 : Cond.fieldLink RX10 13 "PuppetCastModel" "traitLong" "[I" ∈ wsL_law := mR4 _ (List.mem_of_getElem? (i := 8) rfl)
theorem wd81 : Cond.fieldLink RX10 16 "PuppetCastModel" "troupe" "[I" ∈ wsL_law := mR4 _ (List.mem_of_getElem? (i := 9) rfl)
theorem wd82 : Cond.fieldLink RX10 19 "PuppetCastModel" "taken" "[I" ∈ wsL_law := mR4 _ (List.mem_of_getElem? (i := 10) rfl)
theorem wd83 : Cond.fieldLink RX10 22 "PuppetCastModel" "takenMany" "[I" ∈ wsL_law := mR4 _ (List.mem_of_getElem? (i := 11) rfl)
theorem wd84 : Cond.fieldLink RX10 25 "PuppetCastModel" "charLine" "[I" ∈ wsL_law := mR4 _ (List.mem_of_getElem? (i := 12) rfl)
theorem wd85 : Cond.fieldLink RX10 28 "PuppetCastModel" "charLong" "[I" ∈ wsL_law := mR4 _ (List.mem_of_getElem? (i := 13) rfl)
theorem wd86 : Cond.fieldLink RX10 31 "PuppetCastModel" "moods" "[J" ∈ wsL_law := mR4 _ (List.mem_of_getElem? (i := 14) rfl)
theorem wd87 : Cond.arrayClass .boolean ∈ wsL_law := mR4 _ (List.mem_of_getElem? (i := 15) rfl)
theorem wd88 : Cond.fieldLink RX10 35 "PuppetCastModel" "has" "[Z" ∈ wsL_law := mR4 _ (List.mem_of_getElem? (i := 16) rfl)
theorem wd89 : Cond.fieldLink RX10 39 "PuppetCastModel" "isNeed" "[Z" ∈ wsL_law := mR4 _ (List.mem_of_getElem? (i := 17) rfl)
theorem wd90 : Cond.fieldLink RX10 42 "PuppetCastModel" "reach" "[I" ∈ wsL_law := mR4 _ (List.mem_of_getElem? (i := 18) rfl)
theorem wd91 : Cond.fieldLink RX10 45 "PuppetCastModel" "result" "[I" ∈ wsL_law := mR4 _ (List.mem_of_getElem? (i := 19) rfl)
theorem wd92 : Cond.fieldLink RX10 48 "PuppetCastModel" "sort" "[I" ∈ wsL_law := mR4 _ (List.mem_of_getElem? (i := 20) rfl)
theorem wd93 : Cond.fieldLink RX10 51 "PuppetCastModel" "opMany" "[I" ∈ wsL_law := mR4 _ (List.mem_of_getElem? (i := 21) rfl)
theorem wd94 : Cond.fieldLink RX10 54 "PuppetCastModel" "opKind" "[I" ∈ wsL_law := mR4 _ (List.mem_of_getElem? (i := 22) rfl)
theorem wd95 : Cond.fieldLink RX10 57 "PuppetCastModel" "opA" "[I" ∈ wsL_law := mR4 _ (List.mem_of_getElem? (i := 23) rfl)
theorem wd96 : Cond.fieldLink RX10 60 "PuppetCastModel" "opB" "[I" ∈ wsL_law := mR5 _ (List.mem_of_getElem? (i := 0) rfl)
theorem wd97 : Cond.fieldLink RX10 63 "PuppetCastModel" "latest" "I" ∈ wsL_law := mR5 _ (List.mem_of_getElem? (i := 1) rfl)
theorem wd98 : Cond.fieldLink RX10 67 "PuppetCastModel" "leftMany" "[I" ∈ wsL_law := mR5 _ (List.mem_of_getElem? (i := 2) rfl)
theorem wd99 : Cond.fieldLink RX10 70 "PuppetCastModel" "leftTrait" "[I" ∈ wsL_law := mR5 _ (List.mem_of_getElem? (i := 3) rfl)
theorem wd100 : Cond.fieldLink RX10 73 "PuppetCastModel" "leftAct" "[I" ∈ wsL_law := mR5 _ (List.mem_of_getElem? (i := 4) rfl)
theorem wd101 : Cond.fieldLink RX10 76 "PuppetCastModel" "namedMany" "[I" ∈ wsL_law := mR5 _ (List.mem_of_getElem? (i := 5) rfl)
theorem wd102 : Cond.fieldLink RX10 79 "PuppetCastModel" "namedTrait" "[I" ∈ wsL_law := mR5 _ (List.mem_of_getElem? (i := 6) rfl)
theorem wd103 : Cond.fieldLink RX10 82 "PuppetCastModel" "namedAct" "[I" ∈ wsL_law := mR5 _ (List.mem_of_getElem? (i := 7) rfl)
theorem wd104 : Cond.fieldLink RX10 85 "PuppetCastModel" "namedName" "[I" ∈ wsL_law := mR5 _ (List.mem_of_getElem? (i := 8) rfl)
theorem wd105 : Cond.fieldLink RX10 88 "PuppetCastModel" "preferred" "[I" ∈ wsL_law := mR5 _ (List.mem_of_getElem? (i := 9) rfl)
theorem wd106 : Cond.fieldLink RX10 91 "PuppetCastModel" "parts" "[I" ∈ wsL_law := mR5 _ (List.mem_of_getElem? (i := 10) rfl)
theorem wd107 : Cond.fieldLink RX10 94 "PuppetCastModel" "from" "[I" ∈ wsL_law := mR5 _ (List.mem_of_getElem? (i := 11) rfl)
theorem wd108 : Cond.fieldLink RX10 97 "PuppetCastModel" "merged" "[I" ∈ wsL_law := mR5 _ (List.mem_of_getElem? (i := 12) rfl)
theorem wd109 : Cond.fieldLink RX10 100 "PuppetCastModel" "isOps" "[Z" ∈ wsL_law := mR5 _ (List.mem_of_getElem? (i := 13) rfl)
theorem wd110 : Cond.fieldLink RX10 103 "PuppetCastModel" "who" "[I" ∈ wsL_law := mR5 _ (List.mem_of_getElem? (i := 14) rfl)
theorem wd111 : Cond.fieldLink RX10 106 "PuppetCastModel" "called" "[I" ∈ wsL_law := mR5 _ (List.mem_of_getElem? (i := 15) rfl)
theorem wd112 : Cond.fieldLink RX10 109 "PuppetCastModel" "code" "[I" ∈ wsL_law := mR5 _ (List.mem_of_getElem? (i := 16) rfl)
theorem wd113 : Cond.fieldLink RX10 112 "PuppetCastModel" "place" "[I" ∈ wsL_law := mR5 _ (List.mem_of_getElem? (i := 17) rfl)
theorem wd114 : Cond.fieldLink RX10 115 "PuppetCastModel" "next" "[I" ∈ wsL_law := mR5 _ (List.mem_of_getElem? (i := 18) rfl)
theorem wd115 : Cond.fieldLink RX10 118 "PuppetCastModel" "layer" "[I" ∈ wsL_law := mR5 _ (List.mem_of_getElem? (i := 19) rfl)
theorem wd116 : Cond.fieldLink RX10 121 "PuppetCastModel" "state" "[I" ∈ wsL_law := mR5 _ (List.mem_of_getElem? (i := 20) rfl)
theorem wd117 : Cond.fieldLink RX10 124 "PuppetCastModel" "opened" "[Z" ∈ wsL_law := mR5 _ (List.mem_of_getElem? (i := 21) rfl)
theorem wd118 : Cond.fieldLink RX10 127 "PuppetCastModel" "tries" "[Z" ∈ wsL_law := mR5 _ (List.mem_of_getElem? (i := 22) rfl)
theorem wd119 : Cond.fieldLink RX10 130 "PuppetCastModel" "markWho" "[I" ∈ wsL_law := mR5 _ (List.mem_of_getElem? (i := 23) rfl)
theorem wd120 : Cond.fieldLink RX10 133 "PuppetCastModel" "markGiver" "[I" ∈ wsL_law := mR6 _ (List.mem_of_getElem? (i := 0) rfl)
theorem wd121 : Cond.fieldLink RX10 136 "PuppetCastModel" "markAct" "[I" ∈ wsL_law := mR6 _ (List.mem_of_getElem? (i := 1) rfl)
theorem wd122 : Cond.fieldLink RX10 139 "PuppetCastModel" "markA" "[I" ∈ wsL_law := mR6 _ (List.mem_of_getElem? (i := 2) rfl)
theorem wd123 : Cond.fieldLink RX10 142 "PuppetCastModel" "markValue" "[J" ∈ wsL_law := mR6 _ (List.mem_of_getElem? (i := 3) rfl)
theorem wd124 : Cond.methodLink RL 13 yX9_trait ∈ wsL_law := mR6 _ (List.mem_of_getElem? (i := 4) rfl)
theorem wd125 : Cond.instanceMethod yX9_trait ∈ wsL_law := mR6 _ (List.mem_of_getElem? (i := 5) rfl)
theorem wd126 : Cond.selects RX9 yX9_trait yX9_trait ∈ wsL_law := mR6 _ (List.mem_of_getElem? (i := 6) rfl)
theorem wd127 : Cond.code yX9_trait cX9_trait 4 (some .int) ∈ wsL_law := mR6 _ (List.mem_of_getElem? (i := 7) rfl)
theorem wd128 : Cond.fieldLink RX9 36 "PuppetCast$Company" "traitCount" "I" ∈ wsL_law := mR6 _ (List.mem_of_getElem? (i := 8) rfl)
theorem wd129 : Cond.methodLink RX9 29 yX1_canStandUnder ∈ wsL_law := mR6 _ (List.mem_of_getElem? (i := 9) rfl)
theorem wd130 : Cond.instanceMethod yX1_canStandUnder ∈ wsL_law := mR6 _ (List.mem_of_getElem? (i := 10) rfl)
theorem wd131 : Cond.selects RX1 yX1_canStandUnder yX1_canStandUnder ∈ wsL_law := mR6 _ (List.mem_of_getElem? (i := 11) rfl)
theorem wd132 : Cond.code yX1_canStandUnder cX1_canStandUnder 4 (some .boolean) ∈ wsL_law := mR6 _ (List.mem_of_getElem? (i := 12) rfl)
theorem wd133 : Cond.methodLink RX1 41 yX1_isTraitOrNone ∈ wsL_law := mR6 _ (List.mem_of_getElem? (i := 13) rfl)
theorem wd134 : Cond.instanceMethod yX1_isTraitOrNone ∈ wsL_law := mR6 _ (List.mem_of_getElem? (i := 14) rfl)
theorem wd135 : Cond.selects RX1 yX1_isTraitOrNone yX1_isTraitOrNone ∈ wsL_law := mR6 _ (List.mem_of_getElem? (i := 15) rfl)
theorem wd136 : Cond.code yX1_isTraitOrNone cX1_isTraitOrNone 2 (some .boolean) ∈ wsL_law := mR6 _ (List.mem_of_getElem? (i := 16) rfl)
theorem wd137 : Cond.methodLink RX1 45 yX1_traitAt ∈ wsL_law := mR6 _ (List.mem_of_getElem? (i := 17) rfl)
theorem wd138 : Cond.instanceMethod yX1_traitAt ∈ wsL_law := mR6 _ (List.mem_of_getElem? (i := 18) rfl)
theorem wd139 : Cond.selects RX1 yX1_traitAt yX1_traitAt ∈ wsL_law := mR6 _ (List.mem_of_getElem? (i := 19) rfl)
theorem wd140 : Cond.code yX1_traitAt cX1_traitAt 2 (some (.object "PuppetCast$Trait")) ∈ wsL_law := mR6 _ (List.mem_of_getElem? (i := 20) rfl)
theorem wd141 : Cond.static yX9_isBelow ∈ wsL_law := mR6 _ (List.mem_of_getElem? (i := 21) rfl)
theorem wd142 : Cond.code yX9_isBelow cX9_isBelow 2 (some .boolean) ∈ wsL_law := mR6 _ (List.mem_of_getElem? (i := 22) rfl)
theorem wd143 : Cond.methodLink RX9 33 yX1_alignsUnder ∈ wsL_law := mR6 _ (List.mem_of_getElem? (i := 23) rfl)
theorem wd144 : Cond.instanceMethod yX1_alignsUnder ∈ wsL_law := mR7 _ (List.mem_of_getElem? (i := 0) rfl)
theorem wd145 : Cond.selects RX1 yX1_alignsUnder yX1_alignsUnder ∈ wsL_law := mR7 _ (List.mem_of_getElem? (i := 1) rfl)
theorem wd146 : Cond.code yX1_alignsUnder cX1_alignsUnder 4 (some .boolean) ∈ wsL_law := mR7 _ (List.mem_of_getElem? (i := 2) rfl)
theorem wd147 : Cond.methodLink RX1 49 yX4_begin ∈ wsL_law := mR7 _ (List.mem_of_getElem? (i := 3) rfl)
theorem wd148 : Cond.instanceMethod yX4_begin ∈ wsL_law := mR7 _ (List.mem_of_getElem? (i := 4) rfl)
theorem wd149 : Cond.selects RX4 yX4_begin yX4_begin ∈ wsL_law := mR7 _ (List.mem_of_getElem? (i := 5) rfl)
theorem wd150 : Cond.code yX4_begin cX4_begin 1 none ∈ wsL_law := mR7 _ (List.mem_of_getElem? (i := 6) rfl)
theorem wd151 : Cond.fieldLink RX4 32 "PuppetCast$Merger" "count" "I" ∈ wsL_law := mR7 _ (List.mem_of_getElem? (i := 7) rfl)
theorem wd152 : Cond.methodLink RX4 29 yX3_empty ∈ wsL_law := mR7 _ (List.mem_of_getElem? (i := 8) rfl)
theorem wd153 : Cond.instanceMethod yX3_empty ∈ wsL_law := mR7 _ (List.mem_of_getElem? (i := 9) rfl)
theorem wd154 : Cond.selects RX3 yX3_empty yX3_empty ∈ wsL_law := mR7 _ (List.mem_of_getElem? (i := 10) rfl)
theorem wd155 : Cond.code yX3_empty cX3_empty 1 none ∈ wsL_law := mR7 _ (List.mem_of_getElem? (i := 11) rfl)
theorem wd156 : Cond.fieldLink RX3 24 "PuppetCast$Line" "length" "I" ∈ wsL_law := mR7 _ (List.mem_of_getElem? (i := 12) rfl)
theorem wd157 : Cond.methodLink RX1 52 yX1_addToMerger ∈ wsL_law := mR7 _ (List.mem_of_getElem? (i := 13) rfl)
theorem wd158 : Cond.instanceMethod yX1_addToMerger ∈ wsL_law := mR7 _ (List.mem_of_getElem? (i := 14) rfl)
theorem wd159 : Cond.selects RX1 yX1_addToMerger yX1_addToMerger ∈ wsL_law := mR7 _ (List.mem_of_getElem? (i := 15) rfl)
theorem wd160 : Cond.code yX1_addToMerger cX1_addToMerger 3 none ∈ wsL_law := mR7 _ (List.mem_of_getElem? (i := 16) rfl)
theorem wd161 : Cond.fieldLink RX1 68 "PuppetCast$Trait" "line" "LPuppetCast$Line;" ∈ wsL_law := mR7 _ (List.mem_of_getElem? (i := 17) rfl)
theorem wd162 : Cond.methodLink RX1 72 yX4_addGiver ∈ wsL_law := mR7 _ (List.mem_of_getElem? (i := 18) rfl)
theorem wd163 : Cond.instanceMethod yX4_addGiver ∈ wsL_law := mR7 _ (List.mem_of_getElem? (i := 19) rfl)
theorem wd164 : Cond.selects RX4 yX4_addGiver yX4_addGiver ∈ wsL_law := mR7 _ (List.mem_of_getElem? (i := 20) rfl)
theorem wd165 : Cond.code yX4_addGiver cX4_addGiver 3 none ∈ wsL_law := mR7 _ (List.mem_of_getElem? (i := 21) rfl)
theorem wd166 : Cond.methodLink RX4 36 yX3_add ∈ wsL_law := mR7 _ (List.mem_of_getElem? (i := 22) rfl)
theorem wd167 : Cond.instanceMethod yX3_add ∈ wsL_law := mR7 _ (List.mem_of_getElem? (i := 23) rfl)
theorem wd168 : Cond.selects RX3 yX3_add yX3_add ∈ wsL_law := mR8 _ (List.mem_of_getElem? (i := 0) rfl)
theorem wd169 : Cond.code yX3_add cX3_add 2 none ∈ wsL_law := mR8 _ (List.mem_of_getElem? (i := 1) rfl)
theorem wd170 : Cond.methodLink RX4 40 yX4_addRow ∈ wsL_law := mR8 _ (List.mem_of_getElem? (i := 2) rfl)
theorem wd171 : Cond.instanceMethod yX4_addRow ∈ wsL_law := mR8 _ (List.mem_of_getElem? (i := 3) rfl)
theorem wd172 : Cond.selects RX4 yX4_addRow yX4_addRow ∈ wsL_law := mR8 _ (List.mem_of_getElem? (i := 4) rfl)
theorem wd173 : Cond.code yX4_addRow cX4_addRow 2 none ∈ wsL_law := mR8 _ (List.mem_of_getElem? (i := 5) rfl)
theorem wd174 : Cond.methodLink RX1 56 yX4_merges ∈ wsL_law := mR8 _ (List.mem_of_getElem? (i := 6) rfl)
theorem wd175 : Cond.instanceMethod yX4_merges ∈ wsL_law := mR8 _ (List.mem_of_getElem? (i := 7) rfl)
theorem wd176 : Cond.selects RX4 yX4_merges yX4_merges ∈ wsL_law := mR8 _ (List.mem_of_getElem? (i := 8) rfl)
theorem wd177 : Cond.code yX4_merges cX4_merges 3 (some .boolean) ∈ wsL_law := mR8 _ (List.mem_of_getElem? (i := 9) rfl)
theorem wd178 : Cond.methodLink RX4 48 yX4_nextTrait ∈ wsL_law := mR8 _ (List.mem_of_getElem? (i := 10) rfl)
theorem wd179 : Cond.instanceMethod yX4_nextTrait ∈ wsL_law := mR8 _ (List.mem_of_getElem? (i := 11) rfl)
theorem wd180 : Cond.selects RX4 yX4_nextTrait yX4_nextTrait ∈ wsL_law := mR8 _ (List.mem_of_getElem? (i := 12) rfl)
theorem wd181 : Cond.code yX4_nextTrait cX4_nextTrait 3 (some .int) ∈ wsL_law := mR8 _ (List.mem_of_getElem? (i := 13) rfl)
theorem wd182 : Cond.methodLink RX4 59 yX4_firstOf ∈ wsL_law := mR8 _ (List.mem_of_getElem? (i := 14) rfl)
theorem wd183 : Cond.instanceMethod yX4_firstOf ∈ wsL_law := mR8 _ (List.mem_of_getElem? (i := 15) rfl)
theorem wd184 : Cond.selects RX4 yX4_firstOf yX4_firstOf ∈ wsL_law := mR8 _ (List.mem_of_getElem? (i := 16) rfl)
theorem wd185 : Cond.code yX4_firstOf cX4_firstOf 3 (some .int) ∈ wsL_law := mR8 _ (List.mem_of_getElem? (i := 17) rfl)
theorem wd186 : Cond.methodLink RX4 67 yX3_at ∈ wsL_law := mR8 _ (List.mem_of_getElem? (i := 18) rfl)
theorem wd187 : Cond.instanceMethod yX3_at ∈ wsL_law := mR8 _ (List.mem_of_getElem? (i := 19) rfl)
theorem wd188 : Cond.selects RX3 yX3_at yX3_at ∈ wsL_law := mR8 _ (List.mem_of_getElem? (i := 20) rfl)
theorem wd189 : Cond.code yX3_at cX3_at 2 (some .int) ∈ wsL_law := mR8 _ (List.mem_of_getElem? (i := 21) rfl)
theorem wd190 : Cond.methodLink RX4 63 yX4_standsBehind ∈ wsL_law := mR8 _ (List.mem_of_getElem? (i := 22) rfl)
theorem wd191 : Cond.instanceMethod yX4_standsBehind ∈ wsL_law := mR8 _ (List.mem_of_getElem? (i := 23) rfl)
theorem wd192 : Cond.selects RX4 yX4_standsBehind yX4_standsBehind ∈ wsL_law := mR9 _ (List.mem_of_getElem? (i := 0) rfl)
theorem wd193 : Cond.code yX4_standsBehind cX4_standsBehind 4 (some .boolean) ∈ wsL_law := mR9 _ (List.mem_of_getElem? (i := 1) rfl)
theorem wd194 : Cond.methodLink RX4 70 yX3_placeOf ∈ wsL_law := mR9 _ (List.mem_of_getElem? (i := 2) rfl)
theorem wd195 : Cond.instanceMethod yX3_placeOf ∈ wsL_law := mR9 _ (List.mem_of_getElem? (i := 3) rfl)
theorem wd196 : Cond.selects RX3 yX3_placeOf yX3_placeOf ∈ wsL_law := mR9 _ (List.mem_of_getElem? (i := 4) rfl)
theorem wd197 : Cond.code yX3_placeOf cX3_placeOf 2 (some .int) ∈ wsL_law := mR9 _ (List.mem_of_getElem? (i := 5) rfl)
theorem wd198 : Cond.methodLink RX4 52 yX4_strike ∈ wsL_law := mR9 _ (List.mem_of_getElem? (i := 6) rfl)
theorem wd199 : Cond.instanceMethod yX4_strike ∈ wsL_law := mR9 _ (List.mem_of_getElem? (i := 7) rfl)
theorem wd200 : Cond.selects RX4 yX4_strike yX4_strike ∈ wsL_law := mR9 _ (List.mem_of_getElem? (i := 8) rfl)
theorem wd201 : Cond.code yX4_strike cX4_strike 3 none ∈ wsL_law := mR9 _ (List.mem_of_getElem? (i := 9) rfl)
theorem wd202 : Cond.methodLink RX4 55 yX4_allDone ∈ wsL_law := mR9 _ (List.mem_of_getElem? (i := 10) rfl)
theorem wd203 : Cond.instanceMethod yX4_allDone ∈ wsL_law := mR9 _ (List.mem_of_getElem? (i := 11) rfl)
theorem wd204 : Cond.selects RX4 yX4_allDone yX4_allDone ∈ wsL_law := mR9 _ (List.mem_of_getElem? (i := 12) rfl)
theorem wd205 : Cond.code yX4_allDone cX4_allDone 2 (some .boolean) ∈ wsL_law := mR9 _ (List.mem_of_getElem? (i := 13) rfl)
theorem wd206 : Cond.methodLink RX9 40 yX1_addTrait ∈ wsL_law := mR9 _ (List.mem_of_getElem? (i := 14) rfl)
theorem wd207 : Cond.instanceMethod yX1_addTrait ∈ wsL_law := mR9 _ (List.mem_of_getElem? (i := 15) rfl)
theorem wd208 : Cond.selects RX1 yX1_addTrait yX1_addTrait ∈ wsL_law := mR9 _ (List.mem_of_getElem? (i := 16) rfl)
theorem wd209 : Cond.code yX1_addTrait cX1_addTrait 3 (some .int) ∈ wsL_law := mR9 _ (List.mem_of_getElem? (i := 17) rfl)
theorem wd210 : Cond.fieldLink RX1 76 "PuppetCast$Company" "traitCount" "I" ∈ wsL_law := mR9 _ (List.mem_of_getElem? (i := 18) rfl)
theorem wd211 : Cond.instantiable RX8 3 ∈ wsL_law := mR9 _ (List.mem_of_getElem? (i := 19) rfl)
theorem wd212 : Cond.initialized RX8 ∈ wsL_law := mR9 _ (List.mem_of_getElem? (i := 20) rfl)
theorem wd213 : Cond.fieldLink RX1 85 "PuppetCast$Merger" "merged" "LPuppetCast$Line;" ∈ wsL_law := mR9 _ (List.mem_of_getElem? (i := 21) rfl)
theorem wd214 : Cond.instanceMethod yX8_init ∈ wsL_law := mR9 _ (List.mem_of_getElem? (i := 22) rfl)
theorem wd215 : Cond.code yX8_init cX8_init 1 none ∈ wsL_law := mR9 _ (List.mem_of_getElem? (i := 23) rfl)
theorem wd216 : Cond.methodLink RX8 3 objectInit ∈ wsL_law := mR10 _ (List.mem_of_getElem? (i := 0) rfl)
theorem wd217 : Cond.classLink RX8 9 RX3 ∈ wsL_law := mR10 _ (List.mem_of_getElem? (i := 1) rfl)
theorem wd218 : Cond.fieldLink RX8 12 "PuppetCast$Trait" "line" "LPuppetCast$Line;" ∈ wsL_law := mR10 _ (List.mem_of_getElem? (i := 2) rfl)
theorem wd219 : Cond.classLink RX8 18 RX5 ∈ wsL_law := mR10 _ (List.mem_of_getElem? (i := 3) rfl)
theorem wd220 : Cond.fieldLink RX8 20 "PuppetCast$Trait" "bodies" "[LPuppetCast$Part;" ∈ wsL_law := mR10 _ (List.mem_of_getElem? (i := 4) rfl)
theorem wd221 : Cond.fieldLink RX8 24 "PuppetCast$Trait" "guards" "[LPuppetCast$Part;" ∈ wsL_law := mR10 _ (List.mem_of_getElem? (i := 5) rfl)
theorem wd222 : Cond.methodLink RX8 11 yX3_init ∈ wsL_law := mR10 _ (List.mem_of_getElem? (i := 6) rfl)
theorem wd223 : Cond.methodLink RX1 80 yX3_add ∈ wsL_law := mR10 _ (List.mem_of_getElem? (i := 7) rfl)
theorem wd224 : Cond.methodLink RX1 88 yX3_addAll ∈ wsL_law := mR10 _ (List.mem_of_getElem? (i := 8) rfl)
theorem wd225 : Cond.instanceMethod yX3_addAll ∈ wsL_law := mR10 _ (List.mem_of_getElem? (i := 9) rfl)
theorem wd226 : Cond.selects RX3 yX3_addAll yX3_addAll ∈ wsL_law := mR10 _ (List.mem_of_getElem? (i := 10) rfl)
theorem wd227 : Cond.code yX3_addAll cX3_addAll 3 none ∈ wsL_law := mR10 _ (List.mem_of_getElem? (i := 11) rfl)
theorem wd228 : Cond.methodLink RX3 32 yX3_at ∈ wsL_law := mR10 _ (List.mem_of_getElem? (i := 12) rfl)
theorem wd229 : Cond.methodLink RX3 36 yX3_add ∈ wsL_law := mR10 _ (List.mem_of_getElem? (i := 13) rfl)
theorem wd230 : Cond.methodLink RL 17 yX10_trait ∈ wsL_law := mR10 _ (List.mem_of_getElem? (i := 14) rfl)
theorem wd231 : Cond.instanceMethod yX10_trait ∈ wsL_law := mR10 _ (List.mem_of_getElem? (i := 15) rfl)
theorem wd232 : Cond.selects RX10 yX10_trait yX10_trait ∈ wsL_law := mR10 _ (List.mem_of_getElem? (i := 16) rfl)
theorem wd233 : Cond.code yX10_trait cX10_trait 6 (some .int) ∈ wsL_law := mR10 _ (List.mem_of_getElem? (i := 17) rfl)
theorem wd234 : Cond.fieldLink RX10 155 "PuppetCastModel" "partMany" "I" ∈ wsL_law := mR10 _ (List.mem_of_getElem? (i := 18) rfl)
theorem wd235 : Cond.fieldLink RX10 145 "PuppetCastModel" "traits" "I" ∈ wsL_law := mR10 _ (List.mem_of_getElem? (i := 19) rfl)
theorem wd236 : Cond.methodLink RX10 169 yX10_mayBeUnder ∈ wsL_law := mR10 _ (List.mem_of_getElem? (i := 20) rfl)
theorem wd237 : Cond.instanceMethod yX10_mayBeUnder ∈ wsL_law := mR10 _ (List.mem_of_getElem? (i := 21) rfl)
theorem wd238 : Cond.selects RX10 yX10_mayBeUnder yX10_mayBeUnder ∈ wsL_law := mR10 _ (List.mem_of_getElem? (i := 22) rfl)
theorem wd239 : Cond.code yX10_mayBeUnder cX10_mayBeUnder 2 (some .boolean) ∈ wsL_law := mR10 _ (List.mem_of_getElem? (i := 23) rfl)
theorem wd240 : Cond.methodLink RX10 166 yX10_isTrait ∈ wsL_law := mR11 _ (List.mem_of_getElem? (i := 0) rfl)
theorem wd241 : Cond.instanceMethod yX10_isTrait ∈ wsL_law := mR11 _ (List.mem_of_getElem? (i := 1) rfl)
theorem wd242 : Cond.selects RX10 yX10_isTrait yX10_isTrait ∈ wsL_law := mR11 _ (List.mem_of_getElem? (i := 2) rfl)
theorem wd243 : Cond.code yX10_isTrait cX10_isTrait 2 (some .boolean) ∈ wsL_law := mR11 _ (List.mem_of_getElem? (i := 3) rfl)
theorem wd244 : Cond.methodLink RX10 148 yX10_in ∈ wsL_law := mR11 _ (List.mem_of_getElem? (i := 4) rfl)
theorem wd245 : Cond.static yX10_in ∈ wsL_law := mR11 _ (List.mem_of_getElem? (i := 5) rfl)
theorem wd246 : Cond.code yX10_in cX10_in 3 (some .boolean) ∈ wsL_law := mR11 _ (List.mem_of_getElem? (i := 6) rfl)
theorem wd247 : Cond.methodLink RX10 172 yX10_merge ∈ wsL_law := mR11 _ (List.mem_of_getElem? (i := 7) rfl)
theorem wd248 : Cond.instanceMethod yX10_merge ∈ wsL_law := mR11 _ (List.mem_of_getElem? (i := 8) rfl)
theorem wd249 : Cond.selects RX10 yX10_merge yX10_merge ∈ wsL_law := mR11 _ (List.mem_of_getElem? (i := 9) rfl)
theorem wd250 : Cond.code yX10_merge cX10_merge 6 (some .int) ∈ wsL_law := mR11 _ (List.mem_of_getElem? (i := 10) rfl)
theorem wd251 : Cond.methodLink RX10 158 yX10_placeOf ∈ wsL_law := mR11 _ (List.mem_of_getElem? (i := 11) rfl)
theorem wd252 : Cond.instanceMethod yX10_placeOf ∈ wsL_law := mR11 _ (List.mem_of_getElem? (i := 12) rfl)
theorem wd253 : Cond.selects RX10 yX10_placeOf yX10_placeOf ∈ wsL_law := mR11 _ (List.mem_of_getElem? (i := 13) rfl)
theorem wd254 : Cond.code yX10_placeOf cX10_placeOf 3 (some .int) ∈ wsL_law := mR11 _ (List.mem_of_getElem? (i := 14) rfl)
theorem wd255 : Cond.methodLink RX10 162 yX10_isBehind ∈ wsL_law := mR11 _ (List.mem_of_getElem? (i := 15) rfl)
theorem wd256 : Cond.instanceMethod yX10_isBehind ∈ wsL_law := mR11 _ (List.mem_of_getElem? (i := 16) rfl)
theorem wd257 : Cond.selects RX10 yX10_isBehind yX10_isBehind ∈ wsL_law := mR11 _ (List.mem_of_getElem? (i := 17) rfl)
theorem wd258 : Cond.code yX10_isBehind cX10_isBehind 4 (some .boolean) ∈ wsL_law := mR11 _ (List.mem_of_getElem? (i := 18) rfl)
theorem wd259 : Cond.methodLink RL 18 yX9_character ∈ wsL_law := mR11 _ (List.mem_of_getElem? (i := 19) rfl)
theorem wd260 : Cond.instanceMethod yX9_character ∈ wsL_law := mR11 _ (List.mem_of_getElem? (i := 20) rfl)
theorem wd261 : Cond.selects RX9 yX9_character yX9_character ∈ wsL_law := mR11 _ (List.mem_of_getElem? (i := 21) rfl)
theorem wd262 : Cond.code yX9_character cX9_character 2 (some .int) ∈ wsL_law := mR11 _ (List.mem_of_getElem? (i := 22) rfl)
theorem wd263 : Cond.fieldLink RX9 48 "PuppetCast$Company" "figureCount" "I" ∈ wsL_law := mR11 _ (List.mem_of_getElem? (i := 23) rfl)
theorem wd264 : Cond.methodLink RX9 44 yX9_isBelow ∈ wsL_law := mR12 _ (List.mem_of_getElem? (i := 0) rfl)
theorem wd265 : Cond.methodLink RX9 51 yX1_addFigure ∈ wsL_law := mR12 _ (List.mem_of_getElem? (i := 1) rfl)
theorem wd266 : Cond.instanceMethod yX1_addFigure ∈ wsL_law := mR12 _ (List.mem_of_getElem? (i := 2) rfl)
theorem wd267 : Cond.selects RX1 yX1_addFigure yX1_addFigure ∈ wsL_law := mR12 _ (List.mem_of_getElem? (i := 3) rfl)
theorem wd268 : Cond.code yX1_addFigure cX1_addFigure 3 (some .int) ∈ wsL_law := mR12 _ (List.mem_of_getElem? (i := 4) rfl)
theorem wd269 : Cond.fieldLink RX1 92 "PuppetCast$Company" "figureCount" "I" ∈ wsL_law := mR12 _ (List.mem_of_getElem? (i := 5) rfl)
theorem wd270 : Cond.instantiable RX2 13 ∈ wsL_law := mR12 _ (List.mem_of_getElem? (i := 6) rfl)
theorem wd271 : Cond.initialized RX2 ∈ wsL_law := mR12 _ (List.mem_of_getElem? (i := 7) rfl)
theorem wd272 : Cond.methodLink RX1 95 yX2_init ∈ wsL_law := mR12 _ (List.mem_of_getElem? (i := 8) rfl)
theorem wd273 : Cond.instanceMethod yX2_init ∈ wsL_law := mR12 _ (List.mem_of_getElem? (i := 9) rfl)
theorem wd274 : Cond.code yX2_init cX2_init 3 none ∈ wsL_law := mR12 _ (List.mem_of_getElem? (i := 10) rfl)
theorem wd275 : Cond.methodLink RX2 3 objectInit ∈ wsL_law := mR12 _ (List.mem_of_getElem? (i := 11) rfl)
theorem wd276 : Cond.classLink RX2 9 RX3 ∈ wsL_law := mR12 _ (List.mem_of_getElem? (i := 12) rfl)
theorem wd277 : Cond.fieldLink RX2 12 "PuppetCast$Figure" "line" "LPuppetCast$Line;" ∈ wsL_law := mR12 _ (List.mem_of_getElem? (i := 13) rfl)
theorem wd278 : Cond.fieldLink RX2 18 "PuppetCast$Figure" "taken" "[I" ∈ wsL_law := mR12 _ (List.mem_of_getElem? (i := 14) rfl)
theorem wd279 : Cond.classLink RX2 22 RX5 ∈ wsL_law := mR12 _ (List.mem_of_getElem? (i := 15) rfl)
theorem wd280 : Cond.fieldLink RX2 24 "PuppetCast$Figure" "ownBodies" "[LPuppetCast$Part;" ∈ wsL_law := mR12 _ (List.mem_of_getElem? (i := 16) rfl)
theorem wd281 : Cond.fieldLink RX2 28 "PuppetCast$Figure" "left" "[Z" ∈ wsL_law := mR12 _ (List.mem_of_getElem? (i := 17) rfl)
theorem wd282 : Cond.fieldLink RX2 32 "PuppetCast$Figure" "names" "[I" ∈ wsL_law := mR12 _ (List.mem_of_getElem? (i := 18) rfl)
theorem wd283 : Cond.fieldLink RX2 35 "PuppetCast$Figure" "origins" "[I" ∈ wsL_law := mR12 _ (List.mem_of_getElem? (i := 19) rfl)
theorem wd284 : Cond.fieldLink RX2 38 "PuppetCast$Figure" "preferred" "[I" ∈ wsL_law := mR12 _ (List.mem_of_getElem? (i := 20) rfl)
theorem wd285 : Cond.fieldLink RX2 41 "PuppetCast$Figure" "moods" "[J" ∈ wsL_law := mR12 _ (List.mem_of_getElem? (i := 21) rfl)
theorem wd286 : Cond.fieldLink RX2 45 "PuppetCast$Figure" "number" "I" ∈ wsL_law := mR12 _ (List.mem_of_getElem? (i := 22) rfl)
theorem wd287 : Cond.fieldLink RX2 49 "PuppetCast$Figure" "troupe" "I" ∈ wsL_law := mR12 _ (List.mem_of_getElem? (i := 23) rfl)
theorem wd288 : Cond.methodLink RX2 11 yX3_init ∈ wsL_law := mR13 _ (List.mem_of_getElem? (i := 0) rfl)
theorem wd289 : Cond.methodLink RX2 52 yJ7_fill_53178 ∈ wsL_law := mR13 _ (List.mem_of_getElem? (i := 1) rfl)
theorem wd290 : Cond.methodLink RL 22 yX10_character ∈ wsL_law := mR13 _ (List.mem_of_getElem? (i := 2) rfl)
theorem wd291 : Cond.instanceMethod yX10_character ∈ wsL_law := mR13 _ (List.mem_of_getElem? (i := 3) rfl)
theorem wd292 : Cond.selects RX10 yX10_character yX10_character ∈ wsL_law := mR13 _ (List.mem_of_getElem? (i := 4) rfl)
theorem wd293 : Cond.code yX10_character cX10_character 3 (some .int) ∈ wsL_law := mR13 _ (List.mem_of_getElem? (i := 5) rfl)
theorem wd294 : Cond.fieldLink RX10 152 "PuppetCastModel" "characters" "I" ∈ wsL_law := mR13 _ (List.mem_of_getElem? (i := 6) rfl)
theorem wd295 : Cond.methodLink RL 23 yX9_takes ∈ wsL_law := mR13 _ (List.mem_of_getElem? (i := 7) rfl)
theorem wd296 : Cond.instanceMethod yX9_takes ∈ wsL_law := mR13 _ (List.mem_of_getElem? (i := 8) rfl)
theorem wd297 : Cond.selects RX9 yX9_takes yX9_takes ∈ wsL_law := mR13 _ (List.mem_of_getElem? (i := 9) rfl)
theorem wd298 : Cond.code yX9_takes cX9_takes 4 (some .int) ∈ wsL_law := mR13 _ (List.mem_of_getElem? (i := 10) rfl)
theorem wd299 : Cond.fieldLink RX9 73 "PuppetCast$Figure" "takenCount" "I" ∈ wsL_law := mR13 _ (List.mem_of_getElem? (i := 11) rfl)
theorem wd300 : Cond.methodLink RX9 55 yX1_figureAt ∈ wsL_law := mR13 _ (List.mem_of_getElem? (i := 12) rfl)
theorem wd301 : Cond.instanceMethod yX1_figureAt ∈ wsL_law := mR13 _ (List.mem_of_getElem? (i := 13) rfl)
theorem wd302 : Cond.selects RX1 yX1_figureAt yX1_figureAt ∈ wsL_law := mR13 _ (List.mem_of_getElem? (i := 14) rfl)
theorem wd303 : Cond.code yX1_figureAt cX1_figureAt 2 (some (.object "PuppetCast$Figure")) ∈ wsL_law := mR13 _ (List.mem_of_getElem? (i := 15) rfl)
theorem wd304 : Cond.methodLink RX9 59 yX1_traitAt ∈ wsL_law := mR13 _ (List.mem_of_getElem? (i := 16) rfl)
theorem wd305 : Cond.methodLink RX9 63 yX2_hasTaken ∈ wsL_law := mR13 _ (List.mem_of_getElem? (i := 17) rfl)
theorem wd306 : Cond.instanceMethod yX2_hasTaken ∈ wsL_law := mR13 _ (List.mem_of_getElem? (i := 18) rfl)
theorem wd307 : Cond.selects RX2 yX2_hasTaken yX2_hasTaken ∈ wsL_law := mR13 _ (List.mem_of_getElem? (i := 19) rfl)
theorem wd308 : Cond.code yX2_hasTaken cX2_hasTaken 3 (some .boolean) ∈ wsL_law := mR13 _ (List.mem_of_getElem? (i := 20) rfl)
theorem wd309 : Cond.fieldLink RX2 58 "PuppetCast$Figure" "takenCount" "I" ∈ wsL_law := mR13 _ (List.mem_of_getElem? (i := 21) rfl)
theorem wd310 : Cond.methodLink RX2 65 yX2_takenAt ∈ wsL_law := mR13 _ (List.mem_of_getElem? (i := 22) rfl)
theorem wd311 : Cond.instanceMethod yX2_takenAt ∈ wsL_law := mR13 _ (List.mem_of_getElem? (i := 23) rfl)
theorem wd312 : Cond.selects RX2 yX2_takenAt yX2_takenAt ∈ wsL_law := mR14 _ (List.mem_of_getElem? (i := 0) rfl)
theorem wd313 : Cond.code yX2_takenAt cX2_takenAt 2 (some .int) ∈ wsL_law := mR14 _ (List.mem_of_getElem? (i := 1) rfl)
theorem wd314 : Cond.methodLink RX9 69 yX1_alignsTaking ∈ wsL_law := mR14 _ (List.mem_of_getElem? (i := 2) rfl)
theorem wd315 : Cond.instanceMethod yX1_alignsTaking ∈ wsL_law := mR14 _ (List.mem_of_getElem? (i := 3) rfl)
theorem wd316 : Cond.selects RX1 yX1_alignsTaking yX1_alignsTaking ∈ wsL_law := mR14 _ (List.mem_of_getElem? (i := 4) rfl)
theorem wd317 : Cond.code yX1_alignsTaking cX1_alignsTaking 4 (some .boolean) ∈ wsL_law := mR14 _ (List.mem_of_getElem? (i := 5) rfl)
theorem wd318 : Cond.fieldLink RX1 60 "PuppetCast$Figure" "takenCount" "I" ∈ wsL_law := mR14 _ (List.mem_of_getElem? (i := 6) rfl)
theorem wd319 : Cond.methodLink RX1 64 yX2_takenAt ∈ wsL_law := mR14 _ (List.mem_of_getElem? (i := 7) rfl)
theorem wd320 : Cond.methodLink RX9 76 yX1_addTaken ∈ wsL_law := mR14 _ (List.mem_of_getElem? (i := 8) rfl)
theorem wd321 : Cond.instanceMethod yX1_addTaken ∈ wsL_law := mR14 _ (List.mem_of_getElem? (i := 9) rfl)
theorem wd322 : Cond.selects RX1 yX1_addTaken yX1_addTaken ∈ wsL_law := mR14 _ (List.mem_of_getElem? (i := 10) rfl)
theorem wd323 : Cond.code yX1_addTaken cX1_addTaken 3 (some .int) ∈ wsL_law := mR14 _ (List.mem_of_getElem? (i := 11) rfl)
theorem wd324 : Cond.fieldLink RX1 101 "PuppetCast$Figure" "line" "LPuppetCast$Line;" ∈ wsL_law := mR14 _ (List.mem_of_getElem? (i := 12) rfl)
theorem wd325 : Cond.methodLink RX1 98 yX2_addTaken ∈ wsL_law := mR14 _ (List.mem_of_getElem? (i := 13) rfl)
theorem wd326 : Cond.instanceMethod yX2_addTaken ∈ wsL_law := mR14 _ (List.mem_of_getElem? (i := 14) rfl)
theorem wd327 : Cond.selects RX2 yX2_addTaken yX2_addTaken ∈ wsL_law := mR14 _ (List.mem_of_getElem? (i := 15) rfl)
theorem wd328 : Cond.code yX2_addTaken cX2_addTaken 2 none ∈ wsL_law := mR14 _ (List.mem_of_getElem? (i := 16) rfl)
theorem wd329 : Cond.methodLink RX1 102 yX3_empty ∈ wsL_law := mR14 _ (List.mem_of_getElem? (i := 17) rfl)
theorem wd330 : Cond.methodLink RL 27 yX10_takes ∈ wsL_law := mR14 _ (List.mem_of_getElem? (i := 18) rfl)
theorem wd331 : Cond.instanceMethod yX10_takes ∈ wsL_law := mR14 _ (List.mem_of_getElem? (i := 19) rfl)
theorem wd332 : Cond.selects RX10 yX10_takes yX10_takes ∈ wsL_law := mR14 _ (List.mem_of_getElem? (i := 20) rfl)
theorem wd333 : Cond.code yX10_takes cX10_takes 5 (some .int) ∈ wsL_law := mR14 _ (List.mem_of_getElem? (i := 21) rfl)
theorem wd334 : Cond.methodLink RX10 176 yX10_isCharacter ∈ wsL_law := mR14 _ (List.mem_of_getElem? (i := 22) rfl)
theorem wd335 : Cond.instanceMethod yX10_isCharacter ∈ wsL_law := mR14 _ (List.mem_of_getElem? (i := 23) rfl)
theorem wd336 : Cond.selects RX10 yX10_isCharacter yX10_isCharacter ∈ wsL_law := mR15 _ (List.mem_of_getElem? (i := 0) rfl)
theorem wd337 : Cond.code yX10_isCharacter cX10_isCharacter 2 (some .boolean) ∈ wsL_law := mR15 _ (List.mem_of_getElem? (i := 1) rfl)
theorem wd338 : Cond.methodLink RL 28 yX9_body ∈ wsL_law := mR15 _ (List.mem_of_getElem? (i := 2) rfl)
theorem wd339 : Cond.instanceMethod yX9_body ∈ wsL_law := mR15 _ (List.mem_of_getElem? (i := 3) rfl)
theorem wd340 : Cond.selects RX9 yX9_body yX9_body ∈ wsL_law := mR15 _ (List.mem_of_getElem? (i := 4) rfl)
theorem wd341 : Cond.code yX9_body cX9_body 6 (some .int) ∈ wsL_law := mR15 _ (List.mem_of_getElem? (i := 5) rfl)
theorem wd342 : Cond.classLink RX9 83 RX5 ∈ wsL_law := mR15 _ (List.mem_of_getElem? (i := 6) rfl)
theorem wd343 : Cond.instantiable RX5 9 ∈ wsL_law := mR15 _ (List.mem_of_getElem? (i := 7) rfl)
theorem wd344 : Cond.initialized RX5 ∈ wsL_law := mR15 _ (List.mem_of_getElem? (i := 8) rfl)
theorem wd345 : Cond.methodLink RX9 80 yX9_isAct ∈ wsL_law := mR15 _ (List.mem_of_getElem? (i := 9) rfl)
theorem wd346 : Cond.static yX9_isAct ∈ wsL_law := mR15 _ (List.mem_of_getElem? (i := 10) rfl)
theorem wd347 : Cond.code yX9_isAct cX9_isAct 1 (some .boolean) ∈ wsL_law := mR15 _ (List.mem_of_getElem? (i := 11) rfl)
theorem wd348 : Cond.methodLink RX9 85 yX5_init ∈ wsL_law := mR15 _ (List.mem_of_getElem? (i := 12) rfl)
theorem wd349 : Cond.instanceMethod yX5_init ∈ wsL_law := mR15 _ (List.mem_of_getElem? (i := 13) rfl)
theorem wd350 : Cond.code yX5_init cX5_init 6 none ∈ wsL_law := mR15 _ (List.mem_of_getElem? (i := 14) rfl)
theorem wd351 : Cond.methodLink RX5 3 objectInit ∈ wsL_law := mR15 _ (List.mem_of_getElem? (i := 15) rfl)
theorem wd352 : Cond.fieldLink RX5 9 "PuppetCast$Part" "kinds" "[I" ∈ wsL_law := mR15 _ (List.mem_of_getElem? (i := 16) rfl)
theorem wd353 : Cond.fieldLink RX5 15 "PuppetCast$Part" "firsts" "[I" ∈ wsL_law := mR15 _ (List.mem_of_getElem? (i := 17) rfl)
theorem wd354 : Cond.fieldLink RX5 18 "PuppetCast$Part" "seconds" "[I" ∈ wsL_law := mR15 _ (List.mem_of_getElem? (i := 18) rfl)
theorem wd355 : Cond.fieldLink RX5 21 "PuppetCast$Part" "giver" "I" ∈ wsL_law := mR15 _ (List.mem_of_getElem? (i := 19) rfl)
theorem wd356 : Cond.fieldLink RX5 25 "PuppetCast$Part" "sort" "I" ∈ wsL_law := mR15 _ (List.mem_of_getElem? (i := 20) rfl)
theorem wd357 : Cond.fieldLink RX5 28 "PuppetCast$Part" "reach" "I" ∈ wsL_law := mR15 _ (List.mem_of_getElem? (i := 21) rfl)
theorem wd358 : Cond.fieldLink RX5 31 "PuppetCast$Part" "result" "I" ∈ wsL_law := mR15 _ (List.mem_of_getElem? (i := 22) rfl)
theorem wd359 : Cond.fieldLink RX5 34 "PuppetCast$Part" "isNeed" "Z" ∈ wsL_law := mR15 _ (List.mem_of_getElem? (i := 23) rfl)
theorem wd360 : Cond.methodLink RX9 88 yX8_setBody ∈ wsL_law := mR16 _ (List.mem_of_getElem? (i := 0) rfl)
theorem wd361 : Cond.instanceMethod yX8_setBody ∈ wsL_law := mR16 _ (List.mem_of_getElem? (i := 1) rfl)
theorem wd362 : Cond.selects RX8 yX8_setBody yX8_setBody ∈ wsL_law := mR16 _ (List.mem_of_getElem? (i := 2) rfl)
theorem wd363 : Cond.code yX8_setBody cX8_setBody 3 none ∈ wsL_law := mR16 _ (List.mem_of_getElem? (i := 3) rfl)
theorem wd364 : Cond.methodLink RL 32 yX10_body ∈ wsL_law := mR16 _ (List.mem_of_getElem? (i := 4) rfl)
theorem wd365 : Cond.instanceMethod yX10_body ∈ wsL_law := mR16 _ (List.mem_of_getElem? (i := 5) rfl)
theorem wd366 : Cond.selects RX10 yX10_body yX10_body ∈ wsL_law := mR16 _ (List.mem_of_getElem? (i := 6) rfl)
theorem wd367 : Cond.code yX10_body cX10_body 6 (some .int) ∈ wsL_law := mR16 _ (List.mem_of_getElem? (i := 7) rfl)
theorem wd368 : Cond.methodLink RX10 179 yX10_isAct ∈ wsL_law := mR16 _ (List.mem_of_getElem? (i := 8) rfl)
theorem wd369 : Cond.static yX10_isAct ∈ wsL_law := mR16 _ (List.mem_of_getElem? (i := 9) rfl)
theorem wd370 : Cond.code yX10_isAct cX10_isAct 1 (some .boolean) ∈ wsL_law := mR16 _ (List.mem_of_getElem? (i := 10) rfl)
theorem wd371 : Cond.methodLink RX10 182 yX10_begins ∈ wsL_law := mR16 _ (List.mem_of_getElem? (i := 11) rfl)
theorem wd372 : Cond.instanceMethod yX10_begins ∈ wsL_law := mR16 _ (List.mem_of_getElem? (i := 12) rfl)
theorem wd373 : Cond.selects RX10 yX10_begins yX10_begins ∈ wsL_law := mR16 _ (List.mem_of_getElem? (i := 13) rfl)
theorem wd374 : Cond.code yX10_begins cX10_begins 2 (some .int) ∈ wsL_law := mR16 _ (List.mem_of_getElem? (i := 14) rfl)
theorem wd375 : Cond.methodLink RL 33 yX9_need ∈ wsL_law := mR16 _ (List.mem_of_getElem? (i := 15) rfl)
theorem wd376 : Cond.instanceMethod yX9_need ∈ wsL_law := mR16 _ (List.mem_of_getElem? (i := 16) rfl)
theorem wd377 : Cond.selects RX9 yX9_need yX9_need ∈ wsL_law := mR16 _ (List.mem_of_getElem? (i := 17) rfl)
theorem wd378 : Cond.code yX9_need cX9_need 5 (some .int) ∈ wsL_law := mR16 _ (List.mem_of_getElem? (i := 18) rfl)
theorem wd379 : Cond.methodLink RL 36 yX10_need ∈ wsL_law := mR16 _ (List.mem_of_getElem? (i := 19) rfl)
theorem wd380 : Cond.instanceMethod yX10_need ∈ wsL_law := mR16 _ (List.mem_of_getElem? (i := 20) rfl)
theorem wd381 : Cond.selects RX10 yX10_need yX10_need ∈ wsL_law := mR16 _ (List.mem_of_getElem? (i := 21) rfl)
theorem wd382 : Cond.code yX10_need cX10_need 5 (some .int) ∈ wsL_law := mR16 _ (List.mem_of_getElem? (i := 22) rfl)
theorem wd383 : Cond.methodLink RL 37 yX9_guard ∈ wsL_law := mR16 _ (List.mem_of_getElem? (i := 23) rfl)
theorem wd384 : Cond.instanceMethod yX9_guard ∈ wsL_law := mR17 _ (List.mem_of_getElem? (i := 0) rfl)
theorem wd385 : Cond.selects RX9 yX9_guard yX9_guard ∈ wsL_law := mR17 _ (List.mem_of_getElem? (i := 1) rfl)
theorem wd386 : Cond.code yX9_guard cX9_guard 5 (some .int) ∈ wsL_law := mR17 _ (List.mem_of_getElem? (i := 2) rfl)
theorem wd387 : Cond.methodLink RX9 94 yX8_setGuard ∈ wsL_law := mR17 _ (List.mem_of_getElem? (i := 3) rfl)
theorem wd388 : Cond.instanceMethod yX8_setGuard ∈ wsL_law := mR17 _ (List.mem_of_getElem? (i := 4) rfl)
theorem wd389 : Cond.selects RX8 yX8_setGuard yX8_setGuard ∈ wsL_law := mR17 _ (List.mem_of_getElem? (i := 5) rfl)
theorem wd390 : Cond.code yX8_setGuard cX8_setGuard 3 none ∈ wsL_law := mR17 _ (List.mem_of_getElem? (i := 6) rfl)
theorem wd391 : Cond.methodLink RL 40 yX10_guard ∈ wsL_law := mR17 _ (List.mem_of_getElem? (i := 7) rfl)
theorem wd392 : Cond.instanceMethod yX10_guard ∈ wsL_law := mR17 _ (List.mem_of_getElem? (i := 8) rfl)
theorem wd393 : Cond.selects RX10 yX10_guard yX10_guard ∈ wsL_law := mR17 _ (List.mem_of_getElem? (i := 9) rfl)
theorem wd394 : Cond.code yX10_guard cX10_guard 4 (some .int) ∈ wsL_law := mR17 _ (List.mem_of_getElem? (i := 10) rfl)
theorem wd395 : Cond.methodLink RL 41 yX9_own ∈ wsL_law := mR17 _ (List.mem_of_getElem? (i := 11) rfl)
theorem wd396 : Cond.instanceMethod yX9_own ∈ wsL_law := mR17 _ (List.mem_of_getElem? (i := 12) rfl)
theorem wd397 : Cond.selects RX9 yX9_own yX9_own ∈ wsL_law := mR17 _ (List.mem_of_getElem? (i := 13) rfl)
theorem wd398 : Cond.code yX9_own cX9_own 6 (some .int) ∈ wsL_law := mR17 _ (List.mem_of_getElem? (i := 14) rfl)
theorem wd399 : Cond.methodLink RX9 97 yX2_setOwnBody ∈ wsL_law := mR17 _ (List.mem_of_getElem? (i := 15) rfl)
theorem wd400 : Cond.instanceMethod yX2_setOwnBody ∈ wsL_law := mR17 _ (List.mem_of_getElem? (i := 16) rfl)
theorem wd401 : Cond.selects RX2 yX2_setOwnBody yX2_setOwnBody ∈ wsL_law := mR17 _ (List.mem_of_getElem? (i := 17) rfl)
theorem wd402 : Cond.code yX2_setOwnBody cX2_setOwnBody 3 none ∈ wsL_law := mR17 _ (List.mem_of_getElem? (i := 18) rfl)
theorem wd403 : Cond.methodLink RL 44 yX10_own ∈ wsL_law := mR17 _ (List.mem_of_getElem? (i := 19) rfl)
theorem wd404 : Cond.instanceMethod yX10_own ∈ wsL_law := mR17 _ (List.mem_of_getElem? (i := 20) rfl)
theorem wd405 : Cond.selects RX10 yX10_own yX10_own ∈ wsL_law := mR17 _ (List.mem_of_getElem? (i := 21) rfl)
theorem wd406 : Cond.code yX10_own cX10_own 6 (some .int) ∈ wsL_law := mR17 _ (List.mem_of_getElem? (i := 22) rfl)
theorem wd407 : Cond.methodLink RL 45 yX9_op ∈ wsL_law := mR17 _ (List.mem_of_getElem? (i := 23) rfl)
theorem wd408 : Cond.instanceMethod yX9_op ∈ wsL_law := mR18 _ (List.mem_of_getElem? (i := 0) rfl)
theorem wd409 : Cond.selects RX9 yX9_op yX9_op ∈ wsL_law := mR18 _ (List.mem_of_getElem? (i := 1) rfl)
theorem wd410 : Cond.code yX9_op cX9_op 4 (some .int) ∈ wsL_law := mR18 _ (List.mem_of_getElem? (i := 2) rfl)
theorem wd411 : Cond.fieldLink RX9 103 "PuppetCast$Part" "size" "I" ∈ wsL_law := mR18 _ (List.mem_of_getElem? (i := 3) rfl)
theorem wd412 : Cond.methodLink RX9 100 yX9_isOp ∈ wsL_law := mR18 _ (List.mem_of_getElem? (i := 4) rfl)
theorem wd413 : Cond.static yX9_isOp ∈ wsL_law := mR18 _ (List.mem_of_getElem? (i := 5) rfl)
theorem wd414 : Cond.code yX9_isOp cX9_isOp 3 (some .boolean) ∈ wsL_law := mR18 _ (List.mem_of_getElem? (i := 6) rfl)
theorem wd415 : Cond.methodLink RX9 106 yX5_addOp ∈ wsL_law := mR18 _ (List.mem_of_getElem? (i := 7) rfl)
theorem wd416 : Cond.instanceMethod yX5_addOp ∈ wsL_law := mR18 _ (List.mem_of_getElem? (i := 8) rfl)
theorem wd417 : Cond.selects RX5 yX5_addOp yX5_addOp ∈ wsL_law := mR18 _ (List.mem_of_getElem? (i := 9) rfl)
theorem wd418 : Cond.code yX5_addOp cX5_addOp 4 (some .int) ∈ wsL_law := mR18 _ (List.mem_of_getElem? (i := 10) rfl)
theorem wd419 : Cond.fieldLink RX5 38 "PuppetCast$Part" "size" "I" ∈ wsL_law := mR18 _ (List.mem_of_getElem? (i := 11) rfl)
theorem wd420 : Cond.methodLink RL 48 yX10_op ∈ wsL_law := mR18 _ (List.mem_of_getElem? (i := 12) rfl)
theorem wd421 : Cond.instanceMethod yX10_op ∈ wsL_law := mR18 _ (List.mem_of_getElem? (i := 13) rfl)
theorem wd422 : Cond.selects RX10 yX10_op yX10_op ∈ wsL_law := mR18 _ (List.mem_of_getElem? (i := 14) rfl)
theorem wd423 : Cond.code yX10_op cX10_op 5 (some .int) ∈ wsL_law := mR18 _ (List.mem_of_getElem? (i := 15) rfl)
theorem wd424 : Cond.methodLink RX10 186 yX10_isOp ∈ wsL_law := mR18 _ (List.mem_of_getElem? (i := 16) rfl)
theorem wd425 : Cond.static yX10_isOp ∈ wsL_law := mR18 _ (List.mem_of_getElem? (i := 17) rfl)
theorem wd426 : Cond.code yX10_isOp cX10_isOp 3 (some .boolean) ∈ wsL_law := mR18 _ (List.mem_of_getElem? (i := 18) rfl)
theorem wd427 : Cond.methodLink RL 49 yX9_leave ∈ wsL_law := mR18 _ (List.mem_of_getElem? (i := 19) rfl)
theorem wd428 : Cond.instanceMethod yX9_leave ∈ wsL_law := mR18 _ (List.mem_of_getElem? (i := 20) rfl)
theorem wd429 : Cond.selects RX9 yX9_leave yX9_leave ∈ wsL_law := mR18 _ (List.mem_of_getElem? (i := 21) rfl)
theorem wd430 : Cond.code yX9_leave cX9_leave 5 (some .int) ∈ wsL_law := mR18 _ (List.mem_of_getElem? (i := 22) rfl)
theorem wd431 : Cond.fieldLink RX9 113 "PuppetCast$Figure" "leftCount" "I" ∈ wsL_law := mR18 _ (List.mem_of_getElem? (i := 23) rfl)
theorem wd432 : Cond.methodLink RX9 110 yX2_leaves ∈ wsL_law := mR19 _ (List.mem_of_getElem? (i := 0) rfl)
theorem wd433 : Cond.instanceMethod yX2_leaves ∈ wsL_law := mR19 _ (List.mem_of_getElem? (i := 1) rfl)
theorem wd434 : Cond.selects RX2 yX2_leaves yX2_leaves ∈ wsL_law := mR19 _ (List.mem_of_getElem? (i := 2) rfl)
theorem wd435 : Cond.code yX2_leaves cX2_leaves 4 (some .boolean) ∈ wsL_law := mR19 _ (List.mem_of_getElem? (i := 3) rfl)
theorem wd436 : Cond.methodLink RX2 69 yX2_slot ∈ wsL_law := mR19 _ (List.mem_of_getElem? (i := 4) rfl)
theorem wd437 : Cond.static yX2_slot ∈ wsL_law := mR19 _ (List.mem_of_getElem? (i := 5) rfl)
theorem wd438 : Cond.code yX2_slot cX2_slot 3 (some .int) ∈ wsL_law := mR19 _ (List.mem_of_getElem? (i := 6) rfl)
theorem wd439 : Cond.methodLink RX9 116 yX2_addLeft ∈ wsL_law := mR19 _ (List.mem_of_getElem? (i := 7) rfl)
theorem wd440 : Cond.instanceMethod yX2_addLeft ∈ wsL_law := mR19 _ (List.mem_of_getElem? (i := 8) rfl)
theorem wd441 : Cond.selects RX2 yX2_addLeft yX2_addLeft ∈ wsL_law := mR19 _ (List.mem_of_getElem? (i := 9) rfl)
theorem wd442 : Cond.code yX2_addLeft cX2_addLeft 4 (some .int) ∈ wsL_law := mR19 _ (List.mem_of_getElem? (i := 10) rfl)
theorem wd443 : Cond.fieldLink RX2 73 "PuppetCast$Figure" "leftCount" "I" ∈ wsL_law := mR19 _ (List.mem_of_getElem? (i := 11) rfl)
theorem wd444 : Cond.methodLink RL 52 yX10_leave ∈ wsL_law := mR19 _ (List.mem_of_getElem? (i := 12) rfl)
theorem wd445 : Cond.instanceMethod yX10_leave ∈ wsL_law := mR19 _ (List.mem_of_getElem? (i := 13) rfl)
theorem wd446 : Cond.selects RX10 yX10_leave yX10_leave ∈ wsL_law := mR19 _ (List.mem_of_getElem? (i := 14) rfl)
theorem wd447 : Cond.code yX10_leave cX10_leave 4 (some .int) ∈ wsL_law := mR19 _ (List.mem_of_getElem? (i := 15) rfl)
theorem wd448 : Cond.methodLink RX10 189 yX10_leaves ∈ wsL_law := mR19 _ (List.mem_of_getElem? (i := 16) rfl)
theorem wd449 : Cond.instanceMethod yX10_leaves ∈ wsL_law := mR19 _ (List.mem_of_getElem? (i := 17) rfl)
theorem wd450 : Cond.selects RX10 yX10_leaves yX10_leaves ∈ wsL_law := mR19 _ (List.mem_of_getElem? (i := 18) rfl)
theorem wd451 : Cond.code yX10_leaves cX10_leaves 5 (some .boolean) ∈ wsL_law := mR19 _ (List.mem_of_getElem? (i := 19) rfl)
theorem wd452 : Cond.methodLink RL 53 yX9_rename ∈ wsL_law := mR19 _ (List.mem_of_getElem? (i := 20) rfl)
theorem wd453 : Cond.instanceMethod yX9_rename ∈ wsL_law := mR19 _ (List.mem_of_getElem? (i := 21) rfl)
theorem wd454 : Cond.selects RX9 yX9_rename yX9_rename ∈ wsL_law := mR19 _ (List.mem_of_getElem? (i := 22) rfl)
theorem wd455 : Cond.code yX9_rename cX9_rename 6 (some .int) ∈ wsL_law := mR19 _ (List.mem_of_getElem? (i := 23) rfl)
theorem wd456 : Cond.fieldLink RX9 126 "PuppetCast$Figure" "renamedCount" "I" ∈ wsL_law := mR20 _ (List.mem_of_getElem? (i := 0) rfl)
theorem wd457 : Cond.methodLink RX9 120 yX2_nameOf ∈ wsL_law := mR20 _ (List.mem_of_getElem? (i := 1) rfl)
theorem wd458 : Cond.instanceMethod yX2_nameOf ∈ wsL_law := mR20 _ (List.mem_of_getElem? (i := 2) rfl)
theorem wd459 : Cond.selects RX2 yX2_nameOf yX2_nameOf ∈ wsL_law := mR20 _ (List.mem_of_getElem? (i := 3) rfl)
theorem wd460 : Cond.code yX2_nameOf cX2_nameOf 4 (some .int) ∈ wsL_law := mR20 _ (List.mem_of_getElem? (i := 4) rfl)
theorem wd461 : Cond.methodLink RX9 123 yX2_originOf ∈ wsL_law := mR20 _ (List.mem_of_getElem? (i := 5) rfl)
theorem wd462 : Cond.instanceMethod yX2_originOf ∈ wsL_law := mR20 _ (List.mem_of_getElem? (i := 6) rfl)
theorem wd463 : Cond.selects RX2 yX2_originOf yX2_originOf ∈ wsL_law := mR20 _ (List.mem_of_getElem? (i := 7) rfl)
theorem wd464 : Cond.code yX2_originOf cX2_originOf 4 (some .int) ∈ wsL_law := mR20 _ (List.mem_of_getElem? (i := 8) rfl)
theorem wd465 : Cond.methodLink RX9 129 yX2_addRenamed ∈ wsL_law := mR20 _ (List.mem_of_getElem? (i := 9) rfl)
theorem wd466 : Cond.instanceMethod yX2_addRenamed ∈ wsL_law := mR20 _ (List.mem_of_getElem? (i := 10) rfl)
theorem wd467 : Cond.selects RX2 yX2_addRenamed yX2_addRenamed ∈ wsL_law := mR20 _ (List.mem_of_getElem? (i := 11) rfl)
theorem wd468 : Cond.code yX2_addRenamed cX2_addRenamed 6 (some .int) ∈ wsL_law := mR20 _ (List.mem_of_getElem? (i := 12) rfl)
theorem wd469 : Cond.fieldLink RX2 76 "PuppetCast$Figure" "renamedCount" "I" ∈ wsL_law := mR20 _ (List.mem_of_getElem? (i := 13) rfl)
theorem wd470 : Cond.methodLink RL 56 yX10_rename ∈ wsL_law := mR20 _ (List.mem_of_getElem? (i := 14) rfl)
theorem wd471 : Cond.instanceMethod yX10_rename ∈ wsL_law := mR20 _ (List.mem_of_getElem? (i := 15) rfl)
theorem wd472 : Cond.selects RX10 yX10_rename yX10_rename ∈ wsL_law := mR20 _ (List.mem_of_getElem? (i := 16) rfl)
theorem wd473 : Cond.code yX10_rename cX10_rename 6 (some .int) ∈ wsL_law := mR20 _ (List.mem_of_getElem? (i := 17) rfl)
theorem wd474 : Cond.methodLink RX10 192 yX10_renamed ∈ wsL_law := mR20 _ (List.mem_of_getElem? (i := 18) rfl)
theorem wd475 : Cond.instanceMethod yX10_renamed ∈ wsL_law := mR20 _ (List.mem_of_getElem? (i := 19) rfl)
theorem wd476 : Cond.selects RX10 yX10_renamed yX10_renamed ∈ wsL_law := mR20 _ (List.mem_of_getElem? (i := 20) rfl)
theorem wd477 : Cond.code yX10_renamed cX10_renamed 5 (some .int) ∈ wsL_law := mR20 _ (List.mem_of_getElem? (i := 21) rfl)
theorem wd478 : Cond.methodLink RX10 196 yX10_named ∈ wsL_law := mR20 _ (List.mem_of_getElem? (i := 22) rfl)
theorem wd479 : Cond.instanceMethod yX10_named ∈ wsL_law := mR20 _ (List.mem_of_getElem? (i := 23) rfl)
theorem wd480 : Cond.selects RX10 yX10_named yX10_named ∈ wsL_law := mR21 _ (List.mem_of_getElem? (i := 0) rfl)
theorem wd481 : Cond.code yX10_named cX10_named 5 (some .int) ∈ wsL_law := mR21 _ (List.mem_of_getElem? (i := 1) rfl)
theorem wd482 : Cond.methodLink RL 57 yX9_prefer ∈ wsL_law := mR21 _ (List.mem_of_getElem? (i := 2) rfl)
theorem wd483 : Cond.instanceMethod yX9_prefer ∈ wsL_law := mR21 _ (List.mem_of_getElem? (i := 3) rfl)
theorem wd484 : Cond.selects RX9 yX9_prefer yX9_prefer ∈ wsL_law := mR21 _ (List.mem_of_getElem? (i := 4) rfl)
theorem wd485 : Cond.code yX9_prefer cX9_prefer 5 (some .int) ∈ wsL_law := mR21 _ (List.mem_of_getElem? (i := 5) rfl)
theorem wd486 : Cond.methodLink RX9 132 yX2_swapPreferred ∈ wsL_law := mR21 _ (List.mem_of_getElem? (i := 6) rfl)
theorem wd487 : Cond.instanceMethod yX2_swapPreferred ∈ wsL_law := mR21 _ (List.mem_of_getElem? (i := 7) rfl)
theorem wd488 : Cond.selects RX2 yX2_swapPreferred yX2_swapPreferred ∈ wsL_law := mR21 _ (List.mem_of_getElem? (i := 8) rfl)
theorem wd489 : Cond.code yX2_swapPreferred cX2_swapPreferred 4 (some .int) ∈ wsL_law := mR21 _ (List.mem_of_getElem? (i := 9) rfl)
theorem wd490 : Cond.methodLink RX2 79 yX2_preferredFor ∈ wsL_law := mR21 _ (List.mem_of_getElem? (i := 10) rfl)
theorem wd491 : Cond.instanceMethod yX2_preferredFor ∈ wsL_law := mR21 _ (List.mem_of_getElem? (i := 11) rfl)
theorem wd492 : Cond.selects RX2 yX2_preferredFor yX2_preferredFor ∈ wsL_law := mR21 _ (List.mem_of_getElem? (i := 12) rfl)
theorem wd493 : Cond.code yX2_preferredFor cX2_preferredFor 2 (some .int) ∈ wsL_law := mR21 _ (List.mem_of_getElem? (i := 13) rfl)
theorem wd494 : Cond.methodLink RL 60 yX10_prefer ∈ wsL_law := mR21 _ (List.mem_of_getElem? (i := 14) rfl)
theorem wd495 : Cond.instanceMethod yX10_prefer ∈ wsL_law := mR21 _ (List.mem_of_getElem? (i := 15) rfl)
theorem wd496 : Cond.selects RX10 yX10_prefer yX10_prefer ∈ wsL_law := mR21 _ (List.mem_of_getElem? (i := 16) rfl)
theorem wd497 : Cond.code yX10_prefer cX10_prefer 5 (some .int) ∈ wsL_law := mR21 _ (List.mem_of_getElem? (i := 17) rfl)
theorem wd498 : Cond.methodLink RL 61 yX9_lineOf ∈ wsL_law := mR21 _ (List.mem_of_getElem? (i := 18) rfl)
theorem wd499 : Cond.instanceMethod yX9_lineOf ∈ wsL_law := mR21 _ (List.mem_of_getElem? (i := 19) rfl)
theorem wd500 : Cond.selects RX9 yX9_lineOf yX9_lineOf ∈ wsL_law := mR21 _ (List.mem_of_getElem? (i := 20) rfl)
theorem wd501 : Cond.code yX9_lineOf cX9_lineOf 4 (some .int) ∈ wsL_law := mR21 _ (List.mem_of_getElem? (i := 21) rfl)
theorem wd502 : Cond.fieldLink RX9 135 "PuppetCast$Trait" "line" "LPuppetCast$Line;" ∈ wsL_law := mR21 _ (List.mem_of_getElem? (i := 22) rfl)
theorem wd503 : Cond.methodLink RX9 139 yX3_at ∈ wsL_law := mR21 _ (List.mem_of_getElem? (i := 23) rfl)
theorem wd504 : Cond.methodLink RL 64 yX10_lineOf ∈ wsL_law := mR22 _ (List.mem_of_getElem? (i := 0) rfl)
theorem wd505 : Cond.instanceMethod yX10_lineOf ∈ wsL_law := mR22 _ (List.mem_of_getElem? (i := 1) rfl)
theorem wd506 : Cond.selects RX10 yX10_lineOf yX10_lineOf ∈ wsL_law := mR22 _ (List.mem_of_getElem? (i := 2) rfl)
theorem wd507 : Cond.code yX10_lineOf cX10_lineOf 3 (some .int) ∈ wsL_law := mR22 _ (List.mem_of_getElem? (i := 3) rfl)
theorem wd508 : Cond.methodLink RL 65 yX9_line ∈ wsL_law := mR22 _ (List.mem_of_getElem? (i := 4) rfl)
theorem wd509 : Cond.instanceMethod yX9_line ∈ wsL_law := mR22 _ (List.mem_of_getElem? (i := 5) rfl)
theorem wd510 : Cond.selects RX9 yX9_line yX9_line ∈ wsL_law := mR22 _ (List.mem_of_getElem? (i := 6) rfl)
theorem wd511 : Cond.code yX9_line cX9_line 4 (some .int) ∈ wsL_law := mR22 _ (List.mem_of_getElem? (i := 7) rfl)
theorem wd512 : Cond.fieldLink RX9 144 "PuppetCast$Figure" "line" "LPuppetCast$Line;" ∈ wsL_law := mR22 _ (List.mem_of_getElem? (i := 8) rfl)
theorem wd513 : Cond.methodLink RL 68 yX10_line ∈ wsL_law := mR22 _ (List.mem_of_getElem? (i := 9) rfl)
theorem wd514 : Cond.instanceMethod yX10_line ∈ wsL_law := mR22 _ (List.mem_of_getElem? (i := 10) rfl)
theorem wd515 : Cond.selects RX10 yX10_line yX10_line ∈ wsL_law := mR22 _ (List.mem_of_getElem? (i := 11) rfl)
theorem wd516 : Cond.code yX10_line cX10_line 3 (some .int) ∈ wsL_law := mR22 _ (List.mem_of_getElem? (i := 12) rfl)
theorem wd517 : Cond.methodLink RL 69 yX9_chosen ∈ wsL_law := mR22 _ (List.mem_of_getElem? (i := 13) rfl)
theorem wd518 : Cond.instanceMethod yX9_chosen ∈ wsL_law := mR22 _ (List.mem_of_getElem? (i := 14) rfl)
theorem wd519 : Cond.selects RX9 yX9_chosen yX9_chosen ∈ wsL_law := mR22 _ (List.mem_of_getElem? (i := 15) rfl)
theorem wd520 : Cond.code yX9_chosen cX9_chosen 4 (some .int) ∈ wsL_law := mR22 _ (List.mem_of_getElem? (i := 16) rfl)
theorem wd521 : Cond.fieldLink RX9 149 "PuppetCast$Choice" "giver" "I" ∈ wsL_law := mR22 _ (List.mem_of_getElem? (i := 17) rfl)
theorem wd522 : Cond.methodLink RX9 145 yX1_weigh ∈ wsL_law := mR22 _ (List.mem_of_getElem? (i := 18) rfl)
theorem wd523 : Cond.instanceMethod yX1_weigh ∈ wsL_law := mR22 _ (List.mem_of_getElem? (i := 19) rfl)
theorem wd524 : Cond.selects RX1 yX1_weigh yX1_weigh ∈ wsL_law := mR22 _ (List.mem_of_getElem? (i := 20) rfl)
theorem wd525 : Cond.code yX1_weigh cX1_weigh 8 (some (.object "PuppetCast$Choice")) ∈ wsL_law := mR22 _ (List.mem_of_getElem? (i := 21) rfl)
theorem wd526 : Cond.fieldLink RX1 129 "PuppetCast$Line" "length" "I" ∈ wsL_law := mR22 _ (List.mem_of_getElem? (i := 22) rfl)
theorem wd527 : Cond.methodLink RX1 135 yX2_preferredFor ∈ wsL_law := mR22 _ (List.mem_of_getElem? (i := 23) rfl)
theorem wd528 : Cond.methodLink RX1 138 yX0_empty ∈ wsL_law := mR23 _ (List.mem_of_getElem? (i := 0) rfl)
theorem wd529 : Cond.instanceMethod yX0_empty ∈ wsL_law := mR23 _ (List.mem_of_getElem? (i := 1) rfl)
theorem wd530 : Cond.selects RX0 yX0_empty yX0_empty ∈ wsL_law := mR23 _ (List.mem_of_getElem? (i := 2) rfl)
theorem wd531 : Cond.code yX0_empty cX0_empty 1 none ∈ wsL_law := mR23 _ (List.mem_of_getElem? (i := 3) rfl)
theorem wd532 : Cond.fieldLink RX0 9 "PuppetCast$Choice" "preferred" "LPuppetCast$Part;" ∈ wsL_law := mR23 _ (List.mem_of_getElem? (i := 4) rfl)
theorem wd533 : Cond.fieldLink RX0 15 "PuppetCast$Choice" "first" "LPuppetCast$Part;" ∈ wsL_law := mR23 _ (List.mem_of_getElem? (i := 5) rfl)
theorem wd534 : Cond.fieldLink RX0 18 "PuppetCast$Choice" "lineOfFirst" "LPuppetCast$Line;" ∈ wsL_law := mR23 _ (List.mem_of_getElem? (i := 6) rfl)
theorem wd535 : Cond.fieldLink RX0 22 "PuppetCast$Choice" "hasRival" "Z" ∈ wsL_law := mR23 _ (List.mem_of_getElem? (i := 7) rfl)
theorem wd536 : Cond.fieldLink RX0 26 "PuppetCast$Choice" "hasNeed" "Z" ∈ wsL_law := mR23 _ (List.mem_of_getElem? (i := 8) rfl)
theorem wd537 : Cond.fieldLink RX0 29 "PuppetCast$Choice" "results" "I" ∈ wsL_law := mR23 _ (List.mem_of_getElem? (i := 9) rfl)
theorem wd538 : Cond.methodLink RX1 132 yX3_at ∈ wsL_law := mR23 _ (List.mem_of_getElem? (i := 10) rfl)
theorem wd539 : Cond.methodLink RX1 116 yX1_offered ∈ wsL_law := mR23 _ (List.mem_of_getElem? (i := 11) rfl)
theorem wd540 : Cond.instanceMethod yX1_offered ∈ wsL_law := mR23 _ (List.mem_of_getElem? (i := 12) rfl)
theorem wd541 : Cond.selects RX1 yX1_offered yX1_offered ∈ wsL_law := mR23 _ (List.mem_of_getElem? (i := 13) rfl)
theorem wd542 : Cond.code yX1_offered cX1_offered 5 (some (.object "PuppetCast$Part")) ∈ wsL_law := mR23 _ (List.mem_of_getElem? (i := 14) rfl)
theorem wd543 : Cond.methodLink RX1 105 yX2_sourceOf ∈ wsL_law := mR23 _ (List.mem_of_getElem? (i := 15) rfl)
theorem wd544 : Cond.instanceMethod yX2_sourceOf ∈ wsL_law := mR23 _ (List.mem_of_getElem? (i := 16) rfl)
theorem wd545 : Cond.selects RX2 yX2_sourceOf yX2_sourceOf ∈ wsL_law := mR23 _ (List.mem_of_getElem? (i := 17) rfl)
theorem wd546 : Cond.code yX2_sourceOf cX2_sourceOf 4 (some .int) ∈ wsL_law := mR23 _ (List.mem_of_getElem? (i := 18) rfl)
theorem wd547 : Cond.methodLink RX1 109 yX8_bodyFor ∈ wsL_law := mR23 _ (List.mem_of_getElem? (i := 19) rfl)
theorem wd548 : Cond.instanceMethod yX8_bodyFor ∈ wsL_law := mR23 _ (List.mem_of_getElem? (i := 20) rfl)
theorem wd549 : Cond.selects RX8 yX8_bodyFor yX8_bodyFor ∈ wsL_law := mR23 _ (List.mem_of_getElem? (i := 21) rfl)
theorem wd550 : Cond.code yX8_bodyFor cX8_bodyFor 2 (some (.object "PuppetCast$Part")) ∈ wsL_law := mR23 _ (List.mem_of_getElem? (i := 22) rfl)
theorem wd551 : Cond.methodLink RX1 139 yX0_hear ∈ wsL_law := mR23 _ (List.mem_of_getElem? (i := 23) rfl)
theorem wd552 : Cond.instanceMethod yX0_hear ∈ wsL_law := mR24 _ (List.mem_of_getElem? (i := 0) rfl)
theorem wd553 : Cond.selects RX0 yX0_hear yX0_hear ∈ wsL_law := mR24 _ (List.mem_of_getElem? (i := 1) rfl)
theorem wd554 : Cond.code yX0_hear cX0_hear 4 none ∈ wsL_law := mR24 _ (List.mem_of_getElem? (i := 2) rfl)
theorem wd555 : Cond.fieldLink RX0 33 "PuppetCast$Part" "result" "I" ∈ wsL_law := mR24 _ (List.mem_of_getElem? (i := 3) rfl)
theorem wd556 : Cond.fieldLink RX0 38 "PuppetCast$Part" "isNeed" "Z" ∈ wsL_law := mR24 _ (List.mem_of_getElem? (i := 4) rfl)
theorem wd557 : Cond.fieldLink RX0 41 "PuppetCast$Part" "giver" "I" ∈ wsL_law := mR24 _ (List.mem_of_getElem? (i := 5) rfl)
theorem wd558 : Cond.methodLink RX0 44 yX3_has ∈ wsL_law := mR24 _ (List.mem_of_getElem? (i := 6) rfl)
theorem wd559 : Cond.instanceMethod yX3_has ∈ wsL_law := mR24 _ (List.mem_of_getElem? (i := 7) rfl)
theorem wd560 : Cond.selects RX3 yX3_has yX3_has ∈ wsL_law := mR24 _ (List.mem_of_getElem? (i := 8) rfl)
theorem wd561 : Cond.code yX3_has cX3_has 2 (some .boolean) ∈ wsL_law := mR24 _ (List.mem_of_getElem? (i := 9) rfl)
theorem wd562 : Cond.methodLink RX1 143 yX2_ownBody ∈ wsL_law := mR24 _ (List.mem_of_getElem? (i := 10) rfl)
theorem wd563 : Cond.instanceMethod yX2_ownBody ∈ wsL_law := mR24 _ (List.mem_of_getElem? (i := 11) rfl)
theorem wd564 : Cond.selects RX2 yX2_ownBody yX2_ownBody ∈ wsL_law := mR24 _ (List.mem_of_getElem? (i := 12) rfl)
theorem wd565 : Cond.code yX2_ownBody cX2_ownBody 2 (some (.object "PuppetCast$Part")) ∈ wsL_law := mR24 _ (List.mem_of_getElem? (i := 13) rfl)
theorem wd566 : Cond.methodLink RX1 146 yX0_settle ∈ wsL_law := mR24 _ (List.mem_of_getElem? (i := 14) rfl)
theorem wd567 : Cond.instanceMethod yX0_settle ∈ wsL_law := mR24 _ (List.mem_of_getElem? (i := 15) rfl)
theorem wd568 : Cond.selects RX0 yX0_settle yX0_settle ∈ wsL_law := mR24 _ (List.mem_of_getElem? (i := 16) rfl)
theorem wd569 : Cond.code yX0_settle cX0_settle 3 none ∈ wsL_law := mR24 _ (List.mem_of_getElem? (i := 17) rfl)
theorem wd570 : Cond.fieldLink RX0 50 "PuppetCast$Choice" "part" "LPuppetCast$Part;" ∈ wsL_law := mR24 _ (List.mem_of_getElem? (i := 18) rfl)
theorem wd571 : Cond.fieldLink RX0 53 "PuppetCast$Choice" "giver" "I" ∈ wsL_law := mR24 _ (List.mem_of_getElem? (i := 19) rfl)
theorem wd572 : Cond.fieldLink RX0 54 "PuppetCast$Choice" "clash" "I" ∈ wsL_law := mR24 _ (List.mem_of_getElem? (i := 20) rfl)
theorem wd573 : Cond.fieldLink RX0 57 "PuppetCast$Choice" "bridges" "I" ∈ wsL_law := mR24 _ (List.mem_of_getElem? (i := 21) rfl)
theorem wd574 : Cond.methodLink RX0 60 yJ6_bitCount_0f7a4 ∈ wsL_law := mR24 _ (List.mem_of_getElem? (i := 22) rfl)
theorem wd575 : Cond.static yJ6_bitCount_0f7a4 ∈ wsL_law := mR24 _ (List.mem_of_getElem? (i := 23) rfl)
theorem wd576 : Cond.initialized RJ6 ∈ wsL_law := mR25 _ (List.mem_of_getElem? (i := 0) rfl)
theorem wd577 : Cond.code yJ6_bitCount_0f7a4 cJ6_bitCount_0f7a4 1 (some .int) ∈ wsL_law := mR25 _ (List.mem_of_getElem? (i := 1) rfl)
theorem wd578 : Cond.constant RJ6 265 (1431655765) ∈ wsL_law := mR25 _ (List.mem_of_getElem? (i := 2) rfl)
theorem wd579 : Cond.constant RJ6 266 (858993459) ∈ wsL_law := mR25 _ (List.mem_of_getElem? (i := 3) rfl)
theorem wd580 : Cond.constant RJ6 267 (252645135) ∈ wsL_law := mR25 _ (List.mem_of_getElem? (i := 4) rfl)
theorem wd581 : Cond.methodLink RL 72 yX10_chosen ∈ wsL_law := mR25 _ (List.mem_of_getElem? (i := 5) rfl)
theorem wd582 : Cond.instanceMethod yX10_chosen ∈ wsL_law := mR25 _ (List.mem_of_getElem? (i := 6) rfl)
theorem wd583 : Cond.selects RX10 yX10_chosen yX10_chosen ∈ wsL_law := mR25 _ (List.mem_of_getElem? (i := 7) rfl)
theorem wd584 : Cond.code yX10_chosen cX10_chosen 3 (some .int) ∈ wsL_law := mR25 _ (List.mem_of_getElem? (i := 8) rfl)
theorem wd585 : Cond.methodLink RX10 221 yX10_chosenOf ∈ wsL_law := mR25 _ (List.mem_of_getElem? (i := 9) rfl)
theorem wd586 : Cond.instanceMethod yX10_chosenOf ∈ wsL_law := mR25 _ (List.mem_of_getElem? (i := 10) rfl)
theorem wd587 : Cond.selects RX10 yX10_chosenOf yX10_chosenOf ∈ wsL_law := mR25 _ (List.mem_of_getElem? (i := 11) rfl)
theorem wd588 : Cond.code yX10_chosenOf cX10_chosenOf 5 (some .int) ∈ wsL_law := mR25 _ (List.mem_of_getElem? (i := 12) rfl)
theorem wd589 : Cond.methodLink RX10 208 yX10_choose ∈ wsL_law := mR25 _ (List.mem_of_getElem? (i := 13) rfl)
theorem wd590 : Cond.instanceMethod yX10_choose ∈ wsL_law := mR25 _ (List.mem_of_getElem? (i := 14) rfl)
theorem wd591 : Cond.selects RX10 yX10_choose yX10_choose ∈ wsL_law := mR25 _ (List.mem_of_getElem? (i := 15) rfl)
theorem wd592 : Cond.code yX10_choose cX10_choose 6 (some .int) ∈ wsL_law := mR25 _ (List.mem_of_getElem? (i := 16) rfl)
theorem wd593 : Cond.methodLink RX10 199 yX10_offers ∈ wsL_law := mR25 _ (List.mem_of_getElem? (i := 17) rfl)
theorem wd594 : Cond.instanceMethod yX10_offers ∈ wsL_law := mR25 _ (List.mem_of_getElem? (i := 18) rfl)
theorem wd595 : Cond.selects RX10 yX10_offers yX10_offers ∈ wsL_law := mR25 _ (List.mem_of_getElem? (i := 19) rfl)
theorem wd596 : Cond.code yX10_offers cX10_offers 6 (some .int) ∈ wsL_law := mR25 _ (List.mem_of_getElem? (i := 20) rfl)
theorem wd597 : Cond.methodLink RX10 202 yX10_placeIn ∈ wsL_law := mR25 _ (List.mem_of_getElem? (i := 21) rfl)
theorem wd598 : Cond.instanceMethod yX10_placeIn ∈ wsL_law := mR25 _ (List.mem_of_getElem? (i := 22) rfl)
theorem wd599 : Cond.selects RX10 yX10_placeIn yX10_placeIn ∈ wsL_law := mR25 _ (List.mem_of_getElem? (i := 23) rfl)
theorem wd600 : Cond.code yX10_placeIn cX10_placeIn 4 (some .int) ∈ wsL_law := mR26 _ (List.mem_of_getElem? (i := 0) rfl)
theorem wd601 : Cond.methodLink RX10 205 yX10_firstFrom ∈ wsL_law := mR26 _ (List.mem_of_getElem? (i := 1) rfl)
theorem wd602 : Cond.instanceMethod yX10_firstFrom ∈ wsL_law := mR26 _ (List.mem_of_getElem? (i := 2) rfl)
theorem wd603 : Cond.selects RX10 yX10_firstFrom yX10_firstFrom ∈ wsL_law := mR26 _ (List.mem_of_getElem? (i := 3) rfl)
theorem wd604 : Cond.code yX10_firstFrom cX10_firstFrom 6 (some .int) ∈ wsL_law := mR26 _ (List.mem_of_getElem? (i := 4) rfl)
theorem wd605 : Cond.methodLink RX10 218 yX10_tells ∈ wsL_law := mR26 _ (List.mem_of_getElem? (i := 5) rfl)
theorem wd606 : Cond.instanceMethod yX10_tells ∈ wsL_law := mR26 _ (List.mem_of_getElem? (i := 6) rfl)
theorem wd607 : Cond.selects RX10 yX10_tells yX10_tells ∈ wsL_law := mR26 _ (List.mem_of_getElem? (i := 7) rfl)
theorem wd608 : Cond.code yX10_tells cX10_tells 3 (some .int) ∈ wsL_law := mR26 _ (List.mem_of_getElem? (i := 8) rfl)
theorem wd609 : Cond.methodLink RL 73 yX9_clash ∈ wsL_law := mR26 _ (List.mem_of_getElem? (i := 9) rfl)
theorem wd610 : Cond.instanceMethod yX9_clash ∈ wsL_law := mR26 _ (List.mem_of_getElem? (i := 10) rfl)
theorem wd611 : Cond.selects RX9 yX9_clash yX9_clash ∈ wsL_law := mR26 _ (List.mem_of_getElem? (i := 11) rfl)
theorem wd612 : Cond.code yX9_clash cX9_clash 4 (some .int) ∈ wsL_law := mR26 _ (List.mem_of_getElem? (i := 12) rfl)
theorem wd613 : Cond.fieldLink RX9 154 "PuppetCast$Choice" "clash" "I" ∈ wsL_law := mR26 _ (List.mem_of_getElem? (i := 13) rfl)
theorem wd614 : Cond.methodLink RL 76 yX10_clash ∈ wsL_law := mR26 _ (List.mem_of_getElem? (i := 14) rfl)
theorem wd615 : Cond.instanceMethod yX10_clash ∈ wsL_law := mR26 _ (List.mem_of_getElem? (i := 15) rfl)
theorem wd616 : Cond.selects RX10 yX10_clash yX10_clash ∈ wsL_law := mR26 _ (List.mem_of_getElem? (i := 16) rfl)
theorem wd617 : Cond.code yX10_clash cX10_clash 3 (some .int) ∈ wsL_law := mR26 _ (List.mem_of_getElem? (i := 17) rfl)
theorem wd618 : Cond.methodLink RX10 224 yX10_clashOf ∈ wsL_law := mR26 _ (List.mem_of_getElem? (i := 18) rfl)
theorem wd619 : Cond.instanceMethod yX10_clashOf ∈ wsL_law := mR26 _ (List.mem_of_getElem? (i := 19) rfl)
theorem wd620 : Cond.selects RX10 yX10_clashOf yX10_clashOf ∈ wsL_law := mR26 _ (List.mem_of_getElem? (i := 20) rfl)
theorem wd621 : Cond.code yX10_clashOf cX10_clashOf 7 (some .int) ∈ wsL_law := mR26 _ (List.mem_of_getElem? (i := 21) rfl)
theorem wd622 : Cond.methodLink RX10 211 yX10_isByLine ∈ wsL_law := mR26 _ (List.mem_of_getElem? (i := 22) rfl)
theorem wd623 : Cond.instanceMethod yX10_isByLine ∈ wsL_law := mR26 _ (List.mem_of_getElem? (i := 23) rfl)
theorem wd624 : Cond.selects RX10 yX10_isByLine yX10_isByLine ∈ wsL_law := mR27 _ (List.mem_of_getElem? (i := 0) rfl)
theorem wd625 : Cond.code yX10_isByLine cX10_isByLine 7 (some .boolean) ∈ wsL_law := mR27 _ (List.mem_of_getElem? (i := 1) rfl)
theorem wd626 : Cond.methodLink RX10 214 yX10_standsUnder ∈ wsL_law := mR27 _ (List.mem_of_getElem? (i := 2) rfl)
theorem wd627 : Cond.instanceMethod yX10_standsUnder ∈ wsL_law := mR27 _ (List.mem_of_getElem? (i := 3) rfl)
theorem wd628 : Cond.selects RX10 yX10_standsUnder yX10_standsUnder ∈ wsL_law := mR27 _ (List.mem_of_getElem? (i := 4) rfl)
theorem wd629 : Cond.code yX10_standsUnder cX10_standsUnder 4 (some .boolean) ∈ wsL_law := mR27 _ (List.mem_of_getElem? (i := 5) rfl)
theorem wd630 : Cond.methodLink RL 77 yX9_about ∈ wsL_law := mR27 _ (List.mem_of_getElem? (i := 6) rfl)
theorem wd631 : Cond.instanceMethod yX9_about ∈ wsL_law := mR27 _ (List.mem_of_getElem? (i := 7) rfl)
theorem wd632 : Cond.selects RX9 yX9_about yX9_about ∈ wsL_law := mR27 _ (List.mem_of_getElem? (i := 8) rfl)
theorem wd633 : Cond.code yX9_about cX9_about 5 (some .int) ∈ wsL_law := mR27 _ (List.mem_of_getElem? (i := 9) rfl)
theorem wd634 : Cond.methodLink RX9 157 yX1_guardCount ∈ wsL_law := mR27 _ (List.mem_of_getElem? (i := 10) rfl)
theorem wd635 : Cond.instanceMethod yX1_guardCount ∈ wsL_law := mR27 _ (List.mem_of_getElem? (i := 11) rfl)
theorem wd636 : Cond.selects RX1 yX1_guardCount yX1_guardCount ∈ wsL_law := mR27 _ (List.mem_of_getElem? (i := 12) rfl)
theorem wd637 : Cond.code yX1_guardCount cX1_guardCount 5 (some .int) ∈ wsL_law := mR27 _ (List.mem_of_getElem? (i := 13) rfl)
theorem wd638 : Cond.methodLink RX1 179 yX1_guardAt ∈ wsL_law := mR27 _ (List.mem_of_getElem? (i := 14) rfl)
theorem wd639 : Cond.instanceMethod yX1_guardAt ∈ wsL_law := mR27 _ (List.mem_of_getElem? (i := 15) rfl)
theorem wd640 : Cond.selects RX1 yX1_guardAt yX1_guardAt ∈ wsL_law := mR27 _ (List.mem_of_getElem? (i := 16) rfl)
theorem wd641 : Cond.code yX1_guardAt cX1_guardAt 5 (some (.object "PuppetCast$Part")) ∈ wsL_law := mR27 _ (List.mem_of_getElem? (i := 17) rfl)
theorem wd642 : Cond.methodLink RX1 176 yX8_guardFor ∈ wsL_law := mR27 _ (List.mem_of_getElem? (i := 18) rfl)
theorem wd643 : Cond.instanceMethod yX8_guardFor ∈ wsL_law := mR27 _ (List.mem_of_getElem? (i := 19) rfl)
theorem wd644 : Cond.selects RX8 yX8_guardFor yX8_guardFor ∈ wsL_law := mR27 _ (List.mem_of_getElem? (i := 20) rfl)
theorem wd645 : Cond.code yX8_guardFor cX8_guardFor 2 (some (.object "PuppetCast$Part")) ∈ wsL_law := mR27 _ (List.mem_of_getElem? (i := 21) rfl)
theorem wd646 : Cond.methodLink RX9 160 yX1_aboutChosen ∈ wsL_law := mR27 _ (List.mem_of_getElem? (i := 22) rfl)
theorem wd647 : Cond.instanceMethod yX1_aboutChosen ∈ wsL_law := mR27 _ (List.mem_of_getElem? (i := 23) rfl)
theorem wd648 : Cond.selects RX1 yX1_aboutChosen yX1_aboutChosen ∈ wsL_law := mR28 _ (List.mem_of_getElem? (i := 0) rfl)
theorem wd649 : Cond.code yX1_aboutChosen cX1_aboutChosen 5 (some .int) ∈ wsL_law := mR28 _ (List.mem_of_getElem? (i := 1) rfl)
theorem wd650 : Cond.fieldLink RX1 154 "PuppetCast$Choice" "part" "LPuppetCast$Part;" ∈ wsL_law := mR28 _ (List.mem_of_getElem? (i := 2) rfl)
theorem wd651 : Cond.fieldLink RX1 158 "PuppetCast$Part" "result" "I" ∈ wsL_law := mR28 _ (List.mem_of_getElem? (i := 3) rfl)
theorem wd652 : Cond.fieldLink RX1 161 "PuppetCast$Part" "reach" "I" ∈ wsL_law := mR28 _ (List.mem_of_getElem? (i := 4) rfl)
theorem wd653 : Cond.fieldLink RX1 164 "PuppetCast$Part" "size" "I" ∈ wsL_law := mR28 _ (List.mem_of_getElem? (i := 5) rfl)
theorem wd654 : Cond.fieldLink RX1 167 "PuppetCast$Choice" "bridges" "I" ∈ wsL_law := mR28 _ (List.mem_of_getElem? (i := 6) rfl)
theorem wd655 : Cond.methodLink RX1 150 yX1_weigh ∈ wsL_law := mR28 _ (List.mem_of_getElem? (i := 7) rfl)
theorem wd656 : Cond.methodLink RL 80 yX10_about ∈ wsL_law := mR28 _ (List.mem_of_getElem? (i := 8) rfl)
theorem wd657 : Cond.instanceMethod yX10_about ∈ wsL_law := mR28 _ (List.mem_of_getElem? (i := 9) rfl)
theorem wd658 : Cond.selects RX10 yX10_about yX10_about ∈ wsL_law := mR28 _ (List.mem_of_getElem? (i := 10) rfl)
theorem wd659 : Cond.code yX10_about cX10_about 4 (some .int) ∈ wsL_law := mR28 _ (List.mem_of_getElem? (i := 11) rfl)
theorem wd660 : Cond.methodLink RX10 233 yX10_aboutOf ∈ wsL_law := mR28 _ (List.mem_of_getElem? (i := 12) rfl)
theorem wd661 : Cond.instanceMethod yX10_aboutOf ∈ wsL_law := mR28 _ (List.mem_of_getElem? (i := 13) rfl)
theorem wd662 : Cond.selects RX10 yX10_aboutOf yX10_aboutOf ∈ wsL_law := mR28 _ (List.mem_of_getElem? (i := 14) rfl)
theorem wd663 : Cond.code yX10_aboutOf cX10_aboutOf 6 (some .int) ∈ wsL_law := mR28 _ (List.mem_of_getElem? (i := 15) rfl)
theorem wd664 : Cond.methodLink RX10 227 yX10_guardAt ∈ wsL_law := mR28 _ (List.mem_of_getElem? (i := 16) rfl)
theorem wd665 : Cond.instanceMethod yX10_guardAt ∈ wsL_law := mR28 _ (List.mem_of_getElem? (i := 17) rfl)
theorem wd666 : Cond.selects RX10 yX10_guardAt yX10_guardAt ∈ wsL_law := mR28 _ (List.mem_of_getElem? (i := 18) rfl)
theorem wd667 : Cond.code yX10_guardAt cX10_guardAt 6 (some .int) ∈ wsL_law := mR28 _ (List.mem_of_getElem? (i := 19) rfl)
theorem wd668 : Cond.methodLink RX10 230 yX10_bridges ∈ wsL_law := mR28 _ (List.mem_of_getElem? (i := 20) rfl)
theorem wd669 : Cond.instanceMethod yX10_bridges ∈ wsL_law := mR28 _ (List.mem_of_getElem? (i := 21) rfl)
theorem wd670 : Cond.selects RX10 yX10_bridges yX10_bridges ∈ wsL_law := mR28 _ (List.mem_of_getElem? (i := 22) rfl)
theorem wd671 : Cond.code yX10_bridges cX10_bridges 9 (some .int) ∈ wsL_law := mR28 _ (List.mem_of_getElem? (i := 23) rfl)
theorem wd672 : Cond.methodLink RL 81 yX9_above ∈ wsL_law := mR29 _ (List.mem_of_getElem? (i := 0) rfl)
theorem wd673 : Cond.instanceMethod yX9_above ∈ wsL_law := mR29 _ (List.mem_of_getElem? (i := 1) rfl)
theorem wd674 : Cond.selects RX9 yX9_above yX9_above ∈ wsL_law := mR29 _ (List.mem_of_getElem? (i := 2) rfl)
theorem wd675 : Cond.code yX9_above cX9_above 5 (some .int) ∈ wsL_law := mR29 _ (List.mem_of_getElem? (i := 3) rfl)
theorem wd676 : Cond.methodLink RX9 164 yX1_climb ∈ wsL_law := mR29 _ (List.mem_of_getElem? (i := 4) rfl)
theorem wd677 : Cond.instanceMethod yX1_climb ∈ wsL_law := mR29 _ (List.mem_of_getElem? (i := 5) rfl)
theorem wd678 : Cond.selects RX1 yX1_climb yX1_climb ∈ wsL_law := mR29 _ (List.mem_of_getElem? (i := 6) rfl)
theorem wd679 : Cond.code yX1_climb cX1_climb 6 (some .int) ∈ wsL_law := mR29 _ (List.mem_of_getElem? (i := 7) rfl)
theorem wd680 : Cond.fieldLink RX1 170 "PuppetCast$Part" "giver" "I" ∈ wsL_law := mR29 _ (List.mem_of_getElem? (i := 8) rfl)
theorem wd681 : Cond.methodLink RX1 173 yX1_bodyAbove ∈ wsL_law := mR29 _ (List.mem_of_getElem? (i := 9) rfl)
theorem wd682 : Cond.instanceMethod yX1_bodyAbove ∈ wsL_law := mR29 _ (List.mem_of_getElem? (i := 10) rfl)
theorem wd683 : Cond.selects RX1 yX1_bodyAbove yX1_bodyAbove ∈ wsL_law := mR29 _ (List.mem_of_getElem? (i := 11) rfl)
theorem wd684 : Cond.code yX1_bodyAbove cX1_bodyAbove 7 (some (.object "PuppetCast$Part")) ∈ wsL_law := mR29 _ (List.mem_of_getElem? (i := 12) rfl)
theorem wd685 : Cond.fieldLink RX1 120 "PuppetCast$Part" "isNeed" "Z" ∈ wsL_law := mR29 _ (List.mem_of_getElem? (i := 13) rfl)
theorem wd686 : Cond.methodLink RX1 126 yX3_placeOf ∈ wsL_law := mR29 _ (List.mem_of_getElem? (i := 14) rfl)
theorem wd687 : Cond.methodLink RL 84 yX10_above ∈ wsL_law := mR29 _ (List.mem_of_getElem? (i := 15) rfl)
theorem wd688 : Cond.instanceMethod yX10_above ∈ wsL_law := mR29 _ (List.mem_of_getElem? (i := 16) rfl)
theorem wd689 : Cond.selects RX10 yX10_above yX10_above ∈ wsL_law := mR29 _ (List.mem_of_getElem? (i := 17) rfl)
theorem wd690 : Cond.code yX10_above cX10_above 6 (some .int) ∈ wsL_law := mR29 _ (List.mem_of_getElem? (i := 18) rfl)
theorem wd691 : Cond.methodLink RL 85 yX9_guards ∈ wsL_law := mR29 _ (List.mem_of_getElem? (i := 19) rfl)
theorem wd692 : Cond.instanceMethod yX9_guards ∈ wsL_law := mR29 _ (List.mem_of_getElem? (i := 20) rfl)
theorem wd693 : Cond.selects RX9 yX9_guards yX9_guards ∈ wsL_law := mR29 _ (List.mem_of_getElem? (i := 21) rfl)
theorem wd694 : Cond.code yX9_guards cX9_guards 5 (some .int) ∈ wsL_law := mR29 _ (List.mem_of_getElem? (i := 22) rfl)
theorem wd695 : Cond.methodLink RX9 167 yX1_guardingTrait ∈ wsL_law := mR29 _ (List.mem_of_getElem? (i := 23) rfl)
theorem wd696 : Cond.instanceMethod yX1_guardingTrait ∈ wsL_law := mR30 _ (List.mem_of_getElem? (i := 0) rfl)
theorem wd697 : Cond.selects RX1 yX1_guardingTrait yX1_guardingTrait ∈ wsL_law := mR30 _ (List.mem_of_getElem? (i := 1) rfl)
theorem wd698 : Cond.code yX1_guardingTrait cX1_guardingTrait 6 (some .int) ∈ wsL_law := mR30 _ (List.mem_of_getElem? (i := 2) rfl)
theorem wd699 : Cond.methodLink RL 88 yX10_guards ∈ wsL_law := mR30 _ (List.mem_of_getElem? (i := 3) rfl)
theorem wd700 : Cond.instanceMethod yX10_guards ∈ wsL_law := mR30 _ (List.mem_of_getElem? (i := 4) rfl)
theorem wd701 : Cond.selects RX10 yX10_guards yX10_guards ∈ wsL_law := mR30 _ (List.mem_of_getElem? (i := 5) rfl)
theorem wd702 : Cond.code yX10_guards cX10_guards 5 (some .int) ∈ wsL_law := mR30 _ (List.mem_of_getElem? (i := 6) rfl)
theorem wd703 : Cond.methodLink RL 89 yX9_isA ∈ wsL_law := mR30 _ (List.mem_of_getElem? (i := 7) rfl)
theorem wd704 : Cond.instanceMethod yX9_isA ∈ wsL_law := mR30 _ (List.mem_of_getElem? (i := 8) rfl)
theorem wd705 : Cond.selects RX9 yX9_isA yX9_isA ∈ wsL_law := mR30 _ (List.mem_of_getElem? (i := 9) rfl)
theorem wd706 : Cond.code yX9_isA cX9_isA 4 (some .int) ∈ wsL_law := mR30 _ (List.mem_of_getElem? (i := 10) rfl)
theorem wd707 : Cond.methodLink RX9 170 yX3_has ∈ wsL_law := mR30 _ (List.mem_of_getElem? (i := 11) rfl)
theorem wd708 : Cond.methodLink RL 92 yX10_isA ∈ wsL_law := mR30 _ (List.mem_of_getElem? (i := 12) rfl)
theorem wd709 : Cond.instanceMethod yX10_isA ∈ wsL_law := mR30 _ (List.mem_of_getElem? (i := 13) rfl)
theorem wd710 : Cond.selects RX10 yX10_isA yX10_isA ∈ wsL_law := mR30 _ (List.mem_of_getElem? (i := 14) rfl)
theorem wd711 : Cond.code yX10_isA cX10_isA 3 (some .int) ∈ wsL_law := mR30 _ (List.mem_of_getElem? (i := 15) rfl)
theorem wd712 : Cond.methodLink RL 95 yX9_play ∈ wsL_law := mR30 _ (List.mem_of_getElem? (i := 16) rfl)
theorem wd713 : Cond.instanceMethod yX9_play ∈ wsL_law := mR30 _ (List.mem_of_getElem? (i := 17) rfl)
theorem wd714 : Cond.selects RX9 yX9_play yX9_play ∈ wsL_law := mR30 _ (List.mem_of_getElem? (i := 18) rfl)
theorem wd715 : Cond.code yX9_play cX9_play 6 (some .int) ∈ wsL_law := mR30 _ (List.mem_of_getElem? (i := 19) rfl)
theorem wd716 : Cond.methodLink RX9 173 yX6_perform ∈ wsL_law := mR30 _ (List.mem_of_getElem? (i := 20) rfl)
theorem wd717 : Cond.instanceMethod yX6_perform ∈ wsL_law := mR30 _ (List.mem_of_getElem? (i := 21) rfl)
theorem wd718 : Cond.selects RX6 yX6_perform yX6_perform ∈ wsL_law := mR30 _ (List.mem_of_getElem? (i := 22) rfl)
theorem wd719 : Cond.code yX6_perform cX6_perform 7 (some .int) ∈ wsL_law := mR30 _ (List.mem_of_getElem? (i := 23) rfl)
theorem wd720 : Cond.fieldLink RX6 22 "PuppetCast$Tape" "size" "I" ∈ wsL_law := mR31 _ (List.mem_of_getElem? (i := 0) rfl)
theorem wd721 : Cond.fieldLink RX6 26 "PuppetCast$Stage" "failure" "I" ∈ wsL_law := mR31 _ (List.mem_of_getElem? (i := 1) rfl)
theorem wd722 : Cond.fieldLink RX6 29 "PuppetCast$Stage" "opsDone" "I" ∈ wsL_law := mR31 _ (List.mem_of_getElem? (i := 2) rfl)
theorem wd723 : Cond.fieldLink RX6 32 "PuppetCast$Stage" "mostOpen" "I" ∈ wsL_law := mR31 _ (List.mem_of_getElem? (i := 3) rfl)
theorem wd724 : Cond.fieldLink RX6 39 "PuppetCast$Stage" "outcome" "J" ∈ wsL_law := mR31 _ (List.mem_of_getElem? (i := 4) rfl)
theorem wd725 : Cond.methodLink RX6 35 yX6_callAct ∈ wsL_law := mR31 _ (List.mem_of_getElem? (i := 5) rfl)
theorem wd726 : Cond.instanceMethod yX6_callAct ∈ wsL_law := mR31 _ (List.mem_of_getElem? (i := 6) rfl)
theorem wd727 : Cond.selects RX6 yX6_callAct yX6_callAct ∈ wsL_law := mR31 _ (List.mem_of_getElem? (i := 7) rfl)
theorem wd728 : Cond.code yX6_callAct cX6_callAct 9 (some .long) ∈ wsL_law := mR31 _ (List.mem_of_getElem? (i := 8) rfl)
theorem wd729 : Cond.fieldLink RX6 52 "PuppetCast$Choice" "part" "LPuppetCast$Part;" ∈ wsL_law := mR31 _ (List.mem_of_getElem? (i := 9) rfl)
theorem wd730 : Cond.fieldLink RX6 58 "PuppetCast$Choice" "clash" "I" ∈ wsL_law := mR31 _ (List.mem_of_getElem? (i := 10) rfl)
theorem wd731 : Cond.fieldLink RX6 65 "PuppetCast$Part" "reach" "I" ∈ wsL_law := mR31 _ (List.mem_of_getElem? (i := 11) rfl)
theorem wd732 : Cond.methodLink RX6 46 yX1_weigh ∈ wsL_law := mR31 _ (List.mem_of_getElem? (i := 12) rfl)
theorem wd733 : Cond.methodLink RX6 61 yX6_fail ∈ wsL_law := mR31 _ (List.mem_of_getElem? (i := 13) rfl)
theorem wd734 : Cond.instanceMethod yX6_fail ∈ wsL_law := mR31 _ (List.mem_of_getElem? (i := 14) rfl)
theorem wd735 : Cond.selects RX6 yX6_fail yX6_fail ∈ wsL_law := mR31 _ (List.mem_of_getElem? (i := 15) rfl)
theorem wd736 : Cond.code yX6_fail cX6_fail 2 (some .long) ∈ wsL_law := mR31 _ (List.mem_of_getElem? (i := 16) rfl)
theorem wd737 : Cond.methodLink RX6 70 yX6_isInReach ∈ wsL_law := mR31 _ (List.mem_of_getElem? (i := 17) rfl)
theorem wd738 : Cond.static yX6_isInReach ∈ wsL_law := mR31 _ (List.mem_of_getElem? (i := 18) rfl)
theorem wd739 : Cond.code yX6_isInReach cX6_isInReach 3 (some .boolean) ∈ wsL_law := mR31 _ (List.mem_of_getElem? (i := 19) rfl)
theorem wd740 : Cond.fieldLink RX6 78 "PuppetCast$Figure" "number" "I" ∈ wsL_law := mR31 _ (List.mem_of_getElem? (i := 20) rfl)
theorem wd741 : Cond.fieldLink RX6 83 "PuppetCast$Figure" "troupe" "I" ∈ wsL_law := mR31 _ (List.mem_of_getElem? (i := 21) rfl)
theorem wd742 : Cond.methodLink RX6 74 yX6_goWithin ∈ wsL_law := mR31 _ (List.mem_of_getElem? (i := 22) rfl)
theorem wd743 : Cond.instanceMethod yX6_goWithin ∈ wsL_law := mR31 _ (List.mem_of_getElem? (i := 23) rfl)
theorem wd744 : Cond.selects RX6 yX6_goWithin yX6_goWithin ∈ wsL_law := mR32 _ (List.mem_of_getElem? (i := 0) rfl)
theorem wd745 : Cond.code yX6_doOpening cX6_doOpening 14 (some .long) ∈ wsL_law := mR32 _ (List.mem_of_getElem? (i := 1) rfl)
theorem wd746 : Cond.methodLink RX6 144 Lib.Math.max.name ∈ wsL_law := mR32 _ (List.mem_of_getElem? (i := 2) rfl)
theorem wd747 : Cond.static Lib.Math.max.name ∈ wsL_law := mR32 _ (List.mem_of_getElem? (i := 3) rfl)
theorem wd748 : Cond.initialized "java/lang/Math" ∈ wsL_law := mR32 _ (List.mem_of_getElem? (i := 4) rfl)
theorem wd749 : Cond.code Lib.Math.max.name Lib.Math.max.code 2 (some .int) ∈ wsL_law := mR32 _ (List.mem_of_getElem? (i := 5) rfl)
theorem wd750 : Cond.methodLink RX6 127 yX5_firstAt ∈ wsL_law := mR32 _ (List.mem_of_getElem? (i := 6) rfl)
theorem wd751 : Cond.instanceMethod yX5_firstAt ∈ wsL_law := mR32 _ (List.mem_of_getElem? (i := 7) rfl)
theorem wd752 : Cond.selects RX5 yX5_firstAt yX5_firstAt ∈ wsL_law := mR32 _ (List.mem_of_getElem? (i := 8) rfl)
theorem wd753 : Cond.code yX5_firstAt cX5_firstAt 2 (some .int) ∈ wsL_law := mR32 _ (List.mem_of_getElem? (i := 9) rfl)
theorem wd754 : Cond.methodLink RX6 111 yX5_kindAt ∈ wsL_law := mR32 _ (List.mem_of_getElem? (i := 10) rfl)
theorem wd755 : Cond.instanceMethod yX5_kindAt ∈ wsL_law := mR32 _ (List.mem_of_getElem? (i := 11) rfl)
theorem wd756 : Cond.selects RX5 yX5_kindAt yX5_kindAt ∈ wsL_law := mR32 _ (List.mem_of_getElem? (i := 12) rfl)
theorem wd757 : Cond.code yX5_kindAt cX5_kindAt 2 (some .int) ∈ wsL_law := mR32 _ (List.mem_of_getElem? (i := 13) rfl)
theorem wd758 : Cond.methodLink RX6 150 yX6_takeFailureAway ∈ wsL_law := mR32 _ (List.mem_of_getElem? (i := 14) rfl)
theorem wd759 : Cond.instanceMethod yX6_takeFailureAway ∈ wsL_law := mR32 _ (List.mem_of_getElem? (i := 15) rfl)
theorem wd760 : Cond.selects RX6 yX6_takeFailureAway yX6_takeFailureAway ∈ wsL_law := mR32 _ (List.mem_of_getElem? (i := 16) rfl)
theorem wd761 : Cond.code yX6_takeFailureAway cX6_takeFailureAway 5 (some .long) ∈ wsL_law := mR32 _ (List.mem_of_getElem? (i := 17) rfl)
theorem wd762 : Cond.fieldLink RX6 43 "PuppetCast$Stage" "thrown" "I" ∈ wsL_law := mR32 _ (List.mem_of_getElem? (i := 18) rfl)
theorem wd763 : Cond.methodLink RX6 154 yX1_figureAt ∈ wsL_law := mR32 _ (List.mem_of_getElem? (i := 19) rfl)
theorem wd764 : Cond.methodLink RX6 158 yX5_secondAt ∈ wsL_law := mR32 _ (List.mem_of_getElem? (i := 20) rfl)
theorem wd765 : Cond.instanceMethod yX5_secondAt ∈ wsL_law := mR32 _ (List.mem_of_getElem? (i := 21) rfl)
theorem wd766 : Cond.selects RX5 yX5_secondAt yX5_secondAt ∈ wsL_law := mR32 _ (List.mem_of_getElem? (i := 22) rfl)
theorem wd767 : Cond.code yX5_secondAt cX5_secondAt 2 (some .int) ∈ wsL_law := mR32 _ (List.mem_of_getElem? (i := 23) rfl)
theorem wd768 : Cond.methodLink RX6 161 yX1_bodyBy ∈ wsL_law := mR33 _ (List.mem_of_getElem? (i := 0) rfl)
theorem wd769 : Cond.instanceMethod yX1_bodyBy ∈ wsL_law := mR33 _ (List.mem_of_getElem? (i := 1) rfl)
theorem wd770 : Cond.selects RX1 yX1_bodyBy yX1_bodyBy ∈ wsL_law := mR33 _ (List.mem_of_getElem? (i := 2) rfl)
theorem wd771 : Cond.code yX1_bodyBy cX1_bodyBy 5 (some (.object "PuppetCast$Part")) ∈ wsL_law := mR33 _ (List.mem_of_getElem? (i := 3) rfl)
theorem wd772 : Cond.methodLink RX1 113 yX3_has ∈ wsL_law := mR33 _ (List.mem_of_getElem? (i := 4) rfl)
theorem wd773 : Cond.methodLink RX6 97 yX6_doOps ∈ wsL_law := mR33 _ (List.mem_of_getElem? (i := 5) rfl)
theorem wd774 : Cond.instanceMethod yX6_doOps ∈ wsL_law := mR33 _ (List.mem_of_getElem? (i := 6) rfl)
theorem wd775 : Cond.selects RX6 yX6_doOps yX6_doOps ∈ wsL_law := mR33 _ (List.mem_of_getElem? (i := 7) rfl)
theorem wd776 : Cond.methodLink RX6 164 yX6_partAbove ∈ wsL_law := mR33 _ (List.mem_of_getElem? (i := 8) rfl)
theorem wd777 : Cond.instanceMethod yX6_partAbove ∈ wsL_law := mR33 _ (List.mem_of_getElem? (i := 9) rfl)
theorem wd778 : Cond.selects RX6 yX6_partAbove yX6_partAbove ∈ wsL_law := mR33 _ (List.mem_of_getElem? (i := 10) rfl)
theorem wd779 : Cond.code yX6_partAbove cX6_partAbove 4 (some (.object "PuppetCast$Part")) ∈ wsL_law := mR33 _ (List.mem_of_getElem? (i := 11) rfl)
theorem wd780 : Cond.fieldLink RX6 130 "PuppetCast$Part" "giver" "I" ∈ wsL_law := mR33 _ (List.mem_of_getElem? (i := 12) rfl)
theorem wd781 : Cond.methodLink RX6 168 yX5_isGuard ∈ wsL_law := mR33 _ (List.mem_of_getElem? (i := 13) rfl)
theorem wd782 : Cond.instanceMethod yX5_isGuard ∈ wsL_law := mR33 _ (List.mem_of_getElem? (i := 14) rfl)
theorem wd783 : Cond.selects RX5 yX5_isGuard yX5_isGuard ∈ wsL_law := mR33 _ (List.mem_of_getElem? (i := 15) rfl)
theorem wd784 : Cond.code yX5_isGuard cX5_isGuard 1 (some .boolean) ∈ wsL_law := mR33 _ (List.mem_of_getElem? (i := 16) rfl)
theorem wd785 : Cond.methodLink RX6 172 yX1_bodyAbove ∈ wsL_law := mR33 _ (List.mem_of_getElem? (i := 17) rfl)
theorem wd786 : Cond.code yX6_doOps cX6_doOps 13 (some .long) ∈ wsL_law := mR33 _ (List.mem_of_getElem? (i := 18) rfl)
theorem wd787 : Cond.fieldLink RX6 110 "PuppetCast$Part" "size" "I" ∈ wsL_law := mR33 _ (List.mem_of_getElem? (i := 19) rfl)
theorem wd788 : Cond.methodLink RX6 115 yX5_opens ∈ wsL_law := mR33 _ (List.mem_of_getElem? (i := 20) rfl)
theorem wd789 : Cond.instanceMethod yX5_opens ∈ wsL_law := mR33 _ (List.mem_of_getElem? (i := 21) rfl)
theorem wd790 : Cond.selects RX5 yX5_opens yX5_opens ∈ wsL_law := mR33 _ (List.mem_of_getElem? (i := 22) rfl)
theorem wd791 : Cond.code yX5_opens cX5_opens 2 (some .boolean) ∈ wsL_law := mR33 _ (List.mem_of_getElem? (i := 23) rfl)
theorem wd792 : Cond.methodLink RX6 119 yX6_doOpening ∈ wsL_law := mR34 _ (List.mem_of_getElem? (i := 0) rfl)
theorem wd793 : Cond.instanceMethod yX6_doOpening ∈ wsL_law := mR34 _ (List.mem_of_getElem? (i := 1) rfl)
theorem wd794 : Cond.selects RX6 yX6_doOpening yX6_doOpening ∈ wsL_law := mR34 _ (List.mem_of_getElem? (i := 2) rfl)
theorem wd795 : Cond.methodLink RX6 123 yX6_doPlain ∈ wsL_law := mR34 _ (List.mem_of_getElem? (i := 3) rfl)
theorem wd796 : Cond.instanceMethod yX6_doPlain ∈ wsL_law := mR34 _ (List.mem_of_getElem? (i := 4) rfl)
theorem wd797 : Cond.selects RX6 yX6_doPlain yX6_doPlain ∈ wsL_law := mR34 _ (List.mem_of_getElem? (i := 5) rfl)
theorem wd798 : Cond.code yX6_doPlain cX6_doPlain 8 (some .long) ∈ wsL_law := mR34 _ (List.mem_of_getElem? (i := 6) rfl)
theorem wd799 : Cond.methodLink RX6 133 yX7_add ∈ wsL_law := mR34 _ (List.mem_of_getElem? (i := 7) rfl)
theorem wd800 : Cond.instanceMethod yX7_add ∈ wsL_law := mR34 _ (List.mem_of_getElem? (i := 8) rfl)
theorem wd801 : Cond.selects RX7 yX7_add yX7_add ∈ wsL_law := mR34 _ (List.mem_of_getElem? (i := 9) rfl)
theorem wd802 : Cond.code yX7_add cX7_add 8 none ∈ wsL_law := mR34 _ (List.mem_of_getElem? (i := 10) rfl)
theorem wd803 : Cond.fieldLink RX7 15 "PuppetCast$Tape" "size" "I" ∈ wsL_law := mR34 _ (List.mem_of_getElem? (i := 11) rfl)
theorem wd804 : Cond.methodLink RX6 137 yX2_putMood ∈ wsL_law := mR34 _ (List.mem_of_getElem? (i := 12) rfl)
theorem wd805 : Cond.instanceMethod yX2_putMood ∈ wsL_law := mR34 _ (List.mem_of_getElem? (i := 13) rfl)
theorem wd806 : Cond.selects RX2 yX2_putMood yX2_putMood ∈ wsL_law := mR34 _ (List.mem_of_getElem? (i := 14) rfl)
theorem wd807 : Cond.code yX2_putMood cX2_putMood 4 none ∈ wsL_law := mR34 _ (List.mem_of_getElem? (i := 15) rfl)
theorem wd808 : Cond.methodLink RX6 141 yX2_moodAt ∈ wsL_law := mR34 _ (List.mem_of_getElem? (i := 16) rfl)
theorem wd809 : Cond.instanceMethod yX2_moodAt ∈ wsL_law := mR34 _ (List.mem_of_getElem? (i := 17) rfl)
theorem wd810 : Cond.selects RX2 yX2_moodAt yX2_moodAt ∈ wsL_law := mR34 _ (List.mem_of_getElem? (i := 18) rfl)
theorem wd811 : Cond.code yX2_moodAt cX2_moodAt 2 (some .long) ∈ wsL_law := mR34 _ (List.mem_of_getElem? (i := 19) rfl)
theorem wd812 : Cond.code yX6_goWithin cX6_goWithin 13 (some .long) ∈ wsL_law := mR34 _ (List.mem_of_getElem? (i := 20) rfl)
theorem wd813 : Cond.fieldLink RX6 94 "PuppetCast$Part" "sort" "I" ∈ wsL_law := mR34 _ (List.mem_of_getElem? (i := 21) rfl)
theorem wd814 : Cond.fieldLink RX6 101 "PuppetCast$Figure" "line" "LPuppetCast$Line;" ∈ wsL_law := mR34 _ (List.mem_of_getElem? (i := 22) rfl)
theorem wd815 : Cond.fieldLink RX6 105 "PuppetCast$Line" "length" "I" ∈ wsL_law := mR34 _ (List.mem_of_getElem? (i := 23) rfl)
theorem wd816 : Cond.methodLink RX6 86 yX1_insteadPlace ∈ wsL_law := mR35 _ (List.mem_of_getElem? (i := 0) rfl)
theorem wd817 : Cond.instanceMethod yX1_insteadPlace ∈ wsL_law := mR35 _ (List.mem_of_getElem? (i := 1) rfl)
theorem wd818 : Cond.selects RX1 yX1_insteadPlace yX1_insteadPlace ∈ wsL_law := mR35 _ (List.mem_of_getElem? (i := 2) rfl)
theorem wd819 : Cond.code yX1_insteadPlace cX1_insteadPlace 6 (some .int) ∈ wsL_law := mR35 _ (List.mem_of_getElem? (i := 3) rfl)
theorem wd820 : Cond.fieldLink RX1 182 "PuppetCast$Part" "sort" "I" ∈ wsL_law := mR35 _ (List.mem_of_getElem? (i := 4) rfl)
theorem wd821 : Cond.methodLink RX6 90 yX1_guardAt ∈ wsL_law := mR35 _ (List.mem_of_getElem? (i := 5) rfl)
theorem wd822 : Cond.methodLink RL 99 yX10_play ∈ wsL_law := mR35 _ (List.mem_of_getElem? (i := 6) rfl)
theorem wd823 : Cond.instanceMethod yX10_play ∈ wsL_law := mR35 _ (List.mem_of_getElem? (i := 7) rfl)
theorem wd824 : Cond.selects RX10 yX10_play yX10_play ∈ wsL_law := mR35 _ (List.mem_of_getElem? (i := 8) rfl)
theorem wd825 : Cond.code yX10_play cX10_play 7 (some .int) ∈ wsL_law := mR35 _ (List.mem_of_getElem? (i := 9) rfl)
theorem wd826 : Cond.fieldLink RX10 266 "PuppetCastModel" "marks" "I" ∈ wsL_law := mR35 _ (List.mem_of_getElem? (i := 10) rfl)
theorem wd827 : Cond.fieldLink RX10 281 "PuppetCastModel" "did" "I" ∈ wsL_law := mR35 _ (List.mem_of_getElem? (i := 11) rfl)
theorem wd828 : Cond.fieldLink RX10 243 "PuppetCastModel" "open" "I" ∈ wsL_law := mR35 _ (List.mem_of_getElem? (i := 12) rfl)
theorem wd829 : Cond.fieldLink RX10 272 "PuppetCastModel" "most" "I" ∈ wsL_law := mR35 _ (List.mem_of_getElem? (i := 13) rfl)
theorem wd830 : Cond.fieldLink RX10 236 "PuppetCastModel" "deep" "I" ∈ wsL_law := mR35 _ (List.mem_of_getElem? (i := 14) rfl)
theorem wd831 : Cond.fieldLink RX10 292 "PuppetCastModel" "told" "J" ∈ wsL_law := mR35 _ (List.mem_of_getElem? (i := 15) rfl)
theorem wd832 : Cond.fieldLink RX10 257 "PuppetCastModel" "by" "I" ∈ wsL_law := mR35 _ (List.mem_of_getElem? (i := 16) rfl)
theorem wd833 : Cond.fieldLink RX10 262 "PuppetCastModel" "value" "J" ∈ wsL_law := mR35 _ (List.mem_of_getElem? (i := 17) rfl)
theorem wd834 : Cond.methodLink RX10 275 yX10_against ∈ wsL_law := mR35 _ (List.mem_of_getElem? (i := 18) rfl)
theorem wd835 : Cond.instanceMethod yX10_against ∈ wsL_law := mR35 _ (List.mem_of_getElem? (i := 19) rfl)
theorem wd836 : Cond.selects RX10 yX10_against yX10_against ∈ wsL_law := mR35 _ (List.mem_of_getElem? (i := 20) rfl)
theorem wd837 : Cond.code yX10_against cX10_against 6 (some .int) ∈ wsL_law := mR35 _ (List.mem_of_getElem? (i := 21) rfl)
theorem wd838 : Cond.methodLink RX10 253 yX10_pushLayer ∈ wsL_law := mR35 _ (List.mem_of_getElem? (i := 22) rfl)
theorem wd839 : Cond.instanceMethod yX10_pushLayer ∈ wsL_law := mR35 _ (List.mem_of_getElem? (i := 23) rfl)
theorem wd840 : Cond.selects RX10 yX10_pushLayer yX10_pushLayer ∈ wsL_law := mR36 _ (List.mem_of_getElem? (i := 0) rfl)
theorem wd841 : Cond.code yX10_pushLayer cX10_pushLayer 5 none ∈ wsL_law := mR36 _ (List.mem_of_getElem? (i := 1) rfl)
theorem wd842 : Cond.methodLink RX10 239 yX10_pushes ∈ wsL_law := mR36 _ (List.mem_of_getElem? (i := 2) rfl)
theorem wd843 : Cond.instanceMethod yX10_pushes ∈ wsL_law := mR36 _ (List.mem_of_getElem? (i := 3) rfl)
theorem wd844 : Cond.selects RX10 yX10_pushes yX10_pushes ∈ wsL_law := mR36 _ (List.mem_of_getElem? (i := 4) rfl)
theorem wd845 : Cond.code yX10_pushes cX10_pushes 5 none ∈ wsL_law := mR36 _ (List.mem_of_getElem? (i := 5) rfl)
theorem wd846 : Cond.methodLink RX10 295 yX10_does ∈ wsL_law := mR36 _ (List.mem_of_getElem? (i := 6) rfl)
theorem wd847 : Cond.instanceMethod yX10_does ∈ wsL_law := mR36 _ (List.mem_of_getElem? (i := 7) rfl)
theorem wd848 : Cond.selects RX10 yX10_does yX10_does ∈ wsL_law := mR36 _ (List.mem_of_getElem? (i := 8) rfl)
theorem wd849 : Cond.code yX10_does cX10_does 5 (some .int) ∈ wsL_law := mR36 _ (List.mem_of_getElem? (i := 9) rfl)
theorem wd850 : Cond.methodLink RX10 246 yX10_pops ∈ wsL_law := mR36 _ (List.mem_of_getElem? (i := 10) rfl)
theorem wd851 : Cond.instanceMethod yX10_pops ∈ wsL_law := mR36 _ (List.mem_of_getElem? (i := 11) rfl)
theorem wd852 : Cond.selects RX10 yX10_pops yX10_pops ∈ wsL_law := mR36 _ (List.mem_of_getElem? (i := 12) rfl)
theorem wd853 : Cond.code yX10_pops cX10_pops 1 none ∈ wsL_law := mR36 _ (List.mem_of_getElem? (i := 13) rfl)
theorem wd854 : Cond.methodLink RX10 269 yX10_fails ∈ wsL_law := mR36 _ (List.mem_of_getElem? (i := 14) rfl)
theorem wd855 : Cond.instanceMethod yX10_fails ∈ wsL_law := mR36 _ (List.mem_of_getElem? (i := 15) rfl)
theorem wd856 : Cond.selects RX10 yX10_fails yX10_fails ∈ wsL_law := mR36 _ (List.mem_of_getElem? (i := 16) rfl)
theorem wd857 : Cond.code yX10_fails cX10_fails 3 (some .int) ∈ wsL_law := mR36 _ (List.mem_of_getElem? (i := 17) rfl)
theorem wd858 : Cond.constantLong RX10 260 (-10) ∈ wsL_law := mR36 _ (List.mem_of_getElem? (i := 18) rfl)
theorem wd859 : Cond.methodLink RX10 284 yX10_lays ∈ wsL_law := mR36 _ (List.mem_of_getElem? (i := 19) rfl)
theorem wd860 : Cond.instanceMethod yX10_lays ∈ wsL_law := mR36 _ (List.mem_of_getElem? (i := 20) rfl)
theorem wd861 : Cond.selects RX10 yX10_lays yX10_lays ∈ wsL_law := mR36 _ (List.mem_of_getElem? (i := 21) rfl)
theorem wd862 : Cond.code yX10_lays cX10_lays 3 none ∈ wsL_law := mR36 _ (List.mem_of_getElem? (i := 22) rfl)
theorem wd863 : Cond.methodLink RX10 278 yX10_isGuard ∈ wsL_law := mR36 _ (List.mem_of_getElem? (i := 23) rfl)
theorem wd864 : Cond.instanceMethod yX10_isGuard ∈ wsL_law := mR37 _ (List.mem_of_getElem? (i := 0) rfl)
theorem wd865 : Cond.selects RX10 yX10_isGuard yX10_isGuard ∈ wsL_law := mR37 _ (List.mem_of_getElem? (i := 1) rfl)
theorem wd866 : Cond.code yX10_isGuard cX10_isGuard 2 (some .boolean) ∈ wsL_law := mR37 _ (List.mem_of_getElem? (i := 2) rfl)
theorem wd867 : Cond.methodLink RX10 288 yX10_opens ∈ wsL_law := mR37 _ (List.mem_of_getElem? (i := 3) rfl)
theorem wd868 : Cond.instanceMethod yX10_opens ∈ wsL_law := mR37 _ (List.mem_of_getElem? (i := 4) rfl)
theorem wd869 : Cond.selects RX10 yX10_opens yX10_opens ∈ wsL_law := mR37 _ (List.mem_of_getElem? (i := 5) rfl)
theorem wd870 : Cond.code yX10_opens cX10_opens 10 (some .int) ∈ wsL_law := mR37 _ (List.mem_of_getElem? (i := 6) rfl)
theorem wd871 : Cond.methodLink RX10 249 yX10_pushOps ∈ wsL_law := mR37 _ (List.mem_of_getElem? (i := 7) rfl)
theorem wd872 : Cond.instanceMethod yX10_pushOps ∈ wsL_law := mR37 _ (List.mem_of_getElem? (i := 8) rfl)
theorem wd873 : Cond.selects RX10 yX10_pushOps yX10_pushOps ∈ wsL_law := mR37 _ (List.mem_of_getElem? (i := 9) rfl)
theorem wd874 : Cond.code yX10_pushOps cX10_pushOps 7 none ∈ wsL_law := mR37 _ (List.mem_of_getElem? (i := 10) rfl)
theorem wd875 : Cond.methodLink RX10 298 yX10_around ∈ wsL_law := mR37 _ (List.mem_of_getElem? (i := 11) rfl)
theorem wd876 : Cond.instanceMethod yX10_around ∈ wsL_law := mR37 _ (List.mem_of_getElem? (i := 12) rfl)
theorem wd877 : Cond.selects RX10 yX10_around yX10_around ∈ wsL_law := mR37 _ (List.mem_of_getElem? (i := 13) rfl)
theorem wd878 : Cond.code yX10_around cX10_around 7 none ∈ wsL_law := mR37 _ (List.mem_of_getElem? (i := 14) rfl)
theorem wd879 : Cond.methodLink RL 100 yX9_told ∈ wsL_law := mR37 _ (List.mem_of_getElem? (i := 15) rfl)
theorem wd880 : Cond.instanceMethod yX9_told ∈ wsL_law := mR37 _ (List.mem_of_getElem? (i := 16) rfl)
theorem wd881 : Cond.selects RX9 yX9_told yX9_told ∈ wsL_law := mR37 _ (List.mem_of_getElem? (i := 17) rfl)
theorem wd882 : Cond.code yX9_told cX9_told 2 (some .long) ∈ wsL_law := mR37 _ (List.mem_of_getElem? (i := 18) rfl)
theorem wd883 : Cond.methodLink RX9 177 yX6_tellingOf ∈ wsL_law := mR37 _ (List.mem_of_getElem? (i := 19) rfl)
theorem wd884 : Cond.instanceMethod yX6_tellingOf ∈ wsL_law := mR37 _ (List.mem_of_getElem? (i := 20) rfl)
theorem wd885 : Cond.selects RX6 yX6_tellingOf yX6_tellingOf ∈ wsL_law := mR37 _ (List.mem_of_getElem? (i := 21) rfl)
theorem wd886 : Cond.code yX6_tellingOf cX6_tellingOf 2 (some .long) ∈ wsL_law := mR37 _ (List.mem_of_getElem? (i := 22) rfl)
theorem wd887 : Cond.methodLink RL 104 yX10_told ∈ wsL_law := mR37 _ (List.mem_of_getElem? (i := 23) rfl)
theorem wd888 : Cond.instanceMethod yX10_told ∈ wsL_law := mR38 _ (List.mem_of_getElem? (i := 0) rfl)
theorem wd889 : Cond.selects RX10 yX10_told yX10_told ∈ wsL_law := mR38 _ (List.mem_of_getElem? (i := 1) rfl)
theorem wd890 : Cond.code yX10_told cX10_told 2 (some .long) ∈ wsL_law := mR38 _ (List.mem_of_getElem? (i := 2) rfl)
theorem wd891 : Cond.methodLink RL 105 yX9_marks ∈ wsL_law := mR38 _ (List.mem_of_getElem? (i := 3) rfl)
theorem wd892 : Cond.instanceMethod yX9_marks ∈ wsL_law := mR38 _ (List.mem_of_getElem? (i := 4) rfl)
theorem wd893 : Cond.selects RX9 yX9_marks yX9_marks ∈ wsL_law := mR38 _ (List.mem_of_getElem? (i := 5) rfl)
theorem wd894 : Cond.code yX9_marks cX9_marks 1 (some .int) ∈ wsL_law := mR38 _ (List.mem_of_getElem? (i := 6) rfl)
theorem wd895 : Cond.fieldLink RX9 181 "PuppetCast$Stage" "tape" "LPuppetCast$Tape;" ∈ wsL_law := mR38 _ (List.mem_of_getElem? (i := 7) rfl)
theorem wd896 : Cond.fieldLink RX9 185 "PuppetCast$Tape" "size" "I" ∈ wsL_law := mR38 _ (List.mem_of_getElem? (i := 8) rfl)
theorem wd897 : Cond.methodLink RL 109 yX10_marks ∈ wsL_law := mR38 _ (List.mem_of_getElem? (i := 9) rfl)
theorem wd898 : Cond.instanceMethod yX10_marks ∈ wsL_law := mR38 _ (List.mem_of_getElem? (i := 10) rfl)
theorem wd899 : Cond.selects RX10 yX10_marks yX10_marks ∈ wsL_law := mR38 _ (List.mem_of_getElem? (i := 11) rfl)
theorem wd900 : Cond.code yX10_marks cX10_marks 1 (some .int) ∈ wsL_law := mR38 _ (List.mem_of_getElem? (i := 12) rfl)
theorem wd901 : Cond.methodLink RL 110 yX9_mark ∈ wsL_law := mR38 _ (List.mem_of_getElem? (i := 13) rfl)
theorem wd902 : Cond.instanceMethod yX9_mark ∈ wsL_law := mR38 _ (List.mem_of_getElem? (i := 14) rfl)
theorem wd903 : Cond.selects RX9 yX9_mark yX9_mark ∈ wsL_law := mR38 _ (List.mem_of_getElem? (i := 15) rfl)
theorem wd904 : Cond.code yX9_mark cX9_mark 3 (some .long) ∈ wsL_law := mR38 _ (List.mem_of_getElem? (i := 16) rfl)
theorem wd905 : Cond.methodLink RX9 188 yX7_cell ∈ wsL_law := mR38 _ (List.mem_of_getElem? (i := 17) rfl)
theorem wd906 : Cond.instanceMethod yX7_cell ∈ wsL_law := mR38 _ (List.mem_of_getElem? (i := 18) rfl)
theorem wd907 : Cond.selects RX7 yX7_cell yX7_cell ∈ wsL_law := mR38 _ (List.mem_of_getElem? (i := 19) rfl)
theorem wd908 : Cond.code yX7_cell cX7_cell 3 (some .long) ∈ wsL_law := mR38 _ (List.mem_of_getElem? (i := 20) rfl)
theorem wd909 : Cond.methodLink RL 114 yX10_mark ∈ wsL_law := mR38 _ (List.mem_of_getElem? (i := 21) rfl)
theorem wd910 : Cond.instanceMethod yX10_mark ∈ wsL_law := mR38 _ (List.mem_of_getElem? (i := 22) rfl)
theorem wd911 : Cond.selects RX10 yX10_mark yX10_mark ∈ wsL_law := mR38 _ (List.mem_of_getElem? (i := 23) rfl)
theorem wd912 : Cond.code yX10_mark cX10_mark 3 (some .long) ∈ wsL_law := mR39 _ (List.mem_of_getElem? (i := 0) rfl)
theorem wd913 : Cond.methodLink RL 115 yX9_mood ∈ wsL_law := mR39 _ (List.mem_of_getElem? (i := 1) rfl)
theorem wd914 : Cond.instanceMethod yX9_mood ∈ wsL_law := mR39 _ (List.mem_of_getElem? (i := 2) rfl)
theorem wd915 : Cond.selects RX9 yX9_mood yX9_mood ∈ wsL_law := mR39 _ (List.mem_of_getElem? (i := 3) rfl)
theorem wd916 : Cond.code yX9_mood cX9_mood 4 (some .long) ∈ wsL_law := mR39 _ (List.mem_of_getElem? (i := 4) rfl)
theorem wd917 : Cond.methodLink RX9 192 yX2_moodAt ∈ wsL_law := mR39 _ (List.mem_of_getElem? (i := 5) rfl)
theorem wd918 : Cond.methodLink RL 118 yX10_mood ∈ wsL_law := mR39 _ (List.mem_of_getElem? (i := 6) rfl)
theorem wd919 : Cond.instanceMethod yX10_mood ∈ wsL_law := mR39 _ (List.mem_of_getElem? (i := 7) rfl)
theorem wd920 : Cond.selects RX10 yX10_mood yX10_mood ∈ wsL_law := mR39 _ (List.mem_of_getElem? (i := 8) rfl)
theorem wd921 : Cond.code yX10_mood cX10_mood 3 (some .long) ∈ wsL_law := mR39 _ (List.mem_of_getElem? (i := 9) rfl)
theorem wd922 : Cond.methodLink RL 119 yX9_setMood ∈ wsL_law := mR39 _ (List.mem_of_getElem? (i := 10) rfl)
theorem wd923 : Cond.instanceMethod yX9_setMood ∈ wsL_law := mR39 _ (List.mem_of_getElem? (i := 11) rfl)
theorem wd924 : Cond.selects RX9 yX9_setMood yX9_setMood ∈ wsL_law := mR39 _ (List.mem_of_getElem? (i := 12) rfl)
theorem wd925 : Cond.code yX9_setMood cX9_setMood 6 (some .int) ∈ wsL_law := mR39 _ (List.mem_of_getElem? (i := 13) rfl)
theorem wd926 : Cond.methodLink RX9 195 yX2_putMood ∈ wsL_law := mR39 _ (List.mem_of_getElem? (i := 14) rfl)
theorem wd927 : Cond.methodLink RL 122 yX10_setMood ∈ wsL_law := mR39 _ (List.mem_of_getElem? (i := 15) rfl)
theorem wd928 : Cond.instanceMethod yX10_setMood ∈ wsL_law := mR39 _ (List.mem_of_getElem? (i := 16) rfl)
theorem wd929 : Cond.selects RX10 yX10_setMood yX10_setMood ∈ wsL_law := mR39 _ (List.mem_of_getElem? (i := 17) rfl)
theorem wd930 : Cond.code yX10_setMood cX10_setMood 5 (some .int) ∈ wsL_law := mR39 _ (List.mem_of_getElem? (i := 18) rfl)
theorem wd931 : Cond.methodLink RL 123 yX9_count ∈ wsL_law := mR39 _ (List.mem_of_getElem? (i := 19) rfl)
theorem wd932 : Cond.instanceMethod yX9_count ∈ wsL_law := mR39 _ (List.mem_of_getElem? (i := 20) rfl)
theorem wd933 : Cond.selects RX9 yX9_count yX9_count ∈ wsL_law := mR39 _ (List.mem_of_getElem? (i := 21) rfl)
theorem wd934 : Cond.code yX9_count cX9_count 2 (some .int) ∈ wsL_law := mR39 _ (List.mem_of_getElem? (i := 22) rfl)
theorem wd935 : Cond.methodLink RX9 199 yX1_countBodies ∈ wsL_law := mR39 _ (List.mem_of_getElem? (i := 23) rfl)
theorem wd936 : Cond.instanceMethod yX1_countBodies ∈ wsL_law := mR40 _ (List.mem_of_getElem? (i := 0) rfl)
theorem wd937 : Cond.selects RX1 yX1_countBodies yX1_countBodies ∈ wsL_law := mR40 _ (List.mem_of_getElem? (i := 1) rfl)
theorem wd938 : Cond.code yX1_countBodies cX1_countBodies 4 (some .int) ∈ wsL_law := mR40 _ (List.mem_of_getElem? (i := 2) rfl)
theorem wd939 : Cond.methodLink RX1 185 yX8_countBodies ∈ wsL_law := mR40 _ (List.mem_of_getElem? (i := 3) rfl)
theorem wd940 : Cond.instanceMethod yX8_countBodies ∈ wsL_law := mR40 _ (List.mem_of_getElem? (i := 4) rfl)
theorem wd941 : Cond.selects RX8 yX8_countBodies yX8_countBodies ∈ wsL_law := mR40 _ (List.mem_of_getElem? (i := 5) rfl)
theorem wd942 : Cond.code yX8_countBodies cX8_countBodies 3 (some .int) ∈ wsL_law := mR40 _ (List.mem_of_getElem? (i := 6) rfl)
theorem wd943 : Cond.methodLink RX8 31 yX8_bodyFor ∈ wsL_law := mR40 _ (List.mem_of_getElem? (i := 7) rfl)
theorem wd944 : Cond.methodLink RX9 202 yX1_countGuards ∈ wsL_law := mR40 _ (List.mem_of_getElem? (i := 8) rfl)
theorem wd945 : Cond.instanceMethod yX1_countGuards ∈ wsL_law := mR40 _ (List.mem_of_getElem? (i := 9) rfl)
theorem wd946 : Cond.selects RX1 yX1_countGuards yX1_countGuards ∈ wsL_law := mR40 _ (List.mem_of_getElem? (i := 10) rfl)
theorem wd947 : Cond.code yX1_countGuards cX1_countGuards 4 (some .int) ∈ wsL_law := mR40 _ (List.mem_of_getElem? (i := 11) rfl)
theorem wd948 : Cond.methodLink RX1 189 yX8_countGuards ∈ wsL_law := mR40 _ (List.mem_of_getElem? (i := 12) rfl)
theorem wd949 : Cond.instanceMethod yX8_countGuards ∈ wsL_law := mR40 _ (List.mem_of_getElem? (i := 13) rfl)
theorem wd950 : Cond.selects RX8 yX8_countGuards yX8_countGuards ∈ wsL_law := mR40 _ (List.mem_of_getElem? (i := 14) rfl)
theorem wd951 : Cond.code yX8_countGuards cX8_countGuards 3 (some .int) ∈ wsL_law := mR40 _ (List.mem_of_getElem? (i := 15) rfl)
theorem wd952 : Cond.methodLink RX8 35 yX8_guardFor ∈ wsL_law := mR40 _ (List.mem_of_getElem? (i := 16) rfl)
theorem wd953 : Cond.methodLink RX9 205 yX1_countClashes ∈ wsL_law := mR40 _ (List.mem_of_getElem? (i := 17) rfl)
theorem wd954 : Cond.instanceMethod yX1_countClashes ∈ wsL_law := mR40 _ (List.mem_of_getElem? (i := 18) rfl)
theorem wd955 : Cond.selects RX1 yX1_countClashes yX1_countClashes ∈ wsL_law := mR40 _ (List.mem_of_getElem? (i := 19) rfl)
theorem wd956 : Cond.code yX1_countClashes cX1_countClashes 4 (some .int) ∈ wsL_law := mR40 _ (List.mem_of_getElem? (i := 20) rfl)
theorem wd957 : Cond.fieldLink RX1 196 "PuppetCast$Choice" "clash" "I" ∈ wsL_law := mR40 _ (List.mem_of_getElem? (i := 21) rfl)
theorem wd958 : Cond.methodLink RX1 192 yX1_figureAt ∈ wsL_law := mR40 _ (List.mem_of_getElem? (i := 22) rfl)
theorem wd959 : Cond.methodLink RX9 208 yX1_countMissing ∈ wsL_law := mR40 _ (List.mem_of_getElem? (i := 23) rfl)
theorem wd960 : Cond.instanceMethod yX1_countMissing ∈ wsL_law := mR41 _ (List.mem_of_getElem? (i := 0) rfl)
theorem wd961 : Cond.selects RX1 yX1_countMissing yX1_countMissing ∈ wsL_law := mR41 _ (List.mem_of_getElem? (i := 1) rfl)
theorem wd962 : Cond.code yX1_countMissing cX1_countMissing 4 (some .int) ∈ wsL_law := mR41 _ (List.mem_of_getElem? (i := 2) rfl)
theorem wd963 : Cond.fieldLink RX1 199 "PuppetCast$Choice" "giver" "I" ∈ wsL_law := mR41 _ (List.mem_of_getElem? (i := 3) rfl)
theorem wd964 : Cond.methodLink RL 126 yX10_count ∈ wsL_law := mR41 _ (List.mem_of_getElem? (i := 4) rfl)
theorem wd965 : Cond.instanceMethod yX10_count ∈ wsL_law := mR41 _ (List.mem_of_getElem? (i := 5) rfl)
theorem wd966 : Cond.selects RX10 yX10_count yX10_count ∈ wsL_law := mR41 _ (List.mem_of_getElem? (i := 6) rfl)
theorem wd967 : Cond.code yX10_count cX10_count 5 (some .int) ∈ wsL_law := mR41 _ (List.mem_of_getElem? (i := 7) rfl)
theorem wd968 : Cond.methodLink RL 127 yX9_digest ∈ wsL_law := mR41 _ (List.mem_of_getElem? (i := 8) rfl)
theorem wd969 : Cond.instanceMethod yX9_digest ∈ wsL_law := mR41 _ (List.mem_of_getElem? (i := 9) rfl)
theorem wd970 : Cond.selects RX9 yX9_digest yX9_digest ∈ wsL_law := mR41 _ (List.mem_of_getElem? (i := 10) rfl)
theorem wd971 : Cond.code yX9_digest cX9_digest 4 (some .long) ∈ wsL_law := mR41 _ (List.mem_of_getElem? (i := 11) rfl)
theorem wd972 : Cond.constantLong RX9 211 (5) ∈ wsL_law := mR41 _ (List.mem_of_getElem? (i := 12) rfl)
theorem wd973 : Cond.methodLink RX9 213 yX1_digestFigure ∈ wsL_law := mR41 _ (List.mem_of_getElem? (i := 13) rfl)
theorem wd974 : Cond.instanceMethod yX1_digestFigure ∈ wsL_law := mR41 _ (List.mem_of_getElem? (i := 14) rfl)
theorem wd975 : Cond.selects RX1 yX1_digestFigure yX1_digestFigure ∈ wsL_law := mR41 _ (List.mem_of_getElem? (i := 15) rfl)
theorem wd976 : Cond.code yX1_digestFigure cX1_digestFigure 8 (some .long) ∈ wsL_law := mR41 _ (List.mem_of_getElem? (i := 16) rfl)
theorem wd977 : Cond.constantLong RX1 200 (31) ∈ wsL_law := mR41 _ (List.mem_of_getElem? (i := 17) rfl)
theorem wd978 : Cond.methodLink RX1 202 yX2_moodAt ∈ wsL_law := mR41 _ (List.mem_of_getElem? (i := 18) rfl)
theorem wd979 : Cond.methodLink RL 131 yX10_digest ∈ wsL_law := mR41 _ (List.mem_of_getElem? (i := 19) rfl)
theorem wd980 : Cond.instanceMethod yX10_digest ∈ wsL_law := mR41 _ (List.mem_of_getElem? (i := 20) rfl)
theorem wd981 : Cond.selects RX10 yX10_digest yX10_digest ∈ wsL_law := mR41 _ (List.mem_of_getElem? (i := 21) rfl)
theorem wd982 : Cond.code yX10_digest cX10_digest 5 (some .long) ∈ wsL_law := mR41 _ (List.mem_of_getElem? (i := 22) rfl)
theorem wd983 : Cond.constantLong RX10 302 (5) ∈ wsL_law := mR41 _ (List.mem_of_getElem? (i := 23) rfl)
theorem wd984 : Cond.constantLong RX10 304 (31) ∈ wsL_law := mR42 _ (List.mem_of_getElem? (i := 0) rfl)
theorem hy_X9_init : yX9_init.cls ≠ "java/lang/invoke/MethodHandle" ∧ yX9_init.cls ≠ "java/lang/invoke/VarHandle" ∧ (parseMethodDescriptor yX9_init.desc).map (fun d => d.parameters.length) = some 0 := by decide +kernel
theorem hy_X1_init : yX1_init.cls ≠ "java/lang/invoke/MethodHandle" ∧ yX1_init.cls ≠ "java/lang/invoke/VarHandle" ∧ (parseMethodDescriptor yX1_init.desc).map (fun d => d.parameters.length) = some 0 := by decide +kernel
theorem hy_X4_init : yX4_init.cls ≠ "java/lang/invoke/MethodHandle" ∧ yX4_init.cls ≠ "java/lang/invoke/VarHandle" ∧ (parseMethodDescriptor yX4_init.desc).map (fun d => d.parameters.length) = some 0 := by decide +kernel
theorem hy_X3_init : yX3_init.cls ≠ "java/lang/invoke/MethodHandle" ∧ yX3_init.cls ≠ "java/lang/invoke/VarHandle" ∧ (parseMethodDescriptor yX3_init.desc).map (fun d => d.parameters.length) = some 0 := by decide +kernel
theorem hy_J7_fill_53178 : yJ7_fill_53178.cls ≠ "java/lang/invoke/MethodHandle" ∧ yJ7_fill_53178.cls ≠ "java/lang/invoke/VarHandle" ∧ (parseMethodDescriptor yJ7_fill_53178.desc).map (fun d => d.parameters.length) = some 2 := by decide +kernel
theorem hy_X0_init : yX0_init.cls ≠ "java/lang/invoke/MethodHandle" ∧ yX0_init.cls ≠ "java/lang/invoke/VarHandle" ∧ (parseMethodDescriptor yX0_init.desc).map (fun d => d.parameters.length) = some 0 := by decide +kernel
theorem hy_X6_init : yX6_init.cls ≠ "java/lang/invoke/MethodHandle" ∧ yX6_init.cls ≠ "java/lang/invoke/VarHandle" ∧ (parseMethodDescriptor yX6_init.desc).map (fun d => d.parameters.length) = some 1 := by decide +kernel
theorem hy_X7_init : yX7_init.cls ≠ "java/lang/invoke/MethodHandle" ∧ yX7_init.cls ≠ "java/lang/invoke/VarHandle" ∧ (parseMethodDescriptor yX7_init.desc).map (fun d => d.parameters.length) = some 0 := by decide +kernel
theorem hy_X10_init : yX10_init.cls ≠ "java/lang/invoke/MethodHandle" ∧ yX10_init.cls ≠ "java/lang/invoke/VarHandle" ∧ (parseMethodDescriptor yX10_init.desc).map (fun d => d.parameters.length) = some 0 := by decide +kernel
theorem hy_X9_trait : yX9_trait.cls ≠ "java/lang/invoke/MethodHandle" ∧ yX9_trait.cls ≠ "java/lang/invoke/VarHandle" ∧ (parseMethodDescriptor yX9_trait.desc).map (fun d => d.parameters.length) = some 3 := by decide +kernel
theorem hy_X1_canStandUnder : yX1_canStandUnder.cls ≠ "java/lang/invoke/MethodHandle" ∧ yX1_canStandUnder.cls ≠ "java/lang/invoke/VarHandle" ∧ (parseMethodDescriptor yX1_canStandUnder.desc).map (fun d => d.parameters.length) = some 3 := by decide +kernel
theorem hy_X1_isTraitOrNone : yX1_isTraitOrNone.cls ≠ "java/lang/invoke/MethodHandle" ∧ yX1_isTraitOrNone.cls ≠ "java/lang/invoke/VarHandle" ∧ (parseMethodDescriptor yX1_isTraitOrNone.desc).map (fun d => d.parameters.length) = some 1 := by decide +kernel
theorem hy_X1_traitAt : yX1_traitAt.cls ≠ "java/lang/invoke/MethodHandle" ∧ yX1_traitAt.cls ≠ "java/lang/invoke/VarHandle" ∧ (parseMethodDescriptor yX1_traitAt.desc).map (fun d => d.parameters.length) = some 1 := by decide +kernel
theorem hy_X9_isBelow : yX9_isBelow.cls ≠ "java/lang/invoke/MethodHandle" ∧ yX9_isBelow.cls ≠ "java/lang/invoke/VarHandle" ∧ (parseMethodDescriptor yX9_isBelow.desc).map (fun d => d.parameters.length) = some 2 := by decide +kernel
theorem hy_X1_alignsUnder : yX1_alignsUnder.cls ≠ "java/lang/invoke/MethodHandle" ∧ yX1_alignsUnder.cls ≠ "java/lang/invoke/VarHandle" ∧ (parseMethodDescriptor yX1_alignsUnder.desc).map (fun d => d.parameters.length) = some 3 := by decide +kernel
theorem hy_X4_begin : yX4_begin.cls ≠ "java/lang/invoke/MethodHandle" ∧ yX4_begin.cls ≠ "java/lang/invoke/VarHandle" ∧ (parseMethodDescriptor yX4_begin.desc).map (fun d => d.parameters.length) = some 0 := by decide +kernel
theorem hy_X3_empty : yX3_empty.cls ≠ "java/lang/invoke/MethodHandle" ∧ yX3_empty.cls ≠ "java/lang/invoke/VarHandle" ∧ (parseMethodDescriptor yX3_empty.desc).map (fun d => d.parameters.length) = some 0 := by decide +kernel
theorem hy_X1_addToMerger : yX1_addToMerger.cls ≠ "java/lang/invoke/MethodHandle" ∧ yX1_addToMerger.cls ≠ "java/lang/invoke/VarHandle" ∧ (parseMethodDescriptor yX1_addToMerger.desc).map (fun d => d.parameters.length) = some 1 := by decide +kernel
theorem hy_X4_addGiver : yX4_addGiver.cls ≠ "java/lang/invoke/MethodHandle" ∧ yX4_addGiver.cls ≠ "java/lang/invoke/VarHandle" ∧ (parseMethodDescriptor yX4_addGiver.desc).map (fun d => d.parameters.length) = some 2 := by decide +kernel
theorem hy_X3_add : yX3_add.cls ≠ "java/lang/invoke/MethodHandle" ∧ yX3_add.cls ≠ "java/lang/invoke/VarHandle" ∧ (parseMethodDescriptor yX3_add.desc).map (fun d => d.parameters.length) = some 1 := by decide +kernel
theorem hy_X4_addRow : yX4_addRow.cls ≠ "java/lang/invoke/MethodHandle" ∧ yX4_addRow.cls ≠ "java/lang/invoke/VarHandle" ∧ (parseMethodDescriptor yX4_addRow.desc).map (fun d => d.parameters.length) = some 1 := by decide +kernel
theorem hy_X4_merges : yX4_merges.cls ≠ "java/lang/invoke/MethodHandle" ∧ yX4_merges.cls ≠ "java/lang/invoke/VarHandle" ∧ (parseMethodDescriptor yX4_merges.desc).map (fun d => d.parameters.length) = some 0 := by decide +kernel
theorem hy_X4_nextTrait : yX4_nextTrait.cls ≠ "java/lang/invoke/MethodHandle" ∧ yX4_nextTrait.cls ≠ "java/lang/invoke/VarHandle" ∧ (parseMethodDescriptor yX4_nextTrait.desc).map (fun d => d.parameters.length) = some 0 := by decide +kernel
theorem hy_X4_firstOf : yX4_firstOf.cls ≠ "java/lang/invoke/MethodHandle" ∧ yX4_firstOf.cls ≠ "java/lang/invoke/VarHandle" ∧ (parseMethodDescriptor yX4_firstOf.desc).map (fun d => d.parameters.length) = some 1 := by decide +kernel
theorem hy_X3_at : yX3_at.cls ≠ "java/lang/invoke/MethodHandle" ∧ yX3_at.cls ≠ "java/lang/invoke/VarHandle" ∧ (parseMethodDescriptor yX3_at.desc).map (fun d => d.parameters.length) = some 1 := by decide +kernel
theorem hy_X4_standsBehind : yX4_standsBehind.cls ≠ "java/lang/invoke/MethodHandle" ∧ yX4_standsBehind.cls ≠ "java/lang/invoke/VarHandle" ∧ (parseMethodDescriptor yX4_standsBehind.desc).map (fun d => d.parameters.length) = some 1 := by decide +kernel
theorem hy_X3_placeOf : yX3_placeOf.cls ≠ "java/lang/invoke/MethodHandle" ∧ yX3_placeOf.cls ≠ "java/lang/invoke/VarHandle" ∧ (parseMethodDescriptor yX3_placeOf.desc).map (fun d => d.parameters.length) = some 1 := by decide +kernel
theorem hy_X4_strike : yX4_strike.cls ≠ "java/lang/invoke/MethodHandle" ∧ yX4_strike.cls ≠ "java/lang/invoke/VarHandle" ∧ (parseMethodDescriptor yX4_strike.desc).map (fun d => d.parameters.length) = some 1 := by decide +kernel
theorem hy_X4_allDone : yX4_allDone.cls ≠ "java/lang/invoke/MethodHandle" ∧ yX4_allDone.cls ≠ "java/lang/invoke/VarHandle" ∧ (parseMethodDescriptor yX4_allDone.desc).map (fun d => d.parameters.length) = some 0 := by decide +kernel
theorem hy_X1_addTrait : yX1_addTrait.cls ≠ "java/lang/invoke/MethodHandle" ∧ yX1_addTrait.cls ≠ "java/lang/invoke/VarHandle" ∧ (parseMethodDescriptor yX1_addTrait.desc).map (fun d => d.parameters.length) = some 0 := by decide +kernel
theorem hy_X8_init : yX8_init.cls ≠ "java/lang/invoke/MethodHandle" ∧ yX8_init.cls ≠ "java/lang/invoke/VarHandle" ∧ (parseMethodDescriptor yX8_init.desc).map (fun d => d.parameters.length) = some 0 := by decide +kernel
theorem hy_X3_addAll : yX3_addAll.cls ≠ "java/lang/invoke/MethodHandle" ∧ yX3_addAll.cls ≠ "java/lang/invoke/VarHandle" ∧ (parseMethodDescriptor yX3_addAll.desc).map (fun d => d.parameters.length) = some 1 := by decide +kernel
theorem hy_X10_trait : yX10_trait.cls ≠ "java/lang/invoke/MethodHandle" ∧ yX10_trait.cls ≠ "java/lang/invoke/VarHandle" ∧ (parseMethodDescriptor yX10_trait.desc).map (fun d => d.parameters.length) = some 3 := by decide +kernel
theorem hy_X10_mayBeUnder : yX10_mayBeUnder.cls ≠ "java/lang/invoke/MethodHandle" ∧ yX10_mayBeUnder.cls ≠ "java/lang/invoke/VarHandle" ∧ (parseMethodDescriptor yX10_mayBeUnder.desc).map (fun d => d.parameters.length) = some 1 := by decide +kernel
theorem hy_X10_isTrait : yX10_isTrait.cls ≠ "java/lang/invoke/MethodHandle" ∧ yX10_isTrait.cls ≠ "java/lang/invoke/VarHandle" ∧ (parseMethodDescriptor yX10_isTrait.desc).map (fun d => d.parameters.length) = some 1 := by decide +kernel
theorem hy_X10_in : yX10_in.cls ≠ "java/lang/invoke/MethodHandle" ∧ yX10_in.cls ≠ "java/lang/invoke/VarHandle" ∧ (parseMethodDescriptor yX10_in.desc).map (fun d => d.parameters.length) = some 3 := by decide +kernel
theorem hy_X10_merge : yX10_merge.cls ≠ "java/lang/invoke/MethodHandle" ∧ yX10_merge.cls ≠ "java/lang/invoke/VarHandle" ∧ (parseMethodDescriptor yX10_merge.desc).map (fun d => d.parameters.length) = some 0 := by decide +kernel
theorem hy_X10_placeOf : yX10_placeOf.cls ≠ "java/lang/invoke/MethodHandle" ∧ yX10_placeOf.cls ≠ "java/lang/invoke/VarHandle" ∧ (parseMethodDescriptor yX10_placeOf.desc).map (fun d => d.parameters.length) = some 2 := by decide +kernel
theorem hy_X10_isBehind : yX10_isBehind.cls ≠ "java/lang/invoke/MethodHandle" ∧ yX10_isBehind.cls ≠ "java/lang/invoke/VarHandle" ∧ (parseMethodDescriptor yX10_isBehind.desc).map (fun d => d.parameters.length) = some 1 := by decide +kernel
theorem hy_X9_character : yX9_character.cls ≠ "java/lang/invoke/MethodHandle" ∧ yX9_character.cls ≠ "java/lang/invoke/VarHandle" ∧ (parseMethodDescriptor yX9_character.desc).map (fun d => d.parameters.length) = some 1 := by decide +kernel
theorem hy_X1_addFigure : yX1_addFigure.cls ≠ "java/lang/invoke/MethodHandle" ∧ yX1_addFigure.cls ≠ "java/lang/invoke/VarHandle" ∧ (parseMethodDescriptor yX1_addFigure.desc).map (fun d => d.parameters.length) = some 1 := by decide +kernel
theorem hy_X2_init : yX2_init.cls ≠ "java/lang/invoke/MethodHandle" ∧ yX2_init.cls ≠ "java/lang/invoke/VarHandle" ∧ (parseMethodDescriptor yX2_init.desc).map (fun d => d.parameters.length) = some 2 := by decide +kernel
theorem hy_X10_character : yX10_character.cls ≠ "java/lang/invoke/MethodHandle" ∧ yX10_character.cls ≠ "java/lang/invoke/VarHandle" ∧ (parseMethodDescriptor yX10_character.desc).map (fun d => d.parameters.length) = some 1 := by decide +kernel
theorem hy_X9_takes : yX9_takes.cls ≠ "java/lang/invoke/MethodHandle" ∧ yX9_takes.cls ≠ "java/lang/invoke/VarHandle" ∧ (parseMethodDescriptor yX9_takes.desc).map (fun d => d.parameters.length) = some 2 := by decide +kernel
theorem hy_X1_figureAt : yX1_figureAt.cls ≠ "java/lang/invoke/MethodHandle" ∧ yX1_figureAt.cls ≠ "java/lang/invoke/VarHandle" ∧ (parseMethodDescriptor yX1_figureAt.desc).map (fun d => d.parameters.length) = some 1 := by decide +kernel
theorem hy_X2_hasTaken : yX2_hasTaken.cls ≠ "java/lang/invoke/MethodHandle" ∧ yX2_hasTaken.cls ≠ "java/lang/invoke/VarHandle" ∧ (parseMethodDescriptor yX2_hasTaken.desc).map (fun d => d.parameters.length) = some 1 := by decide +kernel
theorem hy_X2_takenAt : yX2_takenAt.cls ≠ "java/lang/invoke/MethodHandle" ∧ yX2_takenAt.cls ≠ "java/lang/invoke/VarHandle" ∧ (parseMethodDescriptor yX2_takenAt.desc).map (fun d => d.parameters.length) = some 1 := by decide +kernel
theorem hy_X1_alignsTaking : yX1_alignsTaking.cls ≠ "java/lang/invoke/MethodHandle" ∧ yX1_alignsTaking.cls ≠ "java/lang/invoke/VarHandle" ∧ (parseMethodDescriptor yX1_alignsTaking.desc).map (fun d => d.parameters.length) = some 2 := by decide +kernel
theorem hy_X1_addTaken : yX1_addTaken.cls ≠ "java/lang/invoke/MethodHandle" ∧ yX1_addTaken.cls ≠ "java/lang/invoke/VarHandle" ∧ (parseMethodDescriptor yX1_addTaken.desc).map (fun d => d.parameters.length) = some 2 := by decide +kernel
theorem hy_X2_addTaken : yX2_addTaken.cls ≠ "java/lang/invoke/MethodHandle" ∧ yX2_addTaken.cls ≠ "java/lang/invoke/VarHandle" ∧ (parseMethodDescriptor yX2_addTaken.desc).map (fun d => d.parameters.length) = some 1 := by decide +kernel
theorem hy_X10_takes : yX10_takes.cls ≠ "java/lang/invoke/MethodHandle" ∧ yX10_takes.cls ≠ "java/lang/invoke/VarHandle" ∧ (parseMethodDescriptor yX10_takes.desc).map (fun d => d.parameters.length) = some 2 := by decide +kernel
theorem hy_X10_isCharacter : yX10_isCharacter.cls ≠ "java/lang/invoke/MethodHandle" ∧ yX10_isCharacter.cls ≠ "java/lang/invoke/VarHandle" ∧ (parseMethodDescriptor yX10_isCharacter.desc).map (fun d => d.parameters.length) = some 1 := by decide +kernel
theorem hy_X9_body : yX9_body.cls ≠ "java/lang/invoke/MethodHandle" ∧ yX9_body.cls ≠ "java/lang/invoke/VarHandle" ∧ (parseMethodDescriptor yX9_body.desc).map (fun d => d.parameters.length) = some 4 := by decide +kernel
theorem hy_X9_isAct : yX9_isAct.cls ≠ "java/lang/invoke/MethodHandle" ∧ yX9_isAct.cls ≠ "java/lang/invoke/VarHandle" ∧ (parseMethodDescriptor yX9_isAct.desc).map (fun d => d.parameters.length) = some 1 := by decide +kernel
theorem hy_X5_init : yX5_init.cls ≠ "java/lang/invoke/MethodHandle" ∧ yX5_init.cls ≠ "java/lang/invoke/VarHandle" ∧ (parseMethodDescriptor yX5_init.desc).map (fun d => d.parameters.length) = some 5 := by decide +kernel
theorem hy_X8_setBody : yX8_setBody.cls ≠ "java/lang/invoke/MethodHandle" ∧ yX8_setBody.cls ≠ "java/lang/invoke/VarHandle" ∧ (parseMethodDescriptor yX8_setBody.desc).map (fun d => d.parameters.length) = some 2 := by decide +kernel
theorem hy_X10_body : yX10_body.cls ≠ "java/lang/invoke/MethodHandle" ∧ yX10_body.cls ≠ "java/lang/invoke/VarHandle" ∧ (parseMethodDescriptor yX10_body.desc).map (fun d => d.parameters.length) = some 4 := by decide +kernel
theorem hy_X10_isAct : yX10_isAct.cls ≠ "java/lang/invoke/MethodHandle" ∧ yX10_isAct.cls ≠ "java/lang/invoke/VarHandle" ∧ (parseMethodDescriptor yX10_isAct.desc).map (fun d => d.parameters.length) = some 1 := by decide +kernel
theorem hy_X10_begins : yX10_begins.cls ≠ "java/lang/invoke/MethodHandle" ∧ yX10_begins.cls ≠ "java/lang/invoke/VarHandle" ∧ (parseMethodDescriptor yX10_begins.desc).map (fun d => d.parameters.length) = some 1 := by decide +kernel
theorem hy_X9_need : yX9_need.cls ≠ "java/lang/invoke/MethodHandle" ∧ yX9_need.cls ≠ "java/lang/invoke/VarHandle" ∧ (parseMethodDescriptor yX9_need.desc).map (fun d => d.parameters.length) = some 3 := by decide +kernel
theorem hy_X10_need : yX10_need.cls ≠ "java/lang/invoke/MethodHandle" ∧ yX10_need.cls ≠ "java/lang/invoke/VarHandle" ∧ (parseMethodDescriptor yX10_need.desc).map (fun d => d.parameters.length) = some 3 := by decide +kernel
theorem hy_X9_guard : yX9_guard.cls ≠ "java/lang/invoke/MethodHandle" ∧ yX9_guard.cls ≠ "java/lang/invoke/VarHandle" ∧ (parseMethodDescriptor yX9_guard.desc).map (fun d => d.parameters.length) = some 3 := by decide +kernel
theorem hy_X8_setGuard : yX8_setGuard.cls ≠ "java/lang/invoke/MethodHandle" ∧ yX8_setGuard.cls ≠ "java/lang/invoke/VarHandle" ∧ (parseMethodDescriptor yX8_setGuard.desc).map (fun d => d.parameters.length) = some 2 := by decide +kernel
theorem hy_X10_guard : yX10_guard.cls ≠ "java/lang/invoke/MethodHandle" ∧ yX10_guard.cls ≠ "java/lang/invoke/VarHandle" ∧ (parseMethodDescriptor yX10_guard.desc).map (fun d => d.parameters.length) = some 3 := by decide +kernel
theorem hy_X9_own : yX9_own.cls ≠ "java/lang/invoke/MethodHandle" ∧ yX9_own.cls ≠ "java/lang/invoke/VarHandle" ∧ (parseMethodDescriptor yX9_own.desc).map (fun d => d.parameters.length) = some 4 := by decide +kernel
theorem hy_X2_setOwnBody : yX2_setOwnBody.cls ≠ "java/lang/invoke/MethodHandle" ∧ yX2_setOwnBody.cls ≠ "java/lang/invoke/VarHandle" ∧ (parseMethodDescriptor yX2_setOwnBody.desc).map (fun d => d.parameters.length) = some 2 := by decide +kernel
theorem hy_X10_own : yX10_own.cls ≠ "java/lang/invoke/MethodHandle" ∧ yX10_own.cls ≠ "java/lang/invoke/VarHandle" ∧ (parseMethodDescriptor yX10_own.desc).map (fun d => d.parameters.length) = some 4 := by decide +kernel
theorem hy_X9_op : yX9_op.cls ≠ "java/lang/invoke/MethodHandle" ∧ yX9_op.cls ≠ "java/lang/invoke/VarHandle" ∧ (parseMethodDescriptor yX9_op.desc).map (fun d => d.parameters.length) = some 3 := by decide +kernel
theorem hy_X9_isOp : yX9_isOp.cls ≠ "java/lang/invoke/MethodHandle" ∧ yX9_isOp.cls ≠ "java/lang/invoke/VarHandle" ∧ (parseMethodDescriptor yX9_isOp.desc).map (fun d => d.parameters.length) = some 3 := by decide +kernel
theorem hy_X5_addOp : yX5_addOp.cls ≠ "java/lang/invoke/MethodHandle" ∧ yX5_addOp.cls ≠ "java/lang/invoke/VarHandle" ∧ (parseMethodDescriptor yX5_addOp.desc).map (fun d => d.parameters.length) = some 3 := by decide +kernel
theorem hy_X10_op : yX10_op.cls ≠ "java/lang/invoke/MethodHandle" ∧ yX10_op.cls ≠ "java/lang/invoke/VarHandle" ∧ (parseMethodDescriptor yX10_op.desc).map (fun d => d.parameters.length) = some 3 := by decide +kernel
theorem hy_X10_isOp : yX10_isOp.cls ≠ "java/lang/invoke/MethodHandle" ∧ yX10_isOp.cls ≠ "java/lang/invoke/VarHandle" ∧ (parseMethodDescriptor yX10_isOp.desc).map (fun d => d.parameters.length) = some 3 := by decide +kernel
theorem hy_X9_leave : yX9_leave.cls ≠ "java/lang/invoke/MethodHandle" ∧ yX9_leave.cls ≠ "java/lang/invoke/VarHandle" ∧ (parseMethodDescriptor yX9_leave.desc).map (fun d => d.parameters.length) = some 3 := by decide +kernel
theorem hy_X2_leaves : yX2_leaves.cls ≠ "java/lang/invoke/MethodHandle" ∧ yX2_leaves.cls ≠ "java/lang/invoke/VarHandle" ∧ (parseMethodDescriptor yX2_leaves.desc).map (fun d => d.parameters.length) = some 2 := by decide +kernel
theorem hy_X2_slot : yX2_slot.cls ≠ "java/lang/invoke/MethodHandle" ∧ yX2_slot.cls ≠ "java/lang/invoke/VarHandle" ∧ (parseMethodDescriptor yX2_slot.desc).map (fun d => d.parameters.length) = some 2 := by decide +kernel
theorem hy_X2_addLeft : yX2_addLeft.cls ≠ "java/lang/invoke/MethodHandle" ∧ yX2_addLeft.cls ≠ "java/lang/invoke/VarHandle" ∧ (parseMethodDescriptor yX2_addLeft.desc).map (fun d => d.parameters.length) = some 2 := by decide +kernel
theorem hy_X10_leave : yX10_leave.cls ≠ "java/lang/invoke/MethodHandle" ∧ yX10_leave.cls ≠ "java/lang/invoke/VarHandle" ∧ (parseMethodDescriptor yX10_leave.desc).map (fun d => d.parameters.length) = some 3 := by decide +kernel
theorem hy_X10_leaves : yX10_leaves.cls ≠ "java/lang/invoke/MethodHandle" ∧ yX10_leaves.cls ≠ "java/lang/invoke/VarHandle" ∧ (parseMethodDescriptor yX10_leaves.desc).map (fun d => d.parameters.length) = some 3 := by decide +kernel
theorem hy_X9_rename : yX9_rename.cls ≠ "java/lang/invoke/MethodHandle" ∧ yX9_rename.cls ≠ "java/lang/invoke/VarHandle" ∧ (parseMethodDescriptor yX9_rename.desc).map (fun d => d.parameters.length) = some 4 := by decide +kernel
theorem hy_X2_nameOf : yX2_nameOf.cls ≠ "java/lang/invoke/MethodHandle" ∧ yX2_nameOf.cls ≠ "java/lang/invoke/VarHandle" ∧ (parseMethodDescriptor yX2_nameOf.desc).map (fun d => d.parameters.length) = some 2 := by decide +kernel
theorem hy_X2_originOf : yX2_originOf.cls ≠ "java/lang/invoke/MethodHandle" ∧ yX2_originOf.cls ≠ "java/lang/invoke/VarHandle" ∧ (parseMethodDescriptor yX2_originOf.desc).map (fun d => d.parameters.length) = some 2 := by decide +kernel
theorem hy_X2_addRenamed : yX2_addRenamed.cls ≠ "java/lang/invoke/MethodHandle" ∧ yX2_addRenamed.cls ≠ "java/lang/invoke/VarHandle" ∧ (parseMethodDescriptor yX2_addRenamed.desc).map (fun d => d.parameters.length) = some 3 := by decide +kernel
theorem hy_X10_rename : yX10_rename.cls ≠ "java/lang/invoke/MethodHandle" ∧ yX10_rename.cls ≠ "java/lang/invoke/VarHandle" ∧ (parseMethodDescriptor yX10_rename.desc).map (fun d => d.parameters.length) = some 4 := by decide +kernel
theorem hy_X10_renamed : yX10_renamed.cls ≠ "java/lang/invoke/MethodHandle" ∧ yX10_renamed.cls ≠ "java/lang/invoke/VarHandle" ∧ (parseMethodDescriptor yX10_renamed.desc).map (fun d => d.parameters.length) = some 3 := by decide +kernel
theorem hy_X10_named : yX10_named.cls ≠ "java/lang/invoke/MethodHandle" ∧ yX10_named.cls ≠ "java/lang/invoke/VarHandle" ∧ (parseMethodDescriptor yX10_named.desc).map (fun d => d.parameters.length) = some 3 := by decide +kernel
theorem hy_X9_prefer : yX9_prefer.cls ≠ "java/lang/invoke/MethodHandle" ∧ yX9_prefer.cls ≠ "java/lang/invoke/VarHandle" ∧ (parseMethodDescriptor yX9_prefer.desc).map (fun d => d.parameters.length) = some 3 := by decide +kernel
theorem hy_X2_swapPreferred : yX2_swapPreferred.cls ≠ "java/lang/invoke/MethodHandle" ∧ yX2_swapPreferred.cls ≠ "java/lang/invoke/VarHandle" ∧ (parseMethodDescriptor yX2_swapPreferred.desc).map (fun d => d.parameters.length) = some 2 := by decide +kernel
theorem hy_X2_preferredFor : yX2_preferredFor.cls ≠ "java/lang/invoke/MethodHandle" ∧ yX2_preferredFor.cls ≠ "java/lang/invoke/VarHandle" ∧ (parseMethodDescriptor yX2_preferredFor.desc).map (fun d => d.parameters.length) = some 1 := by decide +kernel
theorem hy_X10_prefer : yX10_prefer.cls ≠ "java/lang/invoke/MethodHandle" ∧ yX10_prefer.cls ≠ "java/lang/invoke/VarHandle" ∧ (parseMethodDescriptor yX10_prefer.desc).map (fun d => d.parameters.length) = some 3 := by decide +kernel
theorem hy_X9_lineOf : yX9_lineOf.cls ≠ "java/lang/invoke/MethodHandle" ∧ yX9_lineOf.cls ≠ "java/lang/invoke/VarHandle" ∧ (parseMethodDescriptor yX9_lineOf.desc).map (fun d => d.parameters.length) = some 2 := by decide +kernel
theorem hy_X10_lineOf : yX10_lineOf.cls ≠ "java/lang/invoke/MethodHandle" ∧ yX10_lineOf.cls ≠ "java/lang/invoke/VarHandle" ∧ (parseMethodDescriptor yX10_lineOf.desc).map (fun d => d.parameters.length) = some 2 := by decide +kernel
theorem hy_X9_line : yX9_line.cls ≠ "java/lang/invoke/MethodHandle" ∧ yX9_line.cls ≠ "java/lang/invoke/VarHandle" ∧ (parseMethodDescriptor yX9_line.desc).map (fun d => d.parameters.length) = some 2 := by decide +kernel
theorem hy_X10_line : yX10_line.cls ≠ "java/lang/invoke/MethodHandle" ∧ yX10_line.cls ≠ "java/lang/invoke/VarHandle" ∧ (parseMethodDescriptor yX10_line.desc).map (fun d => d.parameters.length) = some 2 := by decide +kernel
theorem hy_X9_chosen : yX9_chosen.cls ≠ "java/lang/invoke/MethodHandle" ∧ yX9_chosen.cls ≠ "java/lang/invoke/VarHandle" ∧ (parseMethodDescriptor yX9_chosen.desc).map (fun d => d.parameters.length) = some 2 := by decide +kernel
theorem hy_X1_weigh : yX1_weigh.cls ≠ "java/lang/invoke/MethodHandle" ∧ yX1_weigh.cls ≠ "java/lang/invoke/VarHandle" ∧ (parseMethodDescriptor yX1_weigh.desc).map (fun d => d.parameters.length) = some 2 := by decide +kernel
theorem hy_X0_empty : yX0_empty.cls ≠ "java/lang/invoke/MethodHandle" ∧ yX0_empty.cls ≠ "java/lang/invoke/VarHandle" ∧ (parseMethodDescriptor yX0_empty.desc).map (fun d => d.parameters.length) = some 0 := by decide +kernel
theorem hy_X1_offered : yX1_offered.cls ≠ "java/lang/invoke/MethodHandle" ∧ yX1_offered.cls ≠ "java/lang/invoke/VarHandle" ∧ (parseMethodDescriptor yX1_offered.desc).map (fun d => d.parameters.length) = some 3 := by decide +kernel
theorem hy_X2_sourceOf : yX2_sourceOf.cls ≠ "java/lang/invoke/MethodHandle" ∧ yX2_sourceOf.cls ≠ "java/lang/invoke/VarHandle" ∧ (parseMethodDescriptor yX2_sourceOf.desc).map (fun d => d.parameters.length) = some 2 := by decide +kernel
theorem hy_X8_bodyFor : yX8_bodyFor.cls ≠ "java/lang/invoke/MethodHandle" ∧ yX8_bodyFor.cls ≠ "java/lang/invoke/VarHandle" ∧ (parseMethodDescriptor yX8_bodyFor.desc).map (fun d => d.parameters.length) = some 1 := by decide +kernel
theorem hy_X0_hear : yX0_hear.cls ≠ "java/lang/invoke/MethodHandle" ∧ yX0_hear.cls ≠ "java/lang/invoke/VarHandle" ∧ (parseMethodDescriptor yX0_hear.desc).map (fun d => d.parameters.length) = some 3 := by decide +kernel
theorem hy_X3_has : yX3_has.cls ≠ "java/lang/invoke/MethodHandle" ∧ yX3_has.cls ≠ "java/lang/invoke/VarHandle" ∧ (parseMethodDescriptor yX3_has.desc).map (fun d => d.parameters.length) = some 1 := by decide +kernel
theorem hy_X2_ownBody : yX2_ownBody.cls ≠ "java/lang/invoke/MethodHandle" ∧ yX2_ownBody.cls ≠ "java/lang/invoke/VarHandle" ∧ (parseMethodDescriptor yX2_ownBody.desc).map (fun d => d.parameters.length) = some 1 := by decide +kernel
theorem hy_X0_settle : yX0_settle.cls ≠ "java/lang/invoke/MethodHandle" ∧ yX0_settle.cls ≠ "java/lang/invoke/VarHandle" ∧ (parseMethodDescriptor yX0_settle.desc).map (fun d => d.parameters.length) = some 1 := by decide +kernel
theorem hy_J6_bitCount_0f7a4 : yJ6_bitCount_0f7a4.cls ≠ "java/lang/invoke/MethodHandle" ∧ yJ6_bitCount_0f7a4.cls ≠ "java/lang/invoke/VarHandle" ∧ (parseMethodDescriptor yJ6_bitCount_0f7a4.desc).map (fun d => d.parameters.length) = some 1 := by decide +kernel
theorem hy_X10_chosen : yX10_chosen.cls ≠ "java/lang/invoke/MethodHandle" ∧ yX10_chosen.cls ≠ "java/lang/invoke/VarHandle" ∧ (parseMethodDescriptor yX10_chosen.desc).map (fun d => d.parameters.length) = some 2 := by decide +kernel
theorem hy_X10_chosenOf : yX10_chosenOf.cls ≠ "java/lang/invoke/MethodHandle" ∧ yX10_chosenOf.cls ≠ "java/lang/invoke/VarHandle" ∧ (parseMethodDescriptor yX10_chosenOf.desc).map (fun d => d.parameters.length) = some 2 := by decide +kernel
theorem hy_X10_choose : yX10_choose.cls ≠ "java/lang/invoke/MethodHandle" ∧ yX10_choose.cls ≠ "java/lang/invoke/VarHandle" ∧ (parseMethodDescriptor yX10_choose.desc).map (fun d => d.parameters.length) = some 2 := by decide +kernel
theorem hy_X10_offers : yX10_offers.cls ≠ "java/lang/invoke/MethodHandle" ∧ yX10_offers.cls ≠ "java/lang/invoke/VarHandle" ∧ (parseMethodDescriptor yX10_offers.desc).map (fun d => d.parameters.length) = some 3 := by decide +kernel
theorem hy_X10_placeIn : yX10_placeIn.cls ≠ "java/lang/invoke/MethodHandle" ∧ yX10_placeIn.cls ≠ "java/lang/invoke/VarHandle" ∧ (parseMethodDescriptor yX10_placeIn.desc).map (fun d => d.parameters.length) = some 2 := by decide +kernel
theorem hy_X10_firstFrom : yX10_firstFrom.cls ≠ "java/lang/invoke/MethodHandle" ∧ yX10_firstFrom.cls ≠ "java/lang/invoke/VarHandle" ∧ (parseMethodDescriptor yX10_firstFrom.desc).map (fun d => d.parameters.length) = some 3 := by decide +kernel
theorem hy_X10_tells : yX10_tells.cls ≠ "java/lang/invoke/MethodHandle" ∧ yX10_tells.cls ≠ "java/lang/invoke/VarHandle" ∧ (parseMethodDescriptor yX10_tells.desc).map (fun d => d.parameters.length) = some 2 := by decide +kernel
theorem hy_X9_clash : yX9_clash.cls ≠ "java/lang/invoke/MethodHandle" ∧ yX9_clash.cls ≠ "java/lang/invoke/VarHandle" ∧ (parseMethodDescriptor yX9_clash.desc).map (fun d => d.parameters.length) = some 2 := by decide +kernel
theorem hy_X10_clash : yX10_clash.cls ≠ "java/lang/invoke/MethodHandle" ∧ yX10_clash.cls ≠ "java/lang/invoke/VarHandle" ∧ (parseMethodDescriptor yX10_clash.desc).map (fun d => d.parameters.length) = some 2 := by decide +kernel
theorem hy_X10_clashOf : yX10_clashOf.cls ≠ "java/lang/invoke/MethodHandle" ∧ yX10_clashOf.cls ≠ "java/lang/invoke/VarHandle" ∧ (parseMethodDescriptor yX10_clashOf.desc).map (fun d => d.parameters.length) = some 2 := by decide +kernel
theorem hy_X10_isByLine : yX10_isByLine.cls ≠ "java/lang/invoke/MethodHandle" ∧ yX10_isByLine.cls ≠ "java/lang/invoke/VarHandle" ∧ (parseMethodDescriptor yX10_isByLine.desc).map (fun d => d.parameters.length) = some 3 := by decide +kernel
theorem hy_X10_standsUnder : yX10_standsUnder.cls ≠ "java/lang/invoke/MethodHandle" ∧ yX10_standsUnder.cls ≠ "java/lang/invoke/VarHandle" ∧ (parseMethodDescriptor yX10_standsUnder.desc).map (fun d => d.parameters.length) = some 2 := by decide +kernel
theorem hy_X9_about : yX9_about.cls ≠ "java/lang/invoke/MethodHandle" ∧ yX9_about.cls ≠ "java/lang/invoke/VarHandle" ∧ (parseMethodDescriptor yX9_about.desc).map (fun d => d.parameters.length) = some 3 := by decide +kernel
theorem hy_X1_guardCount : yX1_guardCount.cls ≠ "java/lang/invoke/MethodHandle" ∧ yX1_guardCount.cls ≠ "java/lang/invoke/VarHandle" ∧ (parseMethodDescriptor yX1_guardCount.desc).map (fun d => d.parameters.length) = some 2 := by decide +kernel
theorem hy_X1_guardAt : yX1_guardAt.cls ≠ "java/lang/invoke/MethodHandle" ∧ yX1_guardAt.cls ≠ "java/lang/invoke/VarHandle" ∧ (parseMethodDescriptor yX1_guardAt.desc).map (fun d => d.parameters.length) = some 3 := by decide +kernel
theorem hy_X8_guardFor : yX8_guardFor.cls ≠ "java/lang/invoke/MethodHandle" ∧ yX8_guardFor.cls ≠ "java/lang/invoke/VarHandle" ∧ (parseMethodDescriptor yX8_guardFor.desc).map (fun d => d.parameters.length) = some 1 := by decide +kernel
theorem hy_X1_aboutChosen : yX1_aboutChosen.cls ≠ "java/lang/invoke/MethodHandle" ∧ yX1_aboutChosen.cls ≠ "java/lang/invoke/VarHandle" ∧ (parseMethodDescriptor yX1_aboutChosen.desc).map (fun d => d.parameters.length) = some 3 := by decide +kernel
theorem hy_X10_about : yX10_about.cls ≠ "java/lang/invoke/MethodHandle" ∧ yX10_about.cls ≠ "java/lang/invoke/VarHandle" ∧ (parseMethodDescriptor yX10_about.desc).map (fun d => d.parameters.length) = some 3 := by decide +kernel
theorem hy_X10_aboutOf : yX10_aboutOf.cls ≠ "java/lang/invoke/MethodHandle" ∧ yX10_aboutOf.cls ≠ "java/lang/invoke/VarHandle" ∧ (parseMethodDescriptor yX10_aboutOf.desc).map (fun d => d.parameters.length) = some 3 := by decide +kernel
theorem hy_X10_guardAt : yX10_guardAt.cls ≠ "java/lang/invoke/MethodHandle" ∧ yX10_guardAt.cls ≠ "java/lang/invoke/VarHandle" ∧ (parseMethodDescriptor yX10_guardAt.desc).map (fun d => d.parameters.length) = some 3 := by decide +kernel
theorem hy_X10_bridges : yX10_bridges.cls ≠ "java/lang/invoke/MethodHandle" ∧ yX10_bridges.cls ≠ "java/lang/invoke/VarHandle" ∧ (parseMethodDescriptor yX10_bridges.desc).map (fun d => d.parameters.length) = some 3 := by decide +kernel
theorem hy_X9_above : yX9_above.cls ≠ "java/lang/invoke/MethodHandle" ∧ yX9_above.cls ≠ "java/lang/invoke/VarHandle" ∧ (parseMethodDescriptor yX9_above.desc).map (fun d => d.parameters.length) = some 3 := by decide +kernel
theorem hy_X1_climb : yX1_climb.cls ≠ "java/lang/invoke/MethodHandle" ∧ yX1_climb.cls ≠ "java/lang/invoke/VarHandle" ∧ (parseMethodDescriptor yX1_climb.desc).map (fun d => d.parameters.length) = some 3 := by decide +kernel
theorem hy_X1_bodyAbove : yX1_bodyAbove.cls ≠ "java/lang/invoke/MethodHandle" ∧ yX1_bodyAbove.cls ≠ "java/lang/invoke/VarHandle" ∧ (parseMethodDescriptor yX1_bodyAbove.desc).map (fun d => d.parameters.length) = some 3 := by decide +kernel
theorem hy_X10_above : yX10_above.cls ≠ "java/lang/invoke/MethodHandle" ∧ yX10_above.cls ≠ "java/lang/invoke/VarHandle" ∧ (parseMethodDescriptor yX10_above.desc).map (fun d => d.parameters.length) = some 3 := by decide +kernel
theorem hy_X9_guards : yX9_guards.cls ≠ "java/lang/invoke/MethodHandle" ∧ yX9_guards.cls ≠ "java/lang/invoke/VarHandle" ∧ (parseMethodDescriptor yX9_guards.desc).map (fun d => d.parameters.length) = some 3 := by decide +kernel
theorem hy_X1_guardingTrait : yX1_guardingTrait.cls ≠ "java/lang/invoke/MethodHandle" ∧ yX1_guardingTrait.cls ≠ "java/lang/invoke/VarHandle" ∧ (parseMethodDescriptor yX1_guardingTrait.desc).map (fun d => d.parameters.length) = some 3 := by decide +kernel
theorem hy_X10_guards : yX10_guards.cls ≠ "java/lang/invoke/MethodHandle" ∧ yX10_guards.cls ≠ "java/lang/invoke/VarHandle" ∧ (parseMethodDescriptor yX10_guards.desc).map (fun d => d.parameters.length) = some 3 := by decide +kernel
theorem hy_X9_isA : yX9_isA.cls ≠ "java/lang/invoke/MethodHandle" ∧ yX9_isA.cls ≠ "java/lang/invoke/VarHandle" ∧ (parseMethodDescriptor yX9_isA.desc).map (fun d => d.parameters.length) = some 2 := by decide +kernel
theorem hy_X10_isA : yX10_isA.cls ≠ "java/lang/invoke/MethodHandle" ∧ yX10_isA.cls ≠ "java/lang/invoke/VarHandle" ∧ (parseMethodDescriptor yX10_isA.desc).map (fun d => d.parameters.length) = some 2 := by decide +kernel
theorem hy_X9_play : yX9_play.cls ≠ "java/lang/invoke/MethodHandle" ∧ yX9_play.cls ≠ "java/lang/invoke/VarHandle" ∧ (parseMethodDescriptor yX9_play.desc).map (fun d => d.parameters.length) = some 3 := by decide +kernel
theorem hy_X6_perform : yX6_perform.cls ≠ "java/lang/invoke/MethodHandle" ∧ yX6_perform.cls ≠ "java/lang/invoke/VarHandle" ∧ (parseMethodDescriptor yX6_perform.desc).map (fun d => d.parameters.length) = some 3 := by decide +kernel
theorem hy_X6_callAct : yX6_callAct.cls ≠ "java/lang/invoke/MethodHandle" ∧ yX6_callAct.cls ≠ "java/lang/invoke/VarHandle" ∧ (parseMethodDescriptor yX6_callAct.desc).map (fun d => d.parameters.length) = some 5 := by decide +kernel
theorem hy_X6_fail : yX6_fail.cls ≠ "java/lang/invoke/MethodHandle" ∧ yX6_fail.cls ≠ "java/lang/invoke/VarHandle" ∧ (parseMethodDescriptor yX6_fail.desc).map (fun d => d.parameters.length) = some 1 := by decide +kernel
theorem hy_X6_isInReach : yX6_isInReach.cls ≠ "java/lang/invoke/MethodHandle" ∧ yX6_isInReach.cls ≠ "java/lang/invoke/VarHandle" ∧ (parseMethodDescriptor yX6_isInReach.desc).map (fun d => d.parameters.length) = some 3 := by decide +kernel
theorem hy_X6_doOpening : yX6_doOpening.cls ≠ "java/lang/invoke/MethodHandle" ∧ yX6_doOpening.cls ≠ "java/lang/invoke/VarHandle" ∧ (parseMethodDescriptor yX6_doOpening.desc).map (fun d => d.parameters.length) = some 7 := by decide +kernel
theorem hy_X5_firstAt : yX5_firstAt.cls ≠ "java/lang/invoke/MethodHandle" ∧ yX5_firstAt.cls ≠ "java/lang/invoke/VarHandle" ∧ (parseMethodDescriptor yX5_firstAt.desc).map (fun d => d.parameters.length) = some 1 := by decide +kernel
theorem hy_X5_kindAt : yX5_kindAt.cls ≠ "java/lang/invoke/MethodHandle" ∧ yX5_kindAt.cls ≠ "java/lang/invoke/VarHandle" ∧ (parseMethodDescriptor yX5_kindAt.desc).map (fun d => d.parameters.length) = some 1 := by decide +kernel
theorem hy_X6_takeFailureAway : yX6_takeFailureAway.cls ≠ "java/lang/invoke/MethodHandle" ∧ yX6_takeFailureAway.cls ≠ "java/lang/invoke/VarHandle" ∧ (parseMethodDescriptor yX6_takeFailureAway.desc).map (fun d => d.parameters.length) = some 1 := by decide +kernel
theorem hy_X5_secondAt : yX5_secondAt.cls ≠ "java/lang/invoke/MethodHandle" ∧ yX5_secondAt.cls ≠ "java/lang/invoke/VarHandle" ∧ (parseMethodDescriptor yX5_secondAt.desc).map (fun d => d.parameters.length) = some 1 := by decide +kernel
theorem hy_X1_bodyBy : yX1_bodyBy.cls ≠ "java/lang/invoke/MethodHandle" ∧ yX1_bodyBy.cls ≠ "java/lang/invoke/VarHandle" ∧ (parseMethodDescriptor yX1_bodyBy.desc).map (fun d => d.parameters.length) = some 3 := by decide +kernel
theorem hy_X6_partAbove : yX6_partAbove.cls ≠ "java/lang/invoke/MethodHandle" ∧ yX6_partAbove.cls ≠ "java/lang/invoke/VarHandle" ∧ (parseMethodDescriptor yX6_partAbove.desc).map (fun d => d.parameters.length) = some 3 := by decide +kernel
theorem hy_X5_isGuard : yX5_isGuard.cls ≠ "java/lang/invoke/MethodHandle" ∧ yX5_isGuard.cls ≠ "java/lang/invoke/VarHandle" ∧ (parseMethodDescriptor yX5_isGuard.desc).map (fun d => d.parameters.length) = some 0 := by decide +kernel
theorem hy_X6_doOps : yX6_doOps.cls ≠ "java/lang/invoke/MethodHandle" ∧ yX6_doOps.cls ≠ "java/lang/invoke/VarHandle" ∧ (parseMethodDescriptor yX6_doOps.desc).map (fun d => d.parameters.length) = some 6 := by decide +kernel
theorem hy_X5_opens : yX5_opens.cls ≠ "java/lang/invoke/MethodHandle" ∧ yX5_opens.cls ≠ "java/lang/invoke/VarHandle" ∧ (parseMethodDescriptor yX5_opens.desc).map (fun d => d.parameters.length) = some 1 := by decide +kernel
theorem hy_X6_doPlain : yX6_doPlain.cls ≠ "java/lang/invoke/MethodHandle" ∧ yX6_doPlain.cls ≠ "java/lang/invoke/VarHandle" ∧ (parseMethodDescriptor yX6_doPlain.desc).map (fun d => d.parameters.length) = some 5 := by decide +kernel
theorem hy_X7_add : yX7_add.cls ≠ "java/lang/invoke/MethodHandle" ∧ yX7_add.cls ≠ "java/lang/invoke/VarHandle" ∧ (parseMethodDescriptor yX7_add.desc).map (fun d => d.parameters.length) = some 5 := by decide +kernel
theorem hy_X2_putMood : yX2_putMood.cls ≠ "java/lang/invoke/MethodHandle" ∧ yX2_putMood.cls ≠ "java/lang/invoke/VarHandle" ∧ (parseMethodDescriptor yX2_putMood.desc).map (fun d => d.parameters.length) = some 2 := by decide +kernel
theorem hy_X2_moodAt : yX2_moodAt.cls ≠ "java/lang/invoke/MethodHandle" ∧ yX2_moodAt.cls ≠ "java/lang/invoke/VarHandle" ∧ (parseMethodDescriptor yX2_moodAt.desc).map (fun d => d.parameters.length) = some 1 := by decide +kernel
theorem hy_X6_goWithin : yX6_goWithin.cls ≠ "java/lang/invoke/MethodHandle" ∧ yX6_goWithin.cls ≠ "java/lang/invoke/VarHandle" ∧ (parseMethodDescriptor yX6_goWithin.desc).map (fun d => d.parameters.length) = some 5 := by decide +kernel
theorem hy_X1_insteadPlace : yX1_insteadPlace.cls ≠ "java/lang/invoke/MethodHandle" ∧ yX1_insteadPlace.cls ≠ "java/lang/invoke/VarHandle" ∧ (parseMethodDescriptor yX1_insteadPlace.desc).map (fun d => d.parameters.length) = some 3 := by decide +kernel
theorem hy_X10_play : yX10_play.cls ≠ "java/lang/invoke/MethodHandle" ∧ yX10_play.cls ≠ "java/lang/invoke/VarHandle" ∧ (parseMethodDescriptor yX10_play.desc).map (fun d => d.parameters.length) = some 3 := by decide +kernel
theorem hy_X10_against : yX10_against.cls ≠ "java/lang/invoke/MethodHandle" ∧ yX10_against.cls ≠ "java/lang/invoke/VarHandle" ∧ (parseMethodDescriptor yX10_against.desc).map (fun d => d.parameters.length) = some 3 := by decide +kernel
theorem hy_X10_pushLayer : yX10_pushLayer.cls ≠ "java/lang/invoke/MethodHandle" ∧ yX10_pushLayer.cls ≠ "java/lang/invoke/VarHandle" ∧ (parseMethodDescriptor yX10_pushLayer.desc).map (fun d => d.parameters.length) = some 4 := by decide +kernel
theorem hy_X10_pushes : yX10_pushes.cls ≠ "java/lang/invoke/MethodHandle" ∧ yX10_pushes.cls ≠ "java/lang/invoke/VarHandle" ∧ (parseMethodDescriptor yX10_pushes.desc).map (fun d => d.parameters.length) = some 4 := by decide +kernel
theorem hy_X10_does : yX10_does.cls ≠ "java/lang/invoke/MethodHandle" ∧ yX10_does.cls ≠ "java/lang/invoke/VarHandle" ∧ (parseMethodDescriptor yX10_does.desc).map (fun d => d.parameters.length) = some 1 := by decide +kernel
theorem hy_X10_pops : yX10_pops.cls ≠ "java/lang/invoke/MethodHandle" ∧ yX10_pops.cls ≠ "java/lang/invoke/VarHandle" ∧ (parseMethodDescriptor yX10_pops.desc).map (fun d => d.parameters.length) = some 0 := by decide +kernel
theorem hy_X10_fails : yX10_fails.cls ≠ "java/lang/invoke/MethodHandle" ∧ yX10_fails.cls ≠ "java/lang/invoke/VarHandle" ∧ (parseMethodDescriptor yX10_fails.desc).map (fun d => d.parameters.length) = some 1 := by decide +kernel
theorem hy_X10_lays : yX10_lays.cls ≠ "java/lang/invoke/MethodHandle" ∧ yX10_lays.cls ≠ "java/lang/invoke/VarHandle" ∧ (parseMethodDescriptor yX10_lays.desc).map (fun d => d.parameters.length) = some 2 := by decide +kernel
theorem hy_X10_isGuard : yX10_isGuard.cls ≠ "java/lang/invoke/MethodHandle" ∧ yX10_isGuard.cls ≠ "java/lang/invoke/VarHandle" ∧ (parseMethodDescriptor yX10_isGuard.desc).map (fun d => d.parameters.length) = some 1 := by decide +kernel
theorem hy_X10_opens : yX10_opens.cls ≠ "java/lang/invoke/MethodHandle" ∧ yX10_opens.cls ≠ "java/lang/invoke/VarHandle" ∧ (parseMethodDescriptor yX10_opens.desc).map (fun d => d.parameters.length) = some 4 := by decide +kernel
theorem hy_X10_pushOps : yX10_pushOps.cls ≠ "java/lang/invoke/MethodHandle" ∧ yX10_pushOps.cls ≠ "java/lang/invoke/VarHandle" ∧ (parseMethodDescriptor yX10_pushOps.desc).map (fun d => d.parameters.length) = some 6 := by decide +kernel
theorem hy_X10_around : yX10_around.cls ≠ "java/lang/invoke/MethodHandle" ∧ yX10_around.cls ≠ "java/lang/invoke/VarHandle" ∧ (parseMethodDescriptor yX10_around.desc).map (fun d => d.parameters.length) = some 1 := by decide +kernel
theorem hy_X9_told : yX9_told.cls ≠ "java/lang/invoke/MethodHandle" ∧ yX9_told.cls ≠ "java/lang/invoke/VarHandle" ∧ (parseMethodDescriptor yX9_told.desc).map (fun d => d.parameters.length) = some 1 := by decide +kernel
theorem hy_X6_tellingOf : yX6_tellingOf.cls ≠ "java/lang/invoke/MethodHandle" ∧ yX6_tellingOf.cls ≠ "java/lang/invoke/VarHandle" ∧ (parseMethodDescriptor yX6_tellingOf.desc).map (fun d => d.parameters.length) = some 1 := by decide +kernel
theorem hy_X10_told : yX10_told.cls ≠ "java/lang/invoke/MethodHandle" ∧ yX10_told.cls ≠ "java/lang/invoke/VarHandle" ∧ (parseMethodDescriptor yX10_told.desc).map (fun d => d.parameters.length) = some 1 := by decide +kernel
theorem hy_X9_marks : yX9_marks.cls ≠ "java/lang/invoke/MethodHandle" ∧ yX9_marks.cls ≠ "java/lang/invoke/VarHandle" ∧ (parseMethodDescriptor yX9_marks.desc).map (fun d => d.parameters.length) = some 0 := by decide +kernel
theorem hy_X10_marks : yX10_marks.cls ≠ "java/lang/invoke/MethodHandle" ∧ yX10_marks.cls ≠ "java/lang/invoke/VarHandle" ∧ (parseMethodDescriptor yX10_marks.desc).map (fun d => d.parameters.length) = some 0 := by decide +kernel
theorem hy_X9_mark : yX9_mark.cls ≠ "java/lang/invoke/MethodHandle" ∧ yX9_mark.cls ≠ "java/lang/invoke/VarHandle" ∧ (parseMethodDescriptor yX9_mark.desc).map (fun d => d.parameters.length) = some 2 := by decide +kernel
theorem hy_X7_cell : yX7_cell.cls ≠ "java/lang/invoke/MethodHandle" ∧ yX7_cell.cls ≠ "java/lang/invoke/VarHandle" ∧ (parseMethodDescriptor yX7_cell.desc).map (fun d => d.parameters.length) = some 2 := by decide +kernel
theorem hy_X10_mark : yX10_mark.cls ≠ "java/lang/invoke/MethodHandle" ∧ yX10_mark.cls ≠ "java/lang/invoke/VarHandle" ∧ (parseMethodDescriptor yX10_mark.desc).map (fun d => d.parameters.length) = some 2 := by decide +kernel
theorem hy_X9_mood : yX9_mood.cls ≠ "java/lang/invoke/MethodHandle" ∧ yX9_mood.cls ≠ "java/lang/invoke/VarHandle" ∧ (parseMethodDescriptor yX9_mood.desc).map (fun d => d.parameters.length) = some 2 := by decide +kernel
theorem hy_X10_mood : yX10_mood.cls ≠ "java/lang/invoke/MethodHandle" ∧ yX10_mood.cls ≠ "java/lang/invoke/VarHandle" ∧ (parseMethodDescriptor yX10_mood.desc).map (fun d => d.parameters.length) = some 2 := by decide +kernel
theorem hy_X9_setMood : yX9_setMood.cls ≠ "java/lang/invoke/MethodHandle" ∧ yX9_setMood.cls ≠ "java/lang/invoke/VarHandle" ∧ (parseMethodDescriptor yX9_setMood.desc).map (fun d => d.parameters.length) = some 3 := by decide +kernel
theorem hy_X10_setMood : yX10_setMood.cls ≠ "java/lang/invoke/MethodHandle" ∧ yX10_setMood.cls ≠ "java/lang/invoke/VarHandle" ∧ (parseMethodDescriptor yX10_setMood.desc).map (fun d => d.parameters.length) = some 3 := by decide +kernel
theorem hy_X9_count : yX9_count.cls ≠ "java/lang/invoke/MethodHandle" ∧ yX9_count.cls ≠ "java/lang/invoke/VarHandle" ∧ (parseMethodDescriptor yX9_count.desc).map (fun d => d.parameters.length) = some 1 := by decide +kernel
theorem hy_X1_countBodies : yX1_countBodies.cls ≠ "java/lang/invoke/MethodHandle" ∧ yX1_countBodies.cls ≠ "java/lang/invoke/VarHandle" ∧ (parseMethodDescriptor yX1_countBodies.desc).map (fun d => d.parameters.length) = some 0 := by decide +kernel
theorem hy_X8_countBodies : yX8_countBodies.cls ≠ "java/lang/invoke/MethodHandle" ∧ yX8_countBodies.cls ≠ "java/lang/invoke/VarHandle" ∧ (parseMethodDescriptor yX8_countBodies.desc).map (fun d => d.parameters.length) = some 0 := by decide +kernel
theorem hy_X1_countGuards : yX1_countGuards.cls ≠ "java/lang/invoke/MethodHandle" ∧ yX1_countGuards.cls ≠ "java/lang/invoke/VarHandle" ∧ (parseMethodDescriptor yX1_countGuards.desc).map (fun d => d.parameters.length) = some 0 := by decide +kernel
theorem hy_X8_countGuards : yX8_countGuards.cls ≠ "java/lang/invoke/MethodHandle" ∧ yX8_countGuards.cls ≠ "java/lang/invoke/VarHandle" ∧ (parseMethodDescriptor yX8_countGuards.desc).map (fun d => d.parameters.length) = some 0 := by decide +kernel
theorem hy_X1_countClashes : yX1_countClashes.cls ≠ "java/lang/invoke/MethodHandle" ∧ yX1_countClashes.cls ≠ "java/lang/invoke/VarHandle" ∧ (parseMethodDescriptor yX1_countClashes.desc).map (fun d => d.parameters.length) = some 0 := by decide +kernel
theorem hy_X1_countMissing : yX1_countMissing.cls ≠ "java/lang/invoke/MethodHandle" ∧ yX1_countMissing.cls ≠ "java/lang/invoke/VarHandle" ∧ (parseMethodDescriptor yX1_countMissing.desc).map (fun d => d.parameters.length) = some 0 := by decide +kernel
theorem hy_X10_count : yX10_count.cls ≠ "java/lang/invoke/MethodHandle" ∧ yX10_count.cls ≠ "java/lang/invoke/VarHandle" ∧ (parseMethodDescriptor yX10_count.desc).map (fun d => d.parameters.length) = some 1 := by decide +kernel
theorem hy_X9_digest : yX9_digest.cls ≠ "java/lang/invoke/MethodHandle" ∧ yX9_digest.cls ≠ "java/lang/invoke/VarHandle" ∧ (parseMethodDescriptor yX9_digest.desc).map (fun d => d.parameters.length) = some 0 := by decide +kernel
theorem hy_X1_digestFigure : yX1_digestFigure.cls ≠ "java/lang/invoke/MethodHandle" ∧ yX1_digestFigure.cls ≠ "java/lang/invoke/VarHandle" ∧ (parseMethodDescriptor yX1_digestFigure.desc).map (fun d => d.parameters.length) = some 2 := by decide +kernel
theorem hy_X10_digest : yX10_digest.cls ≠ "java/lang/invoke/MethodHandle" ∧ yX10_digest.cls ≠ "java/lang/invoke/VarHandle" ∧ (parseMethodDescriptor yX10_digest.desc).map (fun d => d.parameters.length) = some 0 := by decide +kernel
theorem g9_10 {p : Program} {l : Launch} {e : Env} {R : Room} {s : State} {m : MethodId} {args : Array Value} {below : List Frame} {meth : Method} {c : Code} {D : va_G} {G : Nat → ClassId} {bs nL cells slots pc : Nat} {cc : ByteArray} {Q : State → Prop} {S : Mem} {lv : List (Option Value)} {st : List Value} (C : Cx p s m args meth c D G bs cc nL RX9) {a : Nat} (ha : is S a 9) (hd : decode cc pc = .ok (.getfield 10, 3)) (kk : V p l e R s m args below meth c D G bs nL Q cells slots S (pc + 3) lv (va_rf (mO S 576 a) :: st)) : V p l e R s m args below meth c D G bs nL Q cells slots S (pc) lv (.ref a :: st) := v_get C ha (by decide) rfl inlX9 (k := 0) (by decide) wd16 rfl rfl hd kk
theorem r9_10 {p : Program} {l : Launch} {e : Env} {R : Room} {s : State} {m : MethodId} {args : Array Value} {below : List Frame} {meth : Method} {c : Code} {D : va_G} {G : Nat → ClassId} {bs nL cells slots pc : Nat} {cc : ByteArray} {Q : State → Prop} {S : Mem} {lv : List (Option Value)} {st : List Value} (C : Cx p s m args meth c D G bs cc nL RX9) {a : Nat} (ha : is S a 9) {b : Nat} (hb : mO S 576 a = some b) (hd : decode cc pc = .ok (.getfield 10, 3)) (kk : V p l e R s m args below meth c D G bs nL Q cells slots S (pc + 3) lv (.ref b :: st)) : V p l e R s m args below meth c D G bs nL Q cells slots S (pc) lv (.ref a :: st) := g9_10 C ha hd (by rw [hb]; exact kk)
theorem p9_10 {p : Program} {l : Launch} {e : Env} {R : Room} {s : State} {m : MethodId} {args : Array Value} {below : List Frame} {meth : Method} {c : Code} {D : va_G} {G : Nat → ClassId} {bs nL cells slots pc : Nat} {cc : ByteArray} {Q : State → Prop} {S : Mem} {lv : List (Option Value)} {st : List Value} (C : Cx p s m args meth c D G bs cc nL RX9) {a : Nat} (ha : is S a 9) (hin : meth.name = "<init>") {v : Option Nat} (hd : decode cc pc = .ok (.putfield 10, 3)) (kk : V p l e R s m args below meth c D G bs nL Q cells slots (sO S 576 a v) (pc + 3) lv (st)) : V p l e R s m args below meth c D G bs nL Q cells slots S (pc) lv (va_rf v :: .ref a :: st) := v_put (S' := sO S 576 a v) C ha (by decide) rfl inlX9 tyX9_ok nmX9 (k := 0) (by decide) wd16 rfl (Or.inr ⟨rfl, hin, rfl⟩) (tyX9_ok 0 (by decide)) (by cases v <;> rfl) (by cases v <;> rfl) (by decide) rfl (cell_sO (G := G) (S := S) (k := 0) v ha.2 (by decide) rfl) hd kk
theorem g9_21 {p : Program} {l : Launch} {e : Env} {R : Room} {s : State} {m : MethodId} {args : Array Value} {below : List Frame} {meth : Method} {c : Code} {D : va_G} {G : Nat → ClassId} {bs nL cells slots pc : Nat} {cc : ByteArray} {Q : State → Prop} {S : Mem} {lv : List (Option Value)} {st : List Value} (C : Cx p s m args meth c D G bs cc nL RX9) {a : Nat} (ha : is S a 9) (hd : decode cc pc = .ok (.getfield 21, 3)) (kk : V p l e R s m args below meth c D G bs nL Q cells slots S (pc + 3) lv (va_rf (mO S 577 a) :: st)) : V p l e R s m args below meth c D G bs nL Q cells slots S (pc) lv (.ref a :: st) := v_get C ha (by decide) rfl inlX9 (k := 1) (by decide) wd20 rfl rfl hd kk
theorem r9_21 {p : Program} {l : Launch} {e : Env} {R : Room} {s : State} {m : MethodId} {args : Array Value} {below : List Frame} {meth : Method} {c : Code} {D : va_G} {G : Nat → ClassId} {bs nL cells slots pc : Nat} {cc : ByteArray} {Q : State → Prop} {S : Mem} {lv : List (Option Value)} {st : List Value} (C : Cx p s m args meth c D G bs cc nL RX9) {a : Nat} (ha : is S a 9) {b : Nat} (hb : mO S 577 a = some b) (hd : decode cc pc = .ok (.getfield 21, 3)) (kk : V p l e R s m args below meth c D G bs nL Q cells slots S (pc + 3) lv (.ref b :: st)) : V p l e R s m args below meth c D G bs nL Q cells slots S (pc) lv (.ref a :: st) := g9_21 C ha hd (by rw [hb]; exact kk)
theorem p9_21 {p : Program} {l : Launch} {e : Env} {R : Room} {s : State} {m : MethodId} {args : Array Value} {below : List Frame} {meth : Method} {c : Code} {D : va_G} {G : Nat → ClassId} {bs nL cells slots pc : Nat} {cc : ByteArray} {Q : State → Prop} {S : Mem} {lv : List (Option Value)} {st : List Value} (C : Cx p s m args meth c D G bs cc nL RX9) {a : Nat} (ha : is S a 9) (hin : meth.name = "<init>") {v : Option Nat} (hd : decode cc pc = .ok (.putfield 21, 3)) (kk : V p l e R s m args below meth c D G bs nL Q cells slots (sO S 577 a v) (pc + 3) lv (st)) : V p l e R s m args below meth c D G bs nL Q cells slots S (pc) lv (va_rf v :: .ref a :: st) := v_put (S' := sO S 577 a v) C ha (by decide) rfl inlX9 tyX9_ok nmX9 (k := 1) (by decide) wd20 rfl (Or.inr ⟨rfl, hin, rfl⟩) (tyX9_ok 1 (by decide)) (by cases v <;> rfl) (by cases v <;> rfl) (by decide) rfl (cell_sO (G := G) (S := S) (k := 1) v ha.2 (by decide) rfl) hd kk
theorem g9_25 {p : Program} {l : Launch} {e : Env} {R : Room} {s : State} {m : MethodId} {args : Array Value} {below : List Frame} {meth : Method} {c : Code} {D : va_G} {G : Nat → ClassId} {bs nL cells slots pc : Nat} {cc : ByteArray} {Q : State → Prop} {S : Mem} {lv : List (Option Value)} {st : List Value} (C : Cx p s m args meth c D G bs cc nL RX9) {a : Nat} (ha : is S a 9) (hd : decode cc pc = .ok (.getfield 25, 3)) (kk : V p l e R s m args below meth c D G bs nL Q cells slots S (pc + 3) lv (va_rf (mO S 578 a) :: st)) : V p l e R s m args below meth c D G bs nL Q cells slots S (pc) lv (.ref a :: st) := v_get C ha (by decide) rfl inlX9 (k := 2) (by decide) wd21 rfl rfl hd kk
theorem r9_25 {p : Program} {l : Launch} {e : Env} {R : Room} {s : State} {m : MethodId} {args : Array Value} {below : List Frame} {meth : Method} {c : Code} {D : va_G} {G : Nat → ClassId} {bs nL cells slots pc : Nat} {cc : ByteArray} {Q : State → Prop} {S : Mem} {lv : List (Option Value)} {st : List Value} (C : Cx p s m args meth c D G bs cc nL RX9) {a : Nat} (ha : is S a 9) {b : Nat} (hb : mO S 578 a = some b) (hd : decode cc pc = .ok (.getfield 25, 3)) (kk : V p l e R s m args below meth c D G bs nL Q cells slots S (pc + 3) lv (.ref b :: st)) : V p l e R s m args below meth c D G bs nL Q cells slots S (pc) lv (.ref a :: st) := g9_25 C ha hd (by rw [hb]; exact kk)
theorem p9_25 {p : Program} {l : Launch} {e : Env} {R : Room} {s : State} {m : MethodId} {args : Array Value} {below : List Frame} {meth : Method} {c : Code} {D : va_G} {G : Nat → ClassId} {bs nL cells slots pc : Nat} {cc : ByteArray} {Q : State → Prop} {S : Mem} {lv : List (Option Value)} {st : List Value} (C : Cx p s m args meth c D G bs cc nL RX9) {a : Nat} (ha : is S a 9) {v : Option Nat} (hd : decode cc pc = .ok (.putfield 25, 3)) (kk : V p l e R s m args below meth c D G bs nL Q cells slots (sO S 578 a v) (pc + 3) lv (st)) : V p l e R s m args below meth c D G bs nL Q cells slots S (pc) lv (va_rf v :: .ref a :: st) := v_put (S' := sO S 578 a v) C ha (by decide) rfl inlX9 tyX9_ok nmX9 (k := 2) (by decide) wd21 rfl (Or.inl rfl) (tyX9_ok 2 (by decide)) (by cases v <;> rfl) (by cases v <;> rfl) (by decide) rfl (cell_sO (G := G) (S := S) (k := 2) v ha.2 (by decide) rfl) hd kk
theorem g1_11 {p : Program} {l : Launch} {e : Env} {R : Room} {s : State} {m : MethodId} {args : Array Value} {below : List Frame} {meth : Method} {c : Code} {D : va_G} {G : Nat → ClassId} {bs nL cells slots pc : Nat} {cc : ByteArray} {Q : State → Prop} {S : Mem} {lv : List (Option Value)} {st : List Value} (C : Cx p s m args meth c D G bs cc nL RX1) {a : Nat} (ha : is S a 1) (hd : decode cc pc = .ok (.getfield 11, 3)) (kk : V p l e R s m args below meth c D G bs nL Q cells slots S (pc + 3) lv (va_rf (mO S 64 a) :: st)) : V p l e R s m args below meth c D G bs nL Q cells slots S (pc) lv (.ref a :: st) := v_get C ha (by decide) rfl inlX1 (k := 0) (by decide) wd26 rfl rfl hd kk
theorem r1_11 {p : Program} {l : Launch} {e : Env} {R : Room} {s : State} {m : MethodId} {args : Array Value} {below : List Frame} {meth : Method} {c : Code} {D : va_G} {G : Nat → ClassId} {bs nL cells slots pc : Nat} {cc : ByteArray} {Q : State → Prop} {S : Mem} {lv : List (Option Value)} {st : List Value} (C : Cx p s m args meth c D G bs cc nL RX1) {a : Nat} (ha : is S a 1) {b : Nat} (hb : mO S 64 a = some b) (hd : decode cc pc = .ok (.getfield 11, 3)) (kk : V p l e R s m args below meth c D G bs nL Q cells slots S (pc + 3) lv (.ref b :: st)) : V p l e R s m args below meth c D G bs nL Q cells slots S (pc) lv (.ref a :: st) := g1_11 C ha hd (by rw [hb]; exact kk)
theorem p1_11 {p : Program} {l : Launch} {e : Env} {R : Room} {s : State} {m : MethodId} {args : Array Value} {below : List Frame} {meth : Method} {c : Code} {D : va_G} {G : Nat → ClassId} {bs nL cells slots pc : Nat} {cc : ByteArray} {Q : State → Prop} {S : Mem} {lv : List (Option Value)} {st : List Value} (C : Cx p s m args meth c D G bs cc nL RX1) {a : Nat} (ha : is S a 1) (hin : meth.name = "<init>") {v : Option Nat} (hd : decode cc pc = .ok (.putfield 11, 3)) (kk : V p l e R s m args below meth c D G bs nL Q cells slots (sO S 64 a v) (pc + 3) lv (st)) : V p l e R s m args below meth c D G bs nL Q cells slots S (pc) lv (va_rf v :: .ref a :: st) := v_put (S' := sO S 64 a v) C ha (by decide) rfl inlX1 tyX1_ok nmX1 (k := 0) (by decide) wd26 rfl (Or.inr ⟨rfl, hin, rfl⟩) (tyX1_ok 0 (by decide)) (by cases v <;> rfl) (by cases v <;> rfl) (by decide) rfl (cell_sO (G := G) (S := S) (k := 0) v ha.2 (by decide) rfl) hd kk
theorem g1_19 {p : Program} {l : Launch} {e : Env} {R : Room} {s : State} {m : MethodId} {args : Array Value} {below : List Frame} {meth : Method} {c : Code} {D : va_G} {G : Nat → ClassId} {bs nL cells slots pc : Nat} {cc : ByteArray} {Q : State → Prop} {S : Mem} {lv : List (Option Value)} {st : List Value} (C : Cx p s m args meth c D G bs cc nL RX1) {a : Nat} (ha : is S a 1) (hd : decode cc pc = .ok (.getfield 19, 3)) (kk : V p l e R s m args below meth c D G bs nL Q cells slots S (pc + 3) lv (va_rf (mO S 66 a) :: st)) : V p l e R s m args below meth c D G bs nL Q cells slots S (pc) lv (.ref a :: st) := v_get C ha (by decide) rfl inlX1 (k := 2) (by decide) wd28 rfl rfl hd kk
theorem r1_19 {p : Program} {l : Launch} {e : Env} {R : Room} {s : State} {m : MethodId} {args : Array Value} {below : List Frame} {meth : Method} {c : Code} {D : va_G} {G : Nat → ClassId} {bs nL cells slots pc : Nat} {cc : ByteArray} {Q : State → Prop} {S : Mem} {lv : List (Option Value)} {st : List Value} (C : Cx p s m args meth c D G bs cc nL RX1) {a : Nat} (ha : is S a 1) {b : Nat} (hb : mO S 66 a = some b) (hd : decode cc pc = .ok (.getfield 19, 3)) (kk : V p l e R s m args below meth c D G bs nL Q cells slots S (pc + 3) lv (.ref b :: st)) : V p l e R s m args below meth c D G bs nL Q cells slots S (pc) lv (.ref a :: st) := g1_19 C ha hd (by rw [hb]; exact kk)
theorem p1_19 {p : Program} {l : Launch} {e : Env} {R : Room} {s : State} {m : MethodId} {args : Array Value} {below : List Frame} {meth : Method} {c : Code} {D : va_G} {G : Nat → ClassId} {bs nL cells slots pc : Nat} {cc : ByteArray} {Q : State → Prop} {S : Mem} {lv : List (Option Value)} {st : List Value} (C : Cx p s m args meth c D G bs cc nL RX1) {a : Nat} (ha : is S a 1) (hin : meth.name = "<init>") {v : Option Nat} (hd : decode cc pc = .ok (.putfield 19, 3)) (kk : V p l e R s m args below meth c D G bs nL Q cells slots (sO S 66 a v) (pc + 3) lv (st)) : V p l e R s m args below meth c D G bs nL Q cells slots S (pc) lv (va_rf v :: .ref a :: st) := v_put (S' := sO S 66 a v) C ha (by decide) rfl inlX1 tyX1_ok nmX1 (k := 2) (by decide) wd28 rfl (Or.inr ⟨rfl, hin, rfl⟩) (tyX1_ok 2 (by decide)) (by cases v <;> rfl) (by cases v <;> rfl) (by decide) rfl (cell_sO (G := G) (S := S) (k := 2) v ha.2 (by decide) rfl) hd kk
theorem g1_26 {p : Program} {l : Launch} {e : Env} {R : Room} {s : State} {m : MethodId} {args : Array Value} {below : List Frame} {meth : Method} {c : Code} {D : va_G} {G : Nat → ClassId} {bs nL cells slots pc : Nat} {cc : ByteArray} {Q : State → Prop} {S : Mem} {lv : List (Option Value)} {st : List Value} (C : Cx p s m args meth c D G bs cc nL RX1) {a : Nat} (ha : is S a 1) (hd : decode cc pc = .ok (.getfield 26, 3)) (kk : V p l e R s m args below meth c D G bs nL Q cells slots S (pc + 3) lv (va_rf (mO S 68 a) :: st)) : V p l e R s m args below meth c D G bs nL Q cells slots S (pc) lv (.ref a :: st) := v_get C ha (by decide) rfl inlX1 (k := 4) (by decide) wd32 rfl rfl hd kk
theorem r1_26 {p : Program} {l : Launch} {e : Env} {R : Room} {s : State} {m : MethodId} {args : Array Value} {below : List Frame} {meth : Method} {c : Code} {D : va_G} {G : Nat → ClassId} {bs nL cells slots pc : Nat} {cc : ByteArray} {Q : State → Prop} {S : Mem} {lv : List (Option Value)} {st : List Value} (C : Cx p s m args meth c D G bs cc nL RX1) {a : Nat} (ha : is S a 1) {b : Nat} (hb : mO S 68 a = some b) (hd : decode cc pc = .ok (.getfield 26, 3)) (kk : V p l e R s m args below meth c D G bs nL Q cells slots S (pc + 3) lv (.ref b :: st)) : V p l e R s m args below meth c D G bs nL Q cells slots S (pc) lv (.ref a :: st) := g1_26 C ha hd (by rw [hb]; exact kk)
theorem p1_26 {p : Program} {l : Launch} {e : Env} {R : Room} {s : State} {m : MethodId} {args : Array Value} {below : List Frame} {meth : Method} {c : Code} {D : va_G} {G : Nat → ClassId} {bs nL cells slots pc : Nat} {cc : ByteArray} {Q : State → Prop} {S : Mem} {lv : List (Option Value)} {st : List Value} (C : Cx p s m args meth c D G bs cc nL RX1) {a : Nat} (ha : is S a 1) (hin : meth.name = "<init>") {v : Option Nat} (hd : decode cc pc = .ok (.putfield 26, 3)) (kk : V p l e R s m args below meth c D G bs nL Q cells slots (sO S 68 a v) (pc + 3) lv (st)) : V p l e R s m args below meth c D G bs nL Q cells slots S (pc) lv (va_rf v :: .ref a :: st) := v_put (S' := sO S 68 a v) C ha (by decide) rfl inlX1 tyX1_ok nmX1 (k := 4) (by decide) wd32 rfl (Or.inr ⟨rfl, hin, rfl⟩) (tyX1_ok 4 (by decide)) (by cases v <;> rfl) (by cases v <;> rfl) (by decide) rfl (cell_sO (G := G) (S := S) (k := 4) v ha.2 (by decide) rfl) hd kk
theorem g1_33 {p : Program} {l : Launch} {e : Env} {R : Room} {s : State} {m : MethodId} {args : Array Value} {below : List Frame} {meth : Method} {c : Code} {D : va_G} {G : Nat → ClassId} {bs nL cells slots pc : Nat} {cc : ByteArray} {Q : State → Prop} {S : Mem} {lv : List (Option Value)} {st : List Value} (C : Cx p s m args meth c D G bs cc nL RX1) {a : Nat} (ha : is S a 1) (hd : decode cc pc = .ok (.getfield 33, 3)) (kk : V p l e R s m args below meth c D G bs nL Q cells slots S (pc + 3) lv (va_rf (mO S 69 a) :: st)) : V p l e R s m args below meth c D G bs nL Q cells slots S (pc) lv (.ref a :: st) := v_get C ha (by decide) rfl inlX1 (k := 5) (by decide) wd36 rfl rfl hd kk
theorem r1_33 {p : Program} {l : Launch} {e : Env} {R : Room} {s : State} {m : MethodId} {args : Array Value} {below : List Frame} {meth : Method} {c : Code} {D : va_G} {G : Nat → ClassId} {bs nL cells slots pc : Nat} {cc : ByteArray} {Q : State → Prop} {S : Mem} {lv : List (Option Value)} {st : List Value} (C : Cx p s m args meth c D G bs cc nL RX1) {a : Nat} (ha : is S a 1) {b : Nat} (hb : mO S 69 a = some b) (hd : decode cc pc = .ok (.getfield 33, 3)) (kk : V p l e R s m args below meth c D G bs nL Q cells slots S (pc + 3) lv (.ref b :: st)) : V p l e R s m args below meth c D G bs nL Q cells slots S (pc) lv (.ref a :: st) := g1_33 C ha hd (by rw [hb]; exact kk)
theorem p1_33 {p : Program} {l : Launch} {e : Env} {R : Room} {s : State} {m : MethodId} {args : Array Value} {below : List Frame} {meth : Method} {c : Code} {D : va_G} {G : Nat → ClassId} {bs nL cells slots pc : Nat} {cc : ByteArray} {Q : State → Prop} {S : Mem} {lv : List (Option Value)} {st : List Value} (C : Cx p s m args meth c D G bs cc nL RX1) {a : Nat} (ha : is S a 1) (hin : meth.name = "<init>") {v : Option Nat} (hd : decode cc pc = .ok (.putfield 33, 3)) (kk : V p l e R s m args below meth c D G bs nL Q cells slots (sO S 69 a v) (pc + 3) lv (st)) : V p l e R s m args below meth c D G bs nL Q cells slots S (pc) lv (va_rf v :: .ref a :: st) := v_put (S' := sO S 69 a v) C ha (by decide) rfl inlX1 tyX1_ok nmX1 (k := 5) (by decide) wd36 rfl (Or.inr ⟨rfl, hin, rfl⟩) (tyX1_ok 5 (by decide)) (by cases v <;> rfl) (by cases v <;> rfl) (by decide) rfl (cell_sO (G := G) (S := S) (k := 5) v ha.2 (by decide) rfl) hd kk
theorem g4_13 {p : Program} {l : Launch} {e : Env} {R : Room} {s : State} {m : MethodId} {args : Array Value} {below : List Frame} {meth : Method} {c : Code} {D : va_G} {G : Nat → ClassId} {bs nL cells slots pc : Nat} {cc : ByteArray} {Q : State → Prop} {S : Mem} {lv : List (Option Value)} {st : List Value} (C : Cx p s m args meth c D G bs cc nL RX4) {a : Nat} (ha : is S a 4) (hd : decode cc pc = .ok (.getfield 13, 3)) (kk : V p l e R s m args below meth c D G bs nL Q cells slots S (pc + 3) lv (va_rf (mO S 256 a) :: st)) : V p l e R s m args below meth c D G bs nL Q cells slots S (pc) lv (.ref a :: st) := v_get C ha (by decide) rfl inlX4 (k := 0) (by decide) wd41 rfl rfl hd kk
theorem r4_13 {p : Program} {l : Launch} {e : Env} {R : Room} {s : State} {m : MethodId} {args : Array Value} {below : List Frame} {meth : Method} {c : Code} {D : va_G} {G : Nat → ClassId} {bs nL cells slots pc : Nat} {cc : ByteArray} {Q : State → Prop} {S : Mem} {lv : List (Option Value)} {st : List Value} (C : Cx p s m args meth c D G bs cc nL RX4) {a : Nat} (ha : is S a 4) {b : Nat} (hb : mO S 256 a = some b) (hd : decode cc pc = .ok (.getfield 13, 3)) (kk : V p l e R s m args below meth c D G bs nL Q cells slots S (pc + 3) lv (.ref b :: st)) : V p l e R s m args below meth c D G bs nL Q cells slots S (pc) lv (.ref a :: st) := g4_13 C ha hd (by rw [hb]; exact kk)
theorem p4_13 {p : Program} {l : Launch} {e : Env} {R : Room} {s : State} {m : MethodId} {args : Array Value} {below : List Frame} {meth : Method} {c : Code} {D : va_G} {G : Nat → ClassId} {bs nL cells slots pc : Nat} {cc : ByteArray} {Q : State → Prop} {S : Mem} {lv : List (Option Value)} {st : List Value} (C : Cx p s m args meth c D G bs cc nL RX4) {a : Nat} (ha : is S a 4) (hin : meth.name = "<init>") {v : Option Nat} (hd : decode cc pc = .ok (.putfield 13, 3)) (kk : V p l e R s m args below meth c D G bs nL Q cells slots (sO S 256 a v) (pc + 3) lv (st)) : V p l e R s m args below meth c D G bs nL Q cells slots S (pc) lv (va_rf v :: .ref a :: st) := v_put (S' := sO S 256 a v) C ha (by decide) rfl inlX4 tyX4_ok nmX4 (k := 0) (by decide) wd41 rfl (Or.inr ⟨rfl, hin, rfl⟩) (tyX4_ok 0 (by decide)) (by cases v <;> rfl) (by cases v <;> rfl) (by decide) rfl (cell_sO (G := G) (S := S) (k := 0) v ha.2 (by decide) rfl) hd kk
theorem g4_17 {p : Program} {l : Launch} {e : Env} {R : Room} {s : State} {m : MethodId} {args : Array Value} {below : List Frame} {meth : Method} {c : Code} {D : va_G} {G : Nat → ClassId} {bs nL cells slots pc : Nat} {cc : ByteArray} {Q : State → Prop} {S : Mem} {lv : List (Option Value)} {st : List Value} (C : Cx p s m args meth c D G bs cc nL RX4) {a : Nat} (ha : is S a 4) (hd : decode cc pc = .ok (.getfield 17, 3)) (kk : V p l e R s m args below meth c D G bs nL Q cells slots S (pc + 3) lv (va_rf (mO S 257 a) :: st)) : V p l e R s m args below meth c D G bs nL Q cells slots S (pc) lv (.ref a :: st) := v_get C ha (by decide) rfl inlX4 (k := 1) (by decide) wd43 rfl rfl hd kk
theorem r4_17 {p : Program} {l : Launch} {e : Env} {R : Room} {s : State} {m : MethodId} {args : Array Value} {below : List Frame} {meth : Method} {c : Code} {D : va_G} {G : Nat → ClassId} {bs nL cells slots pc : Nat} {cc : ByteArray} {Q : State → Prop} {S : Mem} {lv : List (Option Value)} {st : List Value} (C : Cx p s m args meth c D G bs cc nL RX4) {a : Nat} (ha : is S a 4) {b : Nat} (hb : mO S 257 a = some b) (hd : decode cc pc = .ok (.getfield 17, 3)) (kk : V p l e R s m args below meth c D G bs nL Q cells slots S (pc + 3) lv (.ref b :: st)) : V p l e R s m args below meth c D G bs nL Q cells slots S (pc) lv (.ref a :: st) := g4_17 C ha hd (by rw [hb]; exact kk)
theorem p4_17 {p : Program} {l : Launch} {e : Env} {R : Room} {s : State} {m : MethodId} {args : Array Value} {below : List Frame} {meth : Method} {c : Code} {D : va_G} {G : Nat → ClassId} {bs nL cells slots pc : Nat} {cc : ByteArray} {Q : State → Prop} {S : Mem} {lv : List (Option Value)} {st : List Value} (C : Cx p s m args meth c D G bs cc nL RX4) {a : Nat} (ha : is S a 4) (hin : meth.name = "<init>") {v : Option Nat} (hd : decode cc pc = .ok (.putfield 17, 3)) (kk : V p l e R s m args below meth c D G bs nL Q cells slots (sO S 257 a v) (pc + 3) lv (st)) : V p l e R s m args below meth c D G bs nL Q cells slots S (pc) lv (va_rf v :: .ref a :: st) := v_put (S' := sO S 257 a v) C ha (by decide) rfl inlX4 tyX4_ok nmX4 (k := 1) (by decide) wd43 rfl (Or.inr ⟨rfl, hin, rfl⟩) (tyX4_ok 1 (by decide)) (by cases v <;> rfl) (by cases v <;> rfl) (by decide) rfl (cell_sO (G := G) (S := S) (k := 1) v ha.2 (by decide) rfl) hd kk
theorem g4_22 {p : Program} {l : Launch} {e : Env} {R : Room} {s : State} {m : MethodId} {args : Array Value} {below : List Frame} {meth : Method} {c : Code} {D : va_G} {G : Nat → ClassId} {bs nL cells slots pc : Nat} {cc : ByteArray} {Q : State → Prop} {S : Mem} {lv : List (Option Value)} {st : List Value} (C : Cx p s m args meth c D G bs cc nL RX4) {a : Nat} (ha : is S a 4) (hd : decode cc pc = .ok (.getfield 22, 3)) (kk : V p l e R s m args below meth c D G bs nL Q cells slots S (pc + 3) lv (va_rf (mO S 258 a) :: st)) : V p l e R s m args below meth c D G bs nL Q cells slots S (pc) lv (.ref a :: st) := v_get C ha (by decide) rfl inlX4 (k := 2) (by decide) wd46 rfl rfl hd kk
theorem r4_22 {p : Program} {l : Launch} {e : Env} {R : Room} {s : State} {m : MethodId} {args : Array Value} {below : List Frame} {meth : Method} {c : Code} {D : va_G} {G : Nat → ClassId} {bs nL cells slots pc : Nat} {cc : ByteArray} {Q : State → Prop} {S : Mem} {lv : List (Option Value)} {st : List Value} (C : Cx p s m args meth c D G bs cc nL RX4) {a : Nat} (ha : is S a 4) {b : Nat} (hb : mO S 258 a = some b) (hd : decode cc pc = .ok (.getfield 22, 3)) (kk : V p l e R s m args below meth c D G bs nL Q cells slots S (pc + 3) lv (.ref b :: st)) : V p l e R s m args below meth c D G bs nL Q cells slots S (pc) lv (.ref a :: st) := g4_22 C ha hd (by rw [hb]; exact kk)
theorem p4_22 {p : Program} {l : Launch} {e : Env} {R : Room} {s : State} {m : MethodId} {args : Array Value} {below : List Frame} {meth : Method} {c : Code} {D : va_G} {G : Nat → ClassId} {bs nL cells slots pc : Nat} {cc : ByteArray} {Q : State → Prop} {S : Mem} {lv : List (Option Value)} {st : List Value} (C : Cx p s m args meth c D G bs cc nL RX4) {a : Nat} (ha : is S a 4) (hin : meth.name = "<init>") {v : Option Nat} (hd : decode cc pc = .ok (.putfield 22, 3)) (kk : V p l e R s m args below meth c D G bs nL Q cells slots (sO S 258 a v) (pc + 3) lv (st)) : V p l e R s m args below meth c D G bs nL Q cells slots S (pc) lv (va_rf v :: .ref a :: st) := v_put (S' := sO S 258 a v) C ha (by decide) rfl inlX4 tyX4_ok nmX4 (k := 2) (by decide) wd46 rfl (Or.inr ⟨rfl, hin, rfl⟩) (tyX4_ok 2 (by decide)) (by cases v <;> rfl) (by cases v <;> rfl) (by decide) rfl (cell_sO (G := G) (S := S) (k := 2) v ha.2 (by decide) rfl) hd kk
theorem g4_26 {p : Program} {l : Launch} {e : Env} {R : Room} {s : State} {m : MethodId} {args : Array Value} {below : List Frame} {meth : Method} {c : Code} {D : va_G} {G : Nat → ClassId} {bs nL cells slots pc : Nat} {cc : ByteArray} {Q : State → Prop} {S : Mem} {lv : List (Option Value)} {st : List Value} (C : Cx p s m args meth c D G bs cc nL RX4) {a : Nat} (ha : is S a 4) (hd : decode cc pc = .ok (.getfield 26, 3)) (kk : V p l e R s m args below meth c D G bs nL Q cells slots S (pc + 3) lv (va_rf (mO S 259 a) :: st)) : V p l e R s m args below meth c D G bs nL Q cells slots S (pc) lv (.ref a :: st) := v_get C ha (by decide) rfl inlX4 (k := 3) (by decide) wd47 rfl rfl hd kk
theorem r4_26 {p : Program} {l : Launch} {e : Env} {R : Room} {s : State} {m : MethodId} {args : Array Value} {below : List Frame} {meth : Method} {c : Code} {D : va_G} {G : Nat → ClassId} {bs nL cells slots pc : Nat} {cc : ByteArray} {Q : State → Prop} {S : Mem} {lv : List (Option Value)} {st : List Value} (C : Cx p s m args meth c D G bs cc nL RX4) {a : Nat} (ha : is S a 4) {b : Nat} (hb : mO S 259 a = some b) (hd : decode cc pc = .ok (.getfield 26, 3)) (kk : V p l e R s m args below meth c D G bs nL Q cells slots S (pc + 3) lv (.ref b :: st)) : V p l e R s m args below meth c D G bs nL Q cells slots S (pc) lv (.ref a :: st) := g4_26 C ha hd (by rw [hb]; exact kk)
theorem p4_26 {p : Program} {l : Launch} {e : Env} {R : Room} {s : State} {m : MethodId} {args : Array Value} {below : List Frame} {meth : Method} {c : Code} {D : va_G} {G : Nat → ClassId} {bs nL cells slots pc : Nat} {cc : ByteArray} {Q : State → Prop} {S : Mem} {lv : List (Option Value)} {st : List Value} (C : Cx p s m args meth c D G bs cc nL RX4) {a : Nat} (ha : is S a 4) (hin : meth.name = "<init>") {v : Option Nat} (hd : decode cc pc = .ok (.putfield 26, 3)) (kk : V p l e R s m args below meth c D G bs nL Q cells slots (sO S 259 a v) (pc + 3) lv (st)) : V p l e R s m args below meth c D G bs nL Q cells slots S (pc) lv (va_rf v :: .ref a :: st) := v_put (S' := sO S 259 a v) C ha (by decide) rfl inlX4 tyX4_ok nmX4 (k := 3) (by decide) wd47 rfl (Or.inr ⟨rfl, hin, rfl⟩) (tyX4_ok 3 (by decide)) (by cases v <;> rfl) (by cases v <;> rfl) (by decide) rfl (cell_sO (G := G) (S := S) (k := 3) v ha.2 (by decide) rfl) hd kk
theorem g3_9 {p : Program} {l : Launch} {e : Env} {R : Room} {s : State} {m : MethodId} {args : Array Value} {below : List Frame} {meth : Method} {c : Code} {D : va_G} {G : Nat → ClassId} {bs nL cells slots pc : Nat} {cc : ByteArray} {Q : State → Prop} {S : Mem} {lv : List (Option Value)} {st : List Value} (C : Cx p s m args meth c D G bs cc nL RX3) {a : Nat} (ha : is S a 3) (hd : decode cc pc = .ok (.getfield 9, 3)) (kk : V p l e R s m args below meth c D G bs nL Q cells slots S (pc + 3) lv (va_rf (mO S 192 a) :: st)) : V p l e R s m args below meth c D G bs nL Q cells slots S (pc) lv (.ref a :: st) := v_get C ha (by decide) rfl inlX3 (k := 0) (by decide) wd52 rfl rfl hd kk
theorem r3_9 {p : Program} {l : Launch} {e : Env} {R : Room} {s : State} {m : MethodId} {args : Array Value} {below : List Frame} {meth : Method} {c : Code} {D : va_G} {G : Nat → ClassId} {bs nL cells slots pc : Nat} {cc : ByteArray} {Q : State → Prop} {S : Mem} {lv : List (Option Value)} {st : List Value} (C : Cx p s m args meth c D G bs cc nL RX3) {a : Nat} (ha : is S a 3) {b : Nat} (hb : mO S 192 a = some b) (hd : decode cc pc = .ok (.getfield 9, 3)) (kk : V p l e R s m args below meth c D G bs nL Q cells slots S (pc + 3) lv (.ref b :: st)) : V p l e R s m args below meth c D G bs nL Q cells slots S (pc) lv (.ref a :: st) := g3_9 C ha hd (by rw [hb]; exact kk)
theorem p3_9 {p : Program} {l : Launch} {e : Env} {R : Room} {s : State} {m : MethodId} {args : Array Value} {below : List Frame} {meth : Method} {c : Code} {D : va_G} {G : Nat → ClassId} {bs nL cells slots pc : Nat} {cc : ByteArray} {Q : State → Prop} {S : Mem} {lv : List (Option Value)} {st : List Value} (C : Cx p s m args meth c D G bs cc nL RX3) {a : Nat} (ha : is S a 3) (hin : meth.name = "<init>") {v : Option Nat} (hd : decode cc pc = .ok (.putfield 9, 3)) (kk : V p l e R s m args below meth c D G bs nL Q cells slots (sO S 192 a v) (pc + 3) lv (st)) : V p l e R s m args below meth c D G bs nL Q cells slots S (pc) lv (va_rf v :: .ref a :: st) := v_put (S' := sO S 192 a v) C ha (by decide) rfl inlX3 tyX3_ok nmX3 (k := 0) (by decide) wd52 rfl (Or.inr ⟨rfl, hin, rfl⟩) (tyX3_ok 0 (by decide)) (by cases v <;> rfl) (by cases v <;> rfl) (by decide) rfl (cell_sO (G := G) (S := S) (k := 0) v ha.2 (by decide) rfl) hd kk
theorem g3_15 {p : Program} {l : Launch} {e : Env} {R : Room} {s : State} {m : MethodId} {args : Array Value} {below : List Frame} {meth : Method} {c : Code} {D : va_G} {G : Nat → ClassId} {bs nL cells slots pc : Nat} {cc : ByteArray} {Q : State → Prop} {S : Mem} {lv : List (Option Value)} {st : List Value} (C : Cx p s m args meth c D G bs cc nL RX3) {a : Nat} (ha : is S a 3) (hd : decode cc pc = .ok (.getfield 15, 3)) (kk : V p l e R s m args below meth c D G bs nL Q cells slots S (pc + 3) lv (va_rf (mO S 193 a) :: st)) : V p l e R s m args below meth c D G bs nL Q cells slots S (pc) lv (.ref a :: st) := v_get C ha (by decide) rfl inlX3 (k := 1) (by decide) wd53 rfl rfl hd kk
theorem r3_15 {p : Program} {l : Launch} {e : Env} {R : Room} {s : State} {m : MethodId} {args : Array Value} {below : List Frame} {meth : Method} {c : Code} {D : va_G} {G : Nat → ClassId} {bs nL cells slots pc : Nat} {cc : ByteArray} {Q : State → Prop} {S : Mem} {lv : List (Option Value)} {st : List Value} (C : Cx p s m args meth c D G bs cc nL RX3) {a : Nat} (ha : is S a 3) {b : Nat} (hb : mO S 193 a = some b) (hd : decode cc pc = .ok (.getfield 15, 3)) (kk : V p l e R s m args below meth c D G bs nL Q cells slots S (pc + 3) lv (.ref b :: st)) : V p l e R s m args below meth c D G bs nL Q cells slots S (pc) lv (.ref a :: st) := g3_15 C ha hd (by rw [hb]; exact kk)
theorem p3_15 {p : Program} {l : Launch} {e : Env} {R : Room} {s : State} {m : MethodId} {args : Array Value} {below : List Frame} {meth : Method} {c : Code} {D : va_G} {G : Nat → ClassId} {bs nL cells slots pc : Nat} {cc : ByteArray} {Q : State → Prop} {S : Mem} {lv : List (Option Value)} {st : List Value} (C : Cx p s m args meth c D G bs cc nL RX3) {a : Nat} (ha : is S a 3) (hin : meth.name = "<init>") {v : Option Nat} (hd : decode cc pc = .ok (.putfield 15, 3)) (kk : V p l e R s m args below meth c D G bs nL Q cells slots (sO S 193 a v) (pc + 3) lv (st)) : V p l e R s m args below meth c D G bs nL Q cells slots S (pc) lv (va_rf v :: .ref a :: st) := v_put (S' := sO S 193 a v) C ha (by decide) rfl inlX3 tyX3_ok nmX3 (k := 1) (by decide) wd53 rfl (Or.inr ⟨rfl, hin, rfl⟩) (tyX3_ok 1 (by decide)) (by cases v <;> rfl) (by cases v <;> rfl) (by decide) rfl (cell_sO (G := G) (S := S) (k := 1) v ha.2 (by decide) rfl) hd kk
theorem g6_12 {p : Program} {l : Launch} {e : Env} {R : Room} {s : State} {m : MethodId} {args : Array Value} {below : List Frame} {meth : Method} {c : Code} {D : va_G} {G : Nat → ClassId} {bs nL cells slots pc : Nat} {cc : ByteArray} {Q : State → Prop} {S : Mem} {lv : List (Option Value)} {st : List Value} (C : Cx p s m args meth c D G bs cc nL RX6) {a : Nat} (ha : is S a 6) (hd : decode cc pc = .ok (.getfield 12, 3)) (kk : V p l e R s m args below meth c D G bs nL Q cells slots S (pc + 3) lv (va_rf (mO S 385 a) :: st)) : V p l e R s m args below meth c D G bs nL Q cells slots S (pc) lv (.ref a :: st) := v_get C ha (by decide) rfl inlX6 (k := 1) (by decide) wd68 rfl rfl hd kk
theorem r6_12 {p : Program} {l : Launch} {e : Env} {R : Room} {s : State} {m : MethodId} {args : Array Value} {below : List Frame} {meth : Method} {c : Code} {D : va_G} {G : Nat → ClassId} {bs nL cells slots pc : Nat} {cc : ByteArray} {Q : State → Prop} {S : Mem} {lv : List (Option Value)} {st : List Value} (C : Cx p s m args meth c D G bs cc nL RX6) {a : Nat} (ha : is S a 6) {b : Nat} (hb : mO S 385 a = some b) (hd : decode cc pc = .ok (.getfield 12, 3)) (kk : V p l e R s m args below meth c D G bs nL Q cells slots S (pc + 3) lv (.ref b :: st)) : V p l e R s m args below meth c D G bs nL Q cells slots S (pc) lv (.ref a :: st) := g6_12 C ha hd (by rw [hb]; exact kk)
theorem p6_12 {p : Program} {l : Launch} {e : Env} {R : Room} {s : State} {m : MethodId} {args : Array Value} {below : List Frame} {meth : Method} {c : Code} {D : va_G} {G : Nat → ClassId} {bs nL cells slots pc : Nat} {cc : ByteArray} {Q : State → Prop} {S : Mem} {lv : List (Option Value)} {st : List Value} (C : Cx p s m args meth c D G bs cc nL RX6) {a : Nat} (ha : is S a 6) (hin : meth.name = "<init>") {v : Option Nat} (hd : decode cc pc = .ok (.putfield 12, 3)) (kk : V p l e R s m args below meth c D G bs nL Q cells slots (sO S 385 a v) (pc + 3) lv (st)) : V p l e R s m args below meth c D G bs nL Q cells slots S (pc) lv (va_rf v :: .ref a :: st) := v_put (S' := sO S 385 a v) C ha (by decide) rfl inlX6 tyX6_ok nmX6 (k := 1) (by decide) wd68 rfl (Or.inr ⟨rfl, hin, rfl⟩) (tyX6_ok 1 (by decide)) (by cases v <;> rfl) (by cases v <;> rfl) (by decide) rfl (cell_sO (G := G) (S := S) (k := 1) v ha.2 (by decide) rfl) hd kk
theorem g6_18 {p : Program} {l : Launch} {e : Env} {R : Room} {s : State} {m : MethodId} {args : Array Value} {below : List Frame} {meth : Method} {c : Code} {D : va_G} {G : Nat → ClassId} {bs nL cells slots pc : Nat} {cc : ByteArray} {Q : State → Prop} {S : Mem} {lv : List (Option Value)} {st : List Value} (C : Cx p s m args meth c D G bs cc nL RX6) {a : Nat} (ha : is S a 6) (hd : decode cc pc = .ok (.getfield 18, 3)) (kk : V p l e R s m args below meth c D G bs nL Q cells slots S (pc + 3) lv (va_rf (mO S 384 a) :: st)) : V p l e R s m args below meth c D G bs nL Q cells slots S (pc) lv (.ref a :: st) := v_get C ha (by decide) rfl inlX6 (k := 0) (by decide) wd69 rfl rfl hd kk
theorem r6_18 {p : Program} {l : Launch} {e : Env} {R : Room} {s : State} {m : MethodId} {args : Array Value} {below : List Frame} {meth : Method} {c : Code} {D : va_G} {G : Nat → ClassId} {bs nL cells slots pc : Nat} {cc : ByteArray} {Q : State → Prop} {S : Mem} {lv : List (Option Value)} {st : List Value} (C : Cx p s m args meth c D G bs cc nL RX6) {a : Nat} (ha : is S a 6) {b : Nat} (hb : mO S 384 a = some b) (hd : decode cc pc = .ok (.getfield 18, 3)) (kk : V p l e R s m args below meth c D G bs nL Q cells slots S (pc + 3) lv (.ref b :: st)) : V p l e R s m args below meth c D G bs nL Q cells slots S (pc) lv (.ref a :: st) := g6_18 C ha hd (by rw [hb]; exact kk)
theorem p6_18 {p : Program} {l : Launch} {e : Env} {R : Room} {s : State} {m : MethodId} {args : Array Value} {below : List Frame} {meth : Method} {c : Code} {D : va_G} {G : Nat → ClassId} {bs nL cells slots pc : Nat} {cc : ByteArray} {Q : State → Prop} {S : Mem} {lv : List (Option Value)} {st : List Value} (C : Cx p s m args meth c D G bs cc nL RX6) {a : Nat} (ha : is S a 6) (hin : meth.name = "<init>") {v : Option Nat} (hd : decode cc pc = .ok (.putfield 18, 3)) (kk : V p l e R s m args below meth c D G bs nL Q cells slots (sO S 384 a v) (pc + 3) lv (st)) : V p l e R s m args below meth c D G bs nL Q cells slots S (pc) lv (va_rf v :: .ref a :: st) := v_put (S' := sO S 384 a v) C ha (by decide) rfl inlX6 tyX6_ok nmX6 (k := 0) (by decide) wd69 rfl (Or.inr ⟨rfl, hin, rfl⟩) (tyX6_ok 0 (by decide)) (by cases v <;> rfl) (by cases v <;> rfl) (by decide) rfl (cell_sO (G := G) (S := S) (k := 0) v ha.2 (by decide) rfl) hd kk
theorem g7_11 {p : Program} {l : Launch} {e : Env} {R : Room} {s : State} {m : MethodId} {args : Array Value} {below : List Frame} {meth : Method} {c : Code} {D : va_G} {G : Nat → ClassId} {bs nL cells slots pc : Nat} {cc : ByteArray} {Q : State → Prop} {S : Mem} {lv : List (Option Value)} {st : List Value} (C : Cx p s m args meth c D G bs cc nL RX7) {a : Nat} (ha : is S a 7) (hd : decode cc pc = .ok (.getfield 11, 3)) (kk : V p l e R s m args below meth c D G bs nL Q cells slots S (pc + 3) lv (va_rf (mO S 448 a) :: st)) : V p l e R s m args below meth c D G bs nL Q cells slots S (pc) lv (.ref a :: st) := v_get C ha (by decide) rfl inlX7 (k := 0) (by decide) wd74 rfl rfl hd kk
theorem r7_11 {p : Program} {l : Launch} {e : Env} {R : Room} {s : State} {m : MethodId} {args : Array Value} {below : List Frame} {meth : Method} {c : Code} {D : va_G} {G : Nat → ClassId} {bs nL cells slots pc : Nat} {cc : ByteArray} {Q : State → Prop} {S : Mem} {lv : List (Option Value)} {st : List Value} (C : Cx p s m args meth c D G bs cc nL RX7) {a : Nat} (ha : is S a 7) {b : Nat} (hb : mO S 448 a = some b) (hd : decode cc pc = .ok (.getfield 11, 3)) (kk : V p l e R s m args below meth c D G bs nL Q cells slots S (pc + 3) lv (.ref b :: st)) : V p l e R s m args below meth c D G bs nL Q cells slots S (pc) lv (.ref a :: st) := g7_11 C ha hd (by rw [hb]; exact kk)
theorem p7_11 {p : Program} {l : Launch} {e : Env} {R : Room} {s : State} {m : MethodId} {args : Array Value} {below : List Frame} {meth : Method} {c : Code} {D : va_G} {G : Nat → ClassId} {bs nL cells slots pc : Nat} {cc : ByteArray} {Q : State → Prop} {S : Mem} {lv : List (Option Value)} {st : List Value} (C : Cx p s m args meth c D G bs cc nL RX7) {a : Nat} (ha : is S a 7) (hin : meth.name = "<init>") {v : Option Nat} (hd : decode cc pc = .ok (.putfield 11, 3)) (kk : V p l e R s m args below meth c D G bs nL Q cells slots (sO S 448 a v) (pc + 3) lv (st)) : V p l e R s m args below meth c D G bs nL Q cells slots S (pc) lv (va_rf v :: .ref a :: st) := v_put (S' := sO S 448 a v) C ha (by decide) rfl inlX7 tyX7_ok nmX7 (k := 0) (by decide) wd74 rfl (Or.inr ⟨rfl, hin, rfl⟩) (tyX7_ok 0 (by decide)) (by cases v <;> rfl) (by cases v <;> rfl) (by decide) rfl (cell_sO (G := G) (S := S) (k := 0) v ha.2 (by decide) rfl) hd kk
theorem g10_7 {p : Program} {l : Launch} {e : Env} {R : Room} {s : State} {m : MethodId} {args : Array Value} {below : List Frame} {meth : Method} {c : Code} {D : va_G} {G : Nat → ClassId} {bs nL cells slots pc : Nat} {cc : ByteArray} {Q : State → Prop} {S : Mem} {lv : List (Option Value)} {st : List Value} (C : Cx p s m args meth c D G bs cc nL RX10) {a : Nat} (ha : is S a 10) (hd : decode cc pc = .ok (.getfield 7, 3)) (kk : V p l e R s m args below meth c D G bs nL Q cells slots S (pc + 3) lv (va_rf (mO S 641 a) :: st)) : V p l e R s m args below meth c D G bs nL Q cells slots S (pc) lv (.ref a :: st) := v_get C ha (by decide) rfl inlX10 (k := 1) (by decide) wd79 rfl rfl hd kk
theorem r10_7 {p : Program} {l : Launch} {e : Env} {R : Room} {s : State} {m : MethodId} {args : Array Value} {below : List Frame} {meth : Method} {c : Code} {D : va_G} {G : Nat → ClassId} {bs nL cells slots pc : Nat} {cc : ByteArray} {Q : State → Prop} {S : Mem} {lv : List (Option Value)} {st : List Value} (C : Cx p s m args meth c D G bs cc nL RX10) {a : Nat} (ha : is S a 10) {b : Nat} (hb : mO S 641 a = some b) (hd : decode cc pc = .ok (.getfield 7, 3)) (kk : V p l e R s m args below meth c D G bs nL Q cells slots S (pc + 3) lv (.ref b :: st)) : V p l e R s m args below meth c D G bs nL Q cells slots S (pc) lv (.ref a :: st) := g10_7 C ha hd (by rw [hb]; exact kk)
theorem p10_7 {p : Program} {l : Launch} {e : Env} {R : Room} {s : State} {m : MethodId} {args : Array Value} {below : List Frame} {meth : Method} {c : Code} {D : va_G} {G : Nat → ClassId} {bs nL cells slots pc : Nat} {cc : ByteArray} {Q : State → Prop} {S : Mem} {lv : List (Option Value)} {st : List Value} (C : Cx p s m args meth c D G bs cc nL RX10) {a : Nat} (ha : is S a 10) (hin : meth.name = "<init>") {v : Option Nat} (hd : decode cc pc = .ok (.putfield 7, 3)) (kk : V p l e R s m args below meth c D G bs nL Q cells slots (sO S 641 a v) (pc + 3) lv (st)) : V p l e R s m args below meth c D G bs nL Q cells slots S (pc) lv (va_rf v :: .ref a :: st) := v_put (S' := sO S 641 a v) C ha (by decide) rfl inlX10 tyX10_ok nmX10 (k := 1) (by decide) wd79 rfl (Or.inr ⟨rfl, hin, rfl⟩) (tyX10_ok 1 (by decide)) (by cases v <;> rfl) (by cases v <;> rfl) (by decide) rfl (cell_sO (G := G) (S := S) (k := 1) v ha.2 (by decide) rfl) hd kk
theorem g10_13 {p : Program} {l : Launch} {e : Env} {R : Room} {s : State} {m : MethodId} {args : Array Value} {below : List Frame} {meth : Method} {c : Code} {D : va_G} {G : Nat → ClassId} {bs nL cells slots pc : Nat} {cc : ByteArray} {Q : State → Prop} {S : Mem} {lv : List (Option Value)} {st : List Value} (C : Cx p s m args meth c D G bs cc nL RX10) {a : Nat} (ha : is S a 10) (hd : decode cc pc = .ok (.getfield 13, 3)) (kk : V p l e R s m args below meth c D G bs nL Q cells slots S (pc + 3) lv (va_rf (mO S 642 a) :: st)) : V p l e R s m args below meth c D G bs nL Q cells slots S (pc) lv (.ref a :: st) := v_get C ha (by decide) rfl inlX10 (k := 2) (by decide) wd80 rfl rfl hd kk
theorem r10_13 {p : Program} {l : Launch} {e : Env} {R : Room} {s : State} {m : MethodId} {args : Array Value} {below : List Frame} {meth : Method} {c : Code} {D : va_G} {G : Nat → ClassId} {bs nL cells slots pc : Nat} {cc : ByteArray} {Q : State → Prop} {S : Mem} {lv : List (Option Value)} {st : List Value} (C : Cx p s m args meth c D G bs cc nL RX10) {a : Nat} (ha : is S a 10) {b : Nat} (hb : mO S 642 a = some b) (hd : decode cc pc = .ok (.getfield 13, 3)) (kk : V p l e R s m args below meth c D G bs nL Q cells slots S (pc + 3) lv (.ref b :: st)) : V p l e R s m args below meth c D G bs nL Q cells slots S (pc) lv (.ref a :: st) := g10_13 C ha hd (by rw [hb]; exact kk)
theorem p10_13 {p : Program} {l : Launch} {e : Env} {R : Room} {s : State} {m : MethodId} {args : Array Value} {below : List Frame} {meth : Method} {c : Code} {D : va_G} {G : Nat → ClassId} {bs nL cells slots pc : Nat} {cc : ByteArray} {Q : State → Prop} {S : Mem} {lv : List (Option Value)} {st : List Value} (C : Cx p s m args meth c D G bs cc nL RX10) {a : Nat} (ha : is S a 10) (hin : meth.name = "<init>") {v : Option Nat} (hd : decode cc pc = .ok (.putfield 13, 3)) (kk : V p l e R s m args below meth c D G bs nL Q cells slots (sO S 642 a v) (pc + 3) lv (st)) : V p l e R s m args below meth c D G bs nL Q cells slots S (pc) lv (va_rf v :: .ref a :: st) := v_put (S' := sO S 642 a v) C ha (by decide) rfl inlX10 tyX10_ok nmX10 (k := 2) (by decide) wd80 rfl (Or.inr ⟨rfl, hin, rfl⟩) (tyX10_ok 2 (by decide)) (by cases v <;> rfl) (by cases v <;> rfl) (by decide) rfl (cell_sO (G := G) (S := S) (k := 2) v ha.2 (by decide) rfl) hd kk
theorem g10_16 {p : Program} {l : Launch} {e : Env} {R : Room} {s : State} {m : MethodId} {args : Array Value} {below : List Frame} {meth : Method} {c : Code} {D : va_G} {G : Nat → ClassId} {bs nL cells slots pc : Nat} {cc : ByteArray} {Q : State → Prop} {S : Mem} {lv : List (Option Value)} {st : List Value} (C : Cx p s m args meth c D G bs cc nL RX10) {a : Nat} (ha : is S a 10) (hd : decode cc pc = .ok (.getfield 16, 3)) (kk : V p l e R s m args below meth c D G bs nL Q cells slots S (pc + 3) lv (va_rf (mO S 644 a) :: st)) : V p l e R s m args below meth c D G bs nL Q cells slots S (pc) lv (.ref a :: st) := v_get C ha (by decide) rfl inlX10 (k := 4) (by decide) wd81 rfl rfl hd kk
theorem r10_16 {p : Program} {l : Launch} {e : Env} {R : Room} {s : State} {m : MethodId} {args : Array Value} {below : List Frame} {meth : Method} {c : Code} {D : va_G} {G : Nat → ClassId} {bs nL cells slots pc : Nat} {cc : ByteArray} {Q : State → Prop} {S : Mem} {lv : List (Option Value)} {st : List Value} (C : Cx p s m args meth c D G bs cc nL RX10) {a : Nat} (ha : is S a 10) {b : Nat} (hb : mO S 644 a = some b) (hd : decode cc pc = .ok (.getfield 16, 3)) (kk : V p l e R s m args below meth c D G bs nL Q cells slots S (pc + 3) lv (.ref b :: st)) : V p l e R s m args below meth c D G bs nL Q cells slots S (pc) lv (.ref a :: st) := g10_16 C ha hd (by rw [hb]; exact kk)
theorem p10_16 {p : Program} {l : Launch} {e : Env} {R : Room} {s : State} {m : MethodId} {args : Array Value} {below : List Frame} {meth : Method} {c : Code} {D : va_G} {G : Nat → ClassId} {bs nL cells slots pc : Nat} {cc : ByteArray} {Q : State → Prop} {S : Mem} {lv : List (Option Value)} {st : List Value} (C : Cx p s m args meth c D G bs cc nL RX10) {a : Nat} (ha : is S a 10) (hin : meth.name = "<init>") {v : Option Nat} (hd : decode cc pc = .ok (.putfield 16, 3)) (kk : V p l e R s m args below meth c D G bs nL Q cells slots (sO S 644 a v) (pc + 3) lv (st)) : V p l e R s m args below meth c D G bs nL Q cells slots S (pc) lv (va_rf v :: .ref a :: st) := v_put (S' := sO S 644 a v) C ha (by decide) rfl inlX10 tyX10_ok nmX10 (k := 4) (by decide) wd81 rfl (Or.inr ⟨rfl, hin, rfl⟩) (tyX10_ok 4 (by decide)) (by cases v <;> rfl) (by cases v <;> rfl) (by decide) rfl (cell_sO (G := G) (S := S) (k := 4) v ha.2 (by decide) rfl) hd kk
theorem g10_19 {p : Program} {l : Launch} {e : Env} {R : Room} {s : State} {m : MethodId} {args : Array Value} {below : List Frame} {meth : Method} {c : Code} {D : va_G} {G : Nat → ClassId} {bs nL cells slots pc : Nat} {cc : ByteArray} {Q : State → Prop} {S : Mem} {lv : List (Option Value)} {st : List Value} (C : Cx p s m args meth c D G bs cc nL RX10) {a : Nat} (ha : is S a 10) (hd : decode cc pc = .ok (.getfield 19, 3)) (kk : V p l e R s m args below meth c D G bs nL Q cells slots S (pc + 3) lv (va_rf (mO S 645 a) :: st)) : V p l e R s m args below meth c D G bs nL Q cells slots S (pc) lv (.ref a :: st) := v_get C ha (by decide) rfl inlX10 (k := 5) (by decide) wd82 rfl rfl hd kk
theorem r10_19 {p : Program} {l : Launch} {e : Env} {R : Room} {s : State} {m : MethodId} {args : Array Value} {below : List Frame} {meth : Method} {c : Code} {D : va_G} {G : Nat → ClassId} {bs nL cells slots pc : Nat} {cc : ByteArray} {Q : State → Prop} {S : Mem} {lv : List (Option Value)} {st : List Value} (C : Cx p s m args meth c D G bs cc nL RX10) {a : Nat} (ha : is S a 10) {b : Nat} (hb : mO S 645 a = some b) (hd : decode cc pc = .ok (.getfield 19, 3)) (kk : V p l e R s m args below meth c D G bs nL Q cells slots S (pc + 3) lv (.ref b :: st)) : V p l e R s m args below meth c D G bs nL Q cells slots S (pc) lv (.ref a :: st) := g10_19 C ha hd (by rw [hb]; exact kk)
theorem p10_19 {p : Program} {l : Launch} {e : Env} {R : Room} {s : State} {m : MethodId} {args : Array Value} {below : List Frame} {meth : Method} {c : Code} {D : va_G} {G : Nat → ClassId} {bs nL cells slots pc : Nat} {cc : ByteArray} {Q : State → Prop} {S : Mem} {lv : List (Option Value)} {st : List Value} (C : Cx p s m args meth c D G bs cc nL RX10) {a : Nat} (ha : is S a 10) (hin : meth.name = "<init>") {v : Option Nat} (hd : decode cc pc = .ok (.putfield 19, 3)) (kk : V p l e R s m args below meth c D G bs nL Q cells slots (sO S 645 a v) (pc + 3) lv (st)) : V p l e R s m args below meth c D G bs nL Q cells slots S (pc) lv (va_rf v :: .ref a :: st) := v_put (S' := sO S 645 a v) C ha (by decide) rfl inlX10 tyX10_ok nmX10 (k := 5) (by decide) wd82 rfl (Or.inr ⟨rfl, hin, rfl⟩) (tyX10_ok 5 (by decide)) (by cases v <;> rfl) (by cases v <;> rfl) (by decide) rfl (cell_sO (G := G) (S := S) (k := 5) v ha.2 (by decide) rfl) hd kk
theorem g10_22 {p : Program} {l : Launch} {e : Env} {R : Room} {s : State} {m : MethodId} {args : Array Value} {below : List Frame} {meth : Method} {c : Code} {D : va_G} {G : Nat → ClassId} {bs nL cells slots pc : Nat} {cc : ByteArray} {Q : State → Prop} {S : Mem} {lv : List (Option Value)} {st : List Value} (C : Cx p s m args meth c D G bs cc nL RX10) {a : Nat} (ha : is S a 10) (hd : decode cc pc = .ok (.getfield 22, 3)) (kk : V p l e R s m args below meth c D G bs nL Q cells slots S (pc + 3) lv (va_rf (mO S 646 a) :: st)) : V p l e R s m args below meth c D G bs nL Q cells slots S (pc) lv (.ref a :: st) := v_get C ha (by decide) rfl inlX10 (k := 6) (by decide) wd83 rfl rfl hd kk
theorem r10_22 {p : Program} {l : Launch} {e : Env} {R : Room} {s : State} {m : MethodId} {args : Array Value} {below : List Frame} {meth : Method} {c : Code} {D : va_G} {G : Nat → ClassId} {bs nL cells slots pc : Nat} {cc : ByteArray} {Q : State → Prop} {S : Mem} {lv : List (Option Value)} {st : List Value} (C : Cx p s m args meth c D G bs cc nL RX10) {a : Nat} (ha : is S a 10) {b : Nat} (hb : mO S 646 a = some b) (hd : decode cc pc = .ok (.getfield 22, 3)) (kk : V p l e R s m args below meth c D G bs nL Q cells slots S (pc + 3) lv (.ref b :: st)) : V p l e R s m args below meth c D G bs nL Q cells slots S (pc) lv (.ref a :: st) := g10_22 C ha hd (by rw [hb]; exact kk)
theorem p10_22 {p : Program} {l : Launch} {e : Env} {R : Room} {s : State} {m : MethodId} {args : Array Value} {below : List Frame} {meth : Method} {c : Code} {D : va_G} {G : Nat → ClassId} {bs nL cells slots pc : Nat} {cc : ByteArray} {Q : State → Prop} {S : Mem} {lv : List (Option Value)} {st : List Value} (C : Cx p s m args meth c D G bs cc nL RX10) {a : Nat} (ha : is S a 10) (hin : meth.name = "<init>") {v : Option Nat} (hd : decode cc pc = .ok (.putfield 22, 3)) (kk : V p l e R s m args below meth c D G bs nL Q cells slots (sO S 646 a v) (pc + 3) lv (st)) : V p l e R s m args below meth c D G bs nL Q cells slots S (pc) lv (va_rf v :: .ref a :: st) := v_put (S' := sO S 646 a v) C ha (by decide) rfl inlX10 tyX10_ok nmX10 (k := 6) (by decide) wd83 rfl (Or.inr ⟨rfl, hin, rfl⟩) (tyX10_ok 6 (by decide)) (by cases v <;> rfl) (by cases v <;> rfl) (by decide) rfl (cell_sO (G := G) (S := S) (k := 6) v ha.2 (by decide) rfl) hd kk
theorem g10_25 {p : Program} {l : Launch} {e : Env} {R : Room} {s : State} {m : MethodId} {args : Array Value} {below : List Frame} {meth : Method} {c : Code} {D : va_G} {G : Nat → ClassId} {bs nL cells slots pc : Nat} {cc : ByteArray} {Q : State → Prop} {S : Mem} {lv : List (Option Value)} {st : List Value} (C : Cx p s m args meth c D G bs cc nL RX10) {a : Nat} (ha : is S a 10) (hd : decode cc pc = .ok (.getfield 25, 3)) (kk : V p l e R s m args below meth c D G bs nL Q cells slots S (pc + 3) lv (va_rf (mO S 647 a) :: st)) : V p l e R s m args below meth c D G bs nL Q cells slots S (pc) lv (.ref a :: st) := v_get C ha (by decide) rfl inlX10 (k := 7) (by decide) wd84 rfl rfl hd kk
theorem r10_25 {p : Program} {l : Launch} {e : Env} {R : Room} {s : State} {m : MethodId} {args : Array Value} {below : List Frame} {meth : Method} {c : Code} {D : va_G} {G : Nat → ClassId} {bs nL cells slots pc : Nat} {cc : ByteArray} {Q : State → Prop} {S : Mem} {lv : List (Option Value)} {st : List Value} (C : Cx p s m args meth c D G bs cc nL RX10) {a : Nat} (ha : is S a 10) {b : Nat} (hb : mO S 647 a = some b) (hd : decode cc pc = .ok (.getfield 25, 3)) (kk : V p l e R s m args below meth c D G bs nL Q cells slots S (pc + 3) lv (.ref b :: st)) : V p l e R s m args below meth c D G bs nL Q cells slots S (pc) lv (.ref a :: st) := g10_25 C ha hd (by rw [hb]; exact kk)
theorem p10_25 {p : Program} {l : Launch} {e : Env} {R : Room} {s : State} {m : MethodId} {args : Array Value} {below : List Frame} {meth : Method} {c : Code} {D : va_G} {G : Nat → ClassId} {bs nL cells slots pc : Nat} {cc : ByteArray} {Q : State → Prop} {S : Mem} {lv : List (Option Value)} {st : List Value} (C : Cx p s m args meth c D G bs cc nL RX10) {a : Nat} (ha : is S a 10) (hin : meth.name = "<init>") {v : Option Nat} (hd : decode cc pc = .ok (.putfield 25, 3)) (kk : V p l e R s m args below meth c D G bs nL Q cells slots (sO S 647 a v) (pc + 3) lv (st)) : V p l e R s m args below meth c D G bs nL Q cells slots S (pc) lv (va_rf v :: .ref a :: st) := v_put (S' := sO S 647 a v) C ha (by decide) rfl inlX10 tyX10_ok nmX10 (k := 7) (by decide) wd84 rfl (Or.inr ⟨rfl, hin, rfl⟩) (tyX10_ok 7 (by decide)) (by cases v <;> rfl) (by cases v <;> rfl) (by decide) rfl (cell_sO (G := G) (S := S) (k := 7) v ha.2 (by decide) rfl) hd kk
theorem g10_28 {p : Program} {l : Launch} {e : Env} {R : Room} {s : State} {m : MethodId} {args : Array Value} {below : List Frame} {meth : Method} {c : Code} {D : va_G} {G : Nat → ClassId} {bs nL cells slots pc : Nat} {cc : ByteArray} {Q : State → Prop} {S : Mem} {lv : List (Option Value)} {st : List Value} (C : Cx p s m args meth c D G bs cc nL RX10) {a : Nat} (ha : is S a 10) (hd : decode cc pc = .ok (.getfield 28, 3)) (kk : V p l e R s m args below meth c D G bs nL Q cells slots S (pc + 3) lv (va_rf (mO S 648 a) :: st)) : V p l e R s m args below meth c D G bs nL Q cells slots S (pc) lv (.ref a :: st) := v_get C ha (by decide) rfl inlX10 (k := 8) (by decide) wd85 rfl rfl hd kk
theorem r10_28 {p : Program} {l : Launch} {e : Env} {R : Room} {s : State} {m : MethodId} {args : Array Value} {below : List Frame} {meth : Method} {c : Code} {D : va_G} {G : Nat → ClassId} {bs nL cells slots pc : Nat} {cc : ByteArray} {Q : State → Prop} {S : Mem} {lv : List (Option Value)} {st : List Value} (C : Cx p s m args meth c D G bs cc nL RX10) {a : Nat} (ha : is S a 10) {b : Nat} (hb : mO S 648 a = some b) (hd : decode cc pc = .ok (.getfield 28, 3)) (kk : V p l e R s m args below meth c D G bs nL Q cells slots S (pc + 3) lv (.ref b :: st)) : V p l e R s m args below meth c D G bs nL Q cells slots S (pc) lv (.ref a :: st) := g10_28 C ha hd (by rw [hb]; exact kk)
theorem p10_28 {p : Program} {l : Launch} {e : Env} {R : Room} {s : State} {m : MethodId} {args : Array Value} {below : List Frame} {meth : Method} {c : Code} {D : va_G} {G : Nat → ClassId} {bs nL cells slots pc : Nat} {cc : ByteArray} {Q : State → Prop} {S : Mem} {lv : List (Option Value)} {st : List Value} (C : Cx p s m args meth c D G bs cc nL RX10) {a : Nat} (ha : is S a 10) (hin : meth.name = "<init>") {v : Option Nat} (hd : decode cc pc = .ok (.putfield 28, 3)) (kk : V p l e R s m args below meth c D G bs nL Q cells slots (sO S 648 a v) (pc + 3) lv (st)) : V p l e R s m args below meth c D G bs nL Q cells slots S (pc) lv (va_rf v :: .ref a :: st) := v_put (S' := sO S 648 a v) C ha (by decide) rfl inlX10 tyX10_ok nmX10 (k := 8) (by decide) wd85 rfl (Or.inr ⟨rfl, hin, rfl⟩) (tyX10_ok 8 (by decide)) (by cases v <;> rfl) (by cases v <;> rfl) (by decide) rfl (cell_sO (G := G) (S := S) (k := 8) v ha.2 (by decide) rfl) hd kk
theorem g10_31 {p : Program} {l : Launch} {e : Env} {R : Room} {s : State} {m : MethodId} {args : Array Value} {below : List Frame} {meth : Method} {c : Code} {D : va_G} {G : Nat → ClassId} {bs nL cells slots pc : Nat} {cc : ByteArray} {Q : State → Prop} {S : Mem} {lv : List (Option Value)} {st : List Value} (C : Cx p s m args meth c D G bs cc nL RX10) {a : Nat} (ha : is S a 10) (hd : decode cc pc = .ok (.getfield 31, 3)) (kk : V p l e R s m args below meth c D G bs nL Q cells slots S (pc + 3) lv (va_rf (mO S 649 a) :: st)) : V p l e R s m args below meth c D G bs nL Q cells slots S (pc) lv (.ref a :: st) := v_get C ha (by decide) rfl inlX10 (k := 9) (by decide) wd86 rfl rfl hd kk
theorem r10_31 {p : Program} {l : Launch} {e : Env} {R : Room} {s : State} {m : MethodId} {args : Array Value} {below : List Frame} {meth : Method} {c : Code} {D : va_G} {G : Nat → ClassId} {bs nL cells slots pc : Nat} {cc : ByteArray} {Q : State → Prop} {S : Mem} {lv : List (Option Value)} {st : List Value} (C : Cx p s m args meth c D G bs cc nL RX10) {a : Nat} (ha : is S a 10) {b : Nat} (hb : mO S 649 a = some b) (hd : decode cc pc = .ok (.getfield 31, 3)) (kk : V p l e R s m args below meth c D G bs nL Q cells slots S (pc + 3) lv (.ref b :: st)) : V p l e R s m args below meth c D G bs nL Q cells slots S (pc) lv (.ref a :: st) := g10_31 C ha hd (by rw [hb]; exact kk)
theorem p10_31 {p : Program} {l : Launch} {e : Env} {R : Room} {s : State} {m : MethodId} {args : Array Value} {below : List Frame} {meth : Method} {c : Code} {D : va_G} {G : Nat → ClassId} {bs nL cells slots pc : Nat} {cc : ByteArray} {Q : State → Prop} {S : Mem} {lv : List (Option Value)} {st : List Value} (C : Cx p s m args meth c D G bs cc nL RX10) {a : Nat} (ha : is S a 10) (hin : meth.name = "<init>") {v : Option Nat} (hd : decode cc pc = .ok (.putfield 31, 3)) (kk : V p l e R s m args below meth c D G bs nL Q cells slots (sO S 649 a v) (pc + 3) lv (st)) : V p l e R s m args below meth c D G bs nL Q cells slots S (pc) lv (va_rf v :: .ref a :: st) := v_put (S' := sO S 649 a v) C ha (by decide) rfl inlX10 tyX10_ok nmX10 (k := 9) (by decide) wd86 rfl (Or.inr ⟨rfl, hin, rfl⟩) (tyX10_ok 9 (by decide)) (by cases v <;> rfl) (by cases v <;> rfl) (by decide) rfl (cell_sO (G := G) (S := S) (k := 9) v ha.2 (by decide) rfl) hd kk
theorem g10_35 {p : Program} {l : Launch} {e : Env} {R : Room} {s : State} {m : MethodId} {args : Array Value} {below : List Frame} {meth : Method} {c : Code} {D : va_G} {G : Nat → ClassId} {bs nL cells slots pc : Nat} {cc : ByteArray} {Q : State → Prop} {S : Mem} {lv : List (Option Value)} {st : List Value} (C : Cx p s m args meth c D G bs cc nL RX10) {a : Nat} (ha : is S a 10) (hd : decode cc pc = .ok (.getfield 35, 3)) (kk : V p l e R s m args below meth c D G bs nL Q cells slots S (pc + 3) lv (va_rf (mO S 650 a) :: st)) : V p l e R s m args below meth c D G bs nL Q cells slots S (pc) lv (.ref a :: st) := v_get C ha (by decide) rfl inlX10 (k := 10) (by decide) wd88 rfl rfl hd kk
theorem r10_35 {p : Program} {l : Launch} {e : Env} {R : Room} {s : State} {m : MethodId} {args : Array Value} {below : List Frame} {meth : Method} {c : Code} {D : va_G} {G : Nat → ClassId} {bs nL cells slots pc : Nat} {cc : ByteArray} {Q : State → Prop} {S : Mem} {lv : List (Option Value)} {st : List Value} (C : Cx p s m args meth c D G bs cc nL RX10) {a : Nat} (ha : is S a 10) {b : Nat} (hb : mO S 650 a = some b) (hd : decode cc pc = .ok (.getfield 35, 3)) (kk : V p l e R s m args below meth c D G bs nL Q cells slots S (pc + 3) lv (.ref b :: st)) : V p l e R s m args below meth c D G bs nL Q cells slots S (pc) lv (.ref a :: st) := g10_35 C ha hd (by rw [hb]; exact kk)
theorem p10_35 {p : Program} {l : Launch} {e : Env} {R : Room} {s : State} {m : MethodId} {args : Array Value} {below : List Frame} {meth : Method} {c : Code} {D : va_G} {G : Nat → ClassId} {bs nL cells slots pc : Nat} {cc : ByteArray} {Q : State → Prop} {S : Mem} {lv : List (Option Value)} {st : List Value} (C : Cx p s m args meth c D G bs cc nL RX10) {a : Nat} (ha : is S a 10) (hin : meth.name = "<init>") {v : Option Nat} (hd : decode cc pc = .ok (.putfield 35, 3)) (kk : V p l e R s m args below meth c D G bs nL Q cells slots (sO S 650 a v) (pc + 3) lv (st)) : V p l e R s m args below meth c D G bs nL Q cells slots S (pc) lv (va_rf v :: .ref a :: st) := v_put (S' := sO S 650 a v) C ha (by decide) rfl inlX10 tyX10_ok nmX10 (k := 10) (by decide) wd88 rfl (Or.inr ⟨rfl, hin, rfl⟩) (tyX10_ok 10 (by decide)) (by cases v <;> rfl) (by cases v <;> rfl) (by decide) rfl (cell_sO (G := G) (S := S) (k := 10) v ha.2 (by decide) rfl) hd kk
theorem g10_39 {p : Program} {l : Launch} {e : Env} {R : Room} {s : State} {m : MethodId} {args : Array Value} {below : List Frame} {meth : Method} {c : Code} {D : va_G} {G : Nat → ClassId} {bs nL cells slots pc : Nat} {cc : ByteArray} {Q : State → Prop} {S : Mem} {lv : List (Option Value)} {st : List Value} (C : Cx p s m args meth c D G bs cc nL RX10) {a : Nat} (ha : is S a 10) (hd : decode cc pc = .ok (.getfield 39, 3)) (kk : V p l e R s m args below meth c D G bs nL Q cells slots S (pc + 3) lv (va_rf (mO S 651 a) :: st)) : V p l e R s m args below meth c D G bs nL Q cells slots S (pc) lv (.ref a :: st) := v_get C ha (by decide) rfl inlX10 (k := 11) (by decide) wd89 rfl rfl hd kk
theorem r10_39 {p : Program} {l : Launch} {e : Env} {R : Room} {s : State} {m : MethodId} {args : Array Value} {below : List Frame} {meth : Method} {c : Code} {D : va_G} {G : Nat → ClassId} {bs nL cells slots pc : Nat} {cc : ByteArray} {Q : State → Prop} {S : Mem} {lv : List (Option Value)} {st : List Value} (C : Cx p s m args meth c D G bs cc nL RX10) {a : Nat} (ha : is S a 10) {b : Nat} (hb : mO S 651 a = some b) (hd : decode cc pc = .ok (.getfield 39, 3)) (kk : V p l e R s m args below meth c D G bs nL Q cells slots S (pc + 3) lv (.ref b :: st)) : V p l e R s m args below meth c D G bs nL Q cells slots S (pc) lv (.ref a :: st) := g10_39 C ha hd (by rw [hb]; exact kk)
theorem p10_39 {p : Program} {l : Launch} {e : Env} {R : Room} {s : State} {m : MethodId} {args : Array Value} {below : List Frame} {meth : Method} {c : Code} {D : va_G} {G : Nat → ClassId} {bs nL cells slots pc : Nat} {cc : ByteArray} {Q : State → Prop} {S : Mem} {lv : List (Option Value)} {st : List Value} (C : Cx p s m args meth c D G bs cc nL RX10) {a : Nat} (ha : is S a 10) (hin : meth.name = "<init>") {v : Option Nat} (hd : decode cc pc = .ok (.putfield 39, 3)) (kk : V p l e R s m args below meth c D G bs nL Q cells slots (sO S 651 a v) (pc + 3) lv (st)) : V p l e R s m args below meth c D G bs nL Q cells slots S (pc) lv (va_rf v :: .ref a :: st) := v_put (S' := sO S 651 a v) C ha (by decide) rfl inlX10 tyX10_ok nmX10 (k := 11) (by decide) wd89 rfl (Or.inr ⟨rfl, hin, rfl⟩) (tyX10_ok 11 (by decide)) (by cases v <;> rfl) (by cases v <;> rfl) (by decide) rfl (cell_sO (G := G) (S := S) (k := 11) v ha.2 (by decide) rfl) hd kk
theorem g10_42 {p : Program} {l : Launch} {e : Env} {R : Room} {s : State} {m : MethodId} {args : Array Value} {below : List Frame} {meth : Method} {c : Code} {D : va_G} {G : Nat → ClassId} {bs nL cells slots pc : Nat} {cc : ByteArray} {Q : State → Prop} {S : Mem} {lv : List (Option Value)} {st : List Value} (C : Cx p s m args meth c D G bs cc nL RX10) {a : Nat} (ha : is S a 10) (hd : decode cc pc = .ok (.getfield 42, 3)) (kk : V p l e R s m args below meth c D G bs nL Q cells slots S (pc + 3) lv (va_rf (mO S 652 a) :: st)) : V p l e R s m args below meth c D G bs nL Q cells slots S (pc) lv (.ref a :: st) := v_get C ha (by decide) rfl inlX10 (k := 12) (by decide) wd90 rfl rfl hd kk
theorem r10_42 {p : Program} {l : Launch} {e : Env} {R : Room} {s : State} {m : MethodId} {args : Array Value} {below : List Frame} {meth : Method} {c : Code} {D : va_G} {G : Nat → ClassId} {bs nL cells slots pc : Nat} {cc : ByteArray} {Q : State → Prop} {S : Mem} {lv : List (Option Value)} {st : List Value} (C : Cx p s m args meth c D G bs cc nL RX10) {a : Nat} (ha : is S a 10) {b : Nat} (hb : mO S 652 a = some b) (hd : decode cc pc = .ok (.getfield 42, 3)) (kk : V p l e R s m args below meth c D G bs nL Q cells slots S (pc + 3) lv (.ref b :: st)) : V p l e R s m args below meth c D G bs nL Q cells slots S (pc) lv (.ref a :: st) := g10_42 C ha hd (by rw [hb]; exact kk)
theorem p10_42 {p : Program} {l : Launch} {e : Env} {R : Room} {s : State} {m : MethodId} {args : Array Value} {below : List Frame} {meth : Method} {c : Code} {D : va_G} {G : Nat → ClassId} {bs nL cells slots pc : Nat} {cc : ByteArray} {Q : State → Prop} {S : Mem} {lv : List (Option Value)} {st : List Value} (C : Cx p s m args meth c D G bs cc nL RX10) {a : Nat} (ha : is S a 10) (hin : meth.name = "<init>") {v : Option Nat} (hd : decode cc pc = .ok (.putfield 42, 3)) (kk : V p l e R s m args below meth c D G bs nL Q cells slots (sO S 652 a v) (pc + 3) lv (st)) : V p l e R s m args below meth c D G bs nL Q cells slots S (pc) lv (va_rf v :: .ref a :: st) := v_put (S' := sO S 652 a v) C ha (by decide) rfl inlX10 tyX10_ok nmX10 (k := 12) (by decide) wd90 rfl (Or.inr ⟨rfl, hin, rfl⟩) (tyX10_ok 12 (by decide)) (by cases v <;> rfl) (by cases v <;> rfl) (by decide) rfl (cell_sO (G := G) (S := S) (k := 12) v ha.2 (by decide) rfl) hd kk
theorem g10_45 {p : Program} {l : Launch} {e : Env} {R : Room} {s : State} {m : MethodId} {args : Array Value} {below : List Frame} {meth : Method} {c : Code} {D : va_G} {G : Nat → ClassId} {bs nL cells slots pc : Nat} {cc : ByteArray} {Q : State → Prop} {S : Mem} {lv : List (Option Value)} {st : List Value} (C : Cx p s m args meth c D G bs cc nL RX10) {a : Nat} (ha : is S a 10) (hd : decode cc pc = .ok (.getfield 45, 3)) (kk : V p l e R s m args below meth c D G bs nL Q cells slots S (pc + 3) lv (va_rf (mO S 653 a) :: st)) : V p l e R s m args below meth c D G bs nL Q cells slots S (pc) lv (.ref a :: st) := v_get C ha (by decide) rfl inlX10 (k := 13) (by decide) wd91 rfl rfl hd kk
theorem r10_45 {p : Program} {l : Launch} {e : Env} {R : Room} {s : State} {m : MethodId} {args : Array Value} {below : List Frame} {meth : Method} {c : Code} {D : va_G} {G : Nat → ClassId} {bs nL cells slots pc : Nat} {cc : ByteArray} {Q : State → Prop} {S : Mem} {lv : List (Option Value)} {st : List Value} (C : Cx p s m args meth c D G bs cc nL RX10) {a : Nat} (ha : is S a 10) {b : Nat} (hb : mO S 653 a = some b) (hd : decode cc pc = .ok (.getfield 45, 3)) (kk : V p l e R s m args below meth c D G bs nL Q cells slots S (pc + 3) lv (.ref b :: st)) : V p l e R s m args below meth c D G bs nL Q cells slots S (pc) lv (.ref a :: st) := g10_45 C ha hd (by rw [hb]; exact kk)
theorem p10_45 {p : Program} {l : Launch} {e : Env} {R : Room} {s : State} {m : MethodId} {args : Array Value} {below : List Frame} {meth : Method} {c : Code} {D : va_G} {G : Nat → ClassId} {bs nL cells slots pc : Nat} {cc : ByteArray} {Q : State → Prop} {S : Mem} {lv : List (Option Value)} {st : List Value} (C : Cx p s m args meth c D G bs cc nL RX10) {a : Nat} (ha : is S a 10) (hin : meth.name = "<init>") {v : Option Nat} (hd : decode cc pc = .ok (.putfield 45, 3)) (kk : V p l e R s m args below meth c D G bs nL Q cells slots (sO S 653 a v) (pc + 3) lv (st)) : V p l e R s m args below meth c D G bs nL Q cells slots S (pc) lv (va_rf v :: .ref a :: st) := v_put (S' := sO S 653 a v) C ha (by decide) rfl inlX10 tyX10_ok nmX10 (k := 13) (by decide) wd91 rfl (Or.inr ⟨rfl, hin, rfl⟩) (tyX10_ok 13 (by decide)) (by cases v <;> rfl) (by cases v <;> rfl) (by decide) rfl (cell_sO (G := G) (S := S) (k := 13) v ha.2 (by decide) rfl) hd kk
theorem g10_48 {p : Program} {l : Launch} {e : Env} {R : Room} {s : State} {m : MethodId} {args : Array Value} {below : List Frame} {meth : Method} {c : Code} {D : va_G} {G : Nat → ClassId} {bs nL cells slots pc : Nat} {cc : ByteArray} {Q : State → Prop} {S : Mem} {lv : List (Option Value)} {st : List Value} (C : Cx p s m args meth c D G bs cc nL RX10) {a : Nat} (ha : is S a 10) (hd : decode cc pc = .ok (.getfield 48, 3)) (kk : V p l e R s m args below meth c D G bs nL Q cells slots S (pc + 3) lv (va_rf (mO S 654 a) :: st)) : V p l e R s m args below meth c D G bs nL Q cells slots S (pc) lv (.ref a :: st) := v_get C ha (by decide) rfl inlX10 (k := 14) (by decide) wd92 rfl rfl hd kk
theorem r10_48 {p : Program} {l : Launch} {e : Env} {R : Room} {s : State} {m : MethodId} {args : Array Value} {below : List Frame} {meth : Method} {c : Code} {D : va_G} {G : Nat → ClassId} {bs nL cells slots pc : Nat} {cc : ByteArray} {Q : State → Prop} {S : Mem} {lv : List (Option Value)} {st : List Value} (C : Cx p s m args meth c D G bs cc nL RX10) {a : Nat} (ha : is S a 10) {b : Nat} (hb : mO S 654 a = some b) (hd : decode cc pc = .ok (.getfield 48, 3)) (kk : V p l e R s m args below meth c D G bs nL Q cells slots S (pc + 3) lv (.ref b :: st)) : V p l e R s m args below meth c D G bs nL Q cells slots S (pc) lv (.ref a :: st) := g10_48 C ha hd (by rw [hb]; exact kk)
theorem p10_48 {p : Program} {l : Launch} {e : Env} {R : Room} {s : State} {m : MethodId} {args : Array Value} {below : List Frame} {meth : Method} {c : Code} {D : va_G} {G : Nat → ClassId} {bs nL cells slots pc : Nat} {cc : ByteArray} {Q : State → Prop} {S : Mem} {lv : List (Option Value)} {st : List Value} (C : Cx p s m args meth c D G bs cc nL RX10) {a : Nat} (ha : is S a 10) (hin : meth.name = "<init>") {v : Option Nat} (hd : decode cc pc = .ok (.putfield 48, 3)) (kk : V p l e R s m args below meth c D G bs nL Q cells slots (sO S 654 a v) (pc + 3) lv (st)) : V p l e R s m args below meth c D G bs nL Q cells slots S (pc) lv (va_rf v :: .ref a :: st) := v_put (S' := sO S 654 a v) C ha (by decide) rfl inlX10 tyX10_ok nmX10 (k := 14) (by decide) wd92 rfl (Or.inr ⟨rfl, hin, rfl⟩) (tyX10_ok 14 (by decide)) (by cases v <;> rfl) (by cases v <;> rfl) (by decide) rfl (cell_sO (G := G) (S := S) (k := 14) v ha.2 (by decide) rfl) hd kk
theorem g10_51 {p : Program} {l : Launch} {e : Env} {R : Room} {s : State} {m : MethodId} {args : Array Value} {below : List Frame} {meth : Method} {c : Code} {D : va_G} {G : Nat → ClassId} {bs nL cells slots pc : Nat} {cc : ByteArray} {Q : State → Prop} {S : Mem} {lv : List (Option Value)} {st : List Value} (C : Cx p s m args meth c D G bs cc nL RX10) {a : Nat} (ha : is S a 10) (hd : decode cc pc = .ok (.getfield 51, 3)) (kk : V p l e R s m args below meth c D G bs nL Q cells slots S (pc + 3) lv (va_rf (mO S 655 a) :: st)) : V p l e R s m args below meth c D G bs nL Q cells slots S (pc) lv (.ref a :: st) := v_get C ha (by decide) rfl inlX10 (k := 15) (by decide) wd93 rfl rfl hd kk
theorem r10_51 {p : Program} {l : Launch} {e : Env} {R : Room} {s : State} {m : MethodId} {args : Array Value} {below : List Frame} {meth : Method} {c : Code} {D : va_G} {G : Nat → ClassId} {bs nL cells slots pc : Nat} {cc : ByteArray} {Q : State → Prop} {S : Mem} {lv : List (Option Value)} {st : List Value} (C : Cx p s m args meth c D G bs cc nL RX10) {a : Nat} (ha : is S a 10) {b : Nat} (hb : mO S 655 a = some b) (hd : decode cc pc = .ok (.getfield 51, 3)) (kk : V p l e R s m args below meth c D G bs nL Q cells slots S (pc + 3) lv (.ref b :: st)) : V p l e R s m args below meth c D G bs nL Q cells slots S (pc) lv (.ref a :: st) := g10_51 C ha hd (by rw [hb]; exact kk)
theorem p10_51 {p : Program} {l : Launch} {e : Env} {R : Room} {s : State} {m : MethodId} {args : Array Value} {below : List Frame} {meth : Method} {c : Code} {D : va_G} {G : Nat → ClassId} {bs nL cells slots pc : Nat} {cc : ByteArray} {Q : State → Prop} {S : Mem} {lv : List (Option Value)} {st : List Value} (C : Cx p s m args meth c D G bs cc nL RX10) {a : Nat} (ha : is S a 10) (hin : meth.name = "<init>") {v : Option Nat} (hd : decode cc pc = .ok (.putfield 51, 3)) (kk : V p l e R s m args below meth c D G bs nL Q cells slots (sO S 655 a v) (pc + 3) lv (st)) : V p l e R s m args below meth c D G bs nL Q cells slots S (pc) lv (va_rf v :: .ref a :: st) := v_put (S' := sO S 655 a v) C ha (by decide) rfl inlX10 tyX10_ok nmX10 (k := 15) (by decide) wd93 rfl (Or.inr ⟨rfl, hin, rfl⟩) (tyX10_ok 15 (by decide)) (by cases v <;> rfl) (by cases v <;> rfl) (by decide) rfl (cell_sO (G := G) (S := S) (k := 15) v ha.2 (by decide) rfl) hd kk
theorem g10_54 {p : Program} {l : Launch} {e : Env} {R : Room} {s : State} {m : MethodId} {args : Array Value} {below : List Frame} {meth : Method} {c : Code} {D : va_G} {G : Nat → ClassId} {bs nL cells slots pc : Nat} {cc : ByteArray} {Q : State → Prop} {S : Mem} {lv : List (Option Value)} {st : List Value} (C : Cx p s m args meth c D G bs cc nL RX10) {a : Nat} (ha : is S a 10) (hd : decode cc pc = .ok (.getfield 54, 3)) (kk : V p l e R s m args below meth c D G bs nL Q cells slots S (pc + 3) lv (va_rf (mO S 656 a) :: st)) : V p l e R s m args below meth c D G bs nL Q cells slots S (pc) lv (.ref a :: st) := v_get C ha (by decide) rfl inlX10 (k := 16) (by decide) wd94 rfl rfl hd kk
theorem r10_54 {p : Program} {l : Launch} {e : Env} {R : Room} {s : State} {m : MethodId} {args : Array Value} {below : List Frame} {meth : Method} {c : Code} {D : va_G} {G : Nat → ClassId} {bs nL cells slots pc : Nat} {cc : ByteArray} {Q : State → Prop} {S : Mem} {lv : List (Option Value)} {st : List Value} (C : Cx p s m args meth c D G bs cc nL RX10) {a : Nat} (ha : is S a 10) {b : Nat} (hb : mO S 656 a = some b) (hd : decode cc pc = .ok (.getfield 54, 3)) (kk : V p l e R s m args below meth c D G bs nL Q cells slots S (pc + 3) lv (.ref b :: st)) : V p l e R s m args below meth c D G bs nL Q cells slots S (pc) lv (.ref a :: st) := g10_54 C ha hd (by rw [hb]; exact kk)
theorem p10_54 {p : Program} {l : Launch} {e : Env} {R : Room} {s : State} {m : MethodId} {args : Array Value} {below : List Frame} {meth : Method} {c : Code} {D : va_G} {G : Nat → ClassId} {bs nL cells slots pc : Nat} {cc : ByteArray} {Q : State → Prop} {S : Mem} {lv : List (Option Value)} {st : List Value} (C : Cx p s m args meth c D G bs cc nL RX10) {a : Nat} (ha : is S a 10) (hin : meth.name = "<init>") {v : Option Nat} (hd : decode cc pc = .ok (.putfield 54, 3)) (kk : V p l e R s m args below meth c D G bs nL Q cells slots (sO S 656 a v) (pc + 3) lv (st)) : V p l e R s m args below meth c D G bs nL Q cells slots S (pc) lv (va_rf v :: .ref a :: st) := v_put (S' := sO S 656 a v) C ha (by decide) rfl inlX10 tyX10_ok nmX10 (k := 16) (by decide) wd94 rfl (Or.inr ⟨rfl, hin, rfl⟩) (tyX10_ok 16 (by decide)) (by cases v <;> rfl) (by cases v <;> rfl) (by decide) rfl (cell_sO (G := G) (S := S) (k := 16) v ha.2 (by decide) rfl) hd kk
theorem g10_57 {p : Program} {l : Launch} {e : Env} {R : Room} {s : State} {m : MethodId} {args : Array Value} {below : List Frame} {meth : Method} {c : Code} {D : va_G} {G : Nat → ClassId} {bs nL cells slots pc : Nat} {cc : ByteArray} {Q : State → Prop} {S : Mem} {lv : List (Option Value)} {st : List Value} (C : Cx p s m args meth c D G bs cc nL RX10) {a : Nat} (ha : is S a 10) (hd : decode cc pc = .ok (.getfield 57, 3)) (kk : V p l e R s m args below meth c D G bs nL Q cells slots S (pc + 3) lv (va_rf (mO S 657 a) :: st)) : V p l e R s m args below meth c D G bs nL Q cells slots S (pc) lv (.ref a :: st) := v_get C ha (by decide) rfl inlX10 (k := 17) (by decide) wd95 rfl rfl hd kk
theorem r10_57 {p : Program} {l : Launch} {e : Env} {R : Room} {s : State} {m : MethodId} {args : Array Value} {below : List Frame} {meth : Method} {c : Code} {D : va_G} {G : Nat → ClassId} {bs nL cells slots pc : Nat} {cc : ByteArray} {Q : State → Prop} {S : Mem} {lv : List (Option Value)} {st : List Value} (C : Cx p s m args meth c D G bs cc nL RX10) {a : Nat} (ha : is S a 10) {b : Nat} (hb : mO S 657 a = some b) (hd : decode cc pc = .ok (.getfield 57, 3)) (kk : V p l e R s m args below meth c D G bs nL Q cells slots S (pc + 3) lv (.ref b :: st)) : V p l e R s m args below meth c D G bs nL Q cells slots S (pc) lv (.ref a :: st) := g10_57 C ha hd (by rw [hb]; exact kk)
theorem p10_57 {p : Program} {l : Launch} {e : Env} {R : Room} {s : State} {m : MethodId} {args : Array Value} {below : List Frame} {meth : Method} {c : Code} {D : va_G} {G : Nat → ClassId} {bs nL cells slots pc : Nat} {cc : ByteArray} {Q : State → Prop} {S : Mem} {lv : List (Option Value)} {st : List Value} (C : Cx p s m args meth c D G bs cc nL RX10) {a : Nat} (ha : is S a 10) (hin : meth.name = "<init>") {v : Option Nat} (hd : decode cc pc = .ok (.putfield 57, 3)) (kk : V p l e R s m args below meth c D G bs nL Q cells slots (sO S 657 a v) (pc + 3) lv (st)) : V p l e R s m args below meth c D G bs nL Q cells slots S (pc) lv (va_rf v :: .ref a :: st) := v_put (S' := sO S 657 a v) C ha (by decide) rfl inlX10 tyX10_ok nmX10 (k := 17) (by decide) wd95 rfl (Or.inr ⟨rfl, hin, rfl⟩) (tyX10_ok 17 (by decide)) (by cases v <;> rfl) (by cases v <;> rfl) (by decide) rfl (cell_sO (G := G) (S := S) (k := 17) v ha.2 (by decide) rfl) hd kk
theorem g10_60 {p : Program} {l : Launch} {e : Env} {R : Room} {s : State} {m : MethodId} {args : Array Value} {below : List Frame} {meth : Method} {c : Code} {D : va_G} {G : Nat → ClassId} {bs nL cells slots pc : Nat} {cc : ByteArray} {Q : State → Prop} {S : Mem} {lv : List (Option Value)} {st : List Value} (C : Cx p s m args meth c D G bs cc nL RX10) {a : Nat} (ha : is S a 10) (hd : decode cc pc = .ok (.getfield 60, 3)) (kk : V p l e R s m args below meth c D G bs nL Q cells slots S (pc + 3) lv (va_rf (mO S 658 a) :: st)) : V p l e R s m args below meth c D G bs nL Q cells slots S (pc) lv (.ref a :: st) := v_get C ha (by decide) rfl inlX10 (k := 18) (by decide) wd96 rfl rfl hd kk
theorem r10_60 {p : Program} {l : Launch} {e : Env} {R : Room} {s : State} {m : MethodId} {args : Array Value} {below : List Frame} {meth : Method} {c : Code} {D : va_G} {G : Nat → ClassId} {bs nL cells slots pc : Nat} {cc : ByteArray} {Q : State → Prop} {S : Mem} {lv : List (Option Value)} {st : List Value} (C : Cx p s m args meth c D G bs cc nL RX10) {a : Nat} (ha : is S a 10) {b : Nat} (hb : mO S 658 a = some b) (hd : decode cc pc = .ok (.getfield 60, 3)) (kk : V p l e R s m args below meth c D G bs nL Q cells slots S (pc + 3) lv (.ref b :: st)) : V p l e R s m args below meth c D G bs nL Q cells slots S (pc) lv (.ref a :: st) := g10_60 C ha hd (by rw [hb]; exact kk)
theorem p10_60 {p : Program} {l : Launch} {e : Env} {R : Room} {s : State} {m : MethodId} {args : Array Value} {below : List Frame} {meth : Method} {c : Code} {D : va_G} {G : Nat → ClassId} {bs nL cells slots pc : Nat} {cc : ByteArray} {Q : State → Prop} {S : Mem} {lv : List (Option Value)} {st : List Value} (C : Cx p s m args meth c D G bs cc nL RX10) {a : Nat} (ha : is S a 10) (hin : meth.name = "<init>") {v : Option Nat} (hd : decode cc pc = .ok (.putfield 60, 3)) (kk : V p l e R s m args below meth c D G bs nL Q cells slots (sO S 658 a v) (pc + 3) lv (st)) : V p l e R s m args below meth c D G bs nL Q cells slots S (pc) lv (va_rf v :: .ref a :: st) := v_put (S' := sO S 658 a v) C ha (by decide) rfl inlX10 tyX10_ok nmX10 (k := 18) (by decide) wd96 rfl (Or.inr ⟨rfl, hin, rfl⟩) (tyX10_ok 18 (by decide)) (by cases v <;> rfl) (by cases v <;> rfl) (by decide) rfl (cell_sO (G := G) (S := S) (k := 18) v ha.2 (by decide) rfl) hd kk
theorem g10_63 {p : Program} {l : Launch} {e : Env} {R : Room} {s : State} {m : MethodId} {args : Array Value} {below : List Frame} {meth : Method} {c : Code} {D : va_G} {G : Nat → ClassId} {bs nL cells slots pc : Nat} {cc : ByteArray} {Q : State → Prop} {S : Mem} {lv : List (Option Value)} {st : List Value} (C : Cx p s m args meth c D G bs cc nL RX10) {a : Nat} (ha : is S a 10) (hd : decode cc pc = .ok (.getfield 63, 3)) (kk : V p l e R s m args below meth c D G bs nL Q cells slots S (pc + 3) lv (.int (mI S 659 a) :: st)) : V p l e R s m args below meth c D G bs nL Q cells slots S (pc) lv (.ref a :: st) := v_get C ha (by decide) rfl inlX10 (k := 19) (by decide) wd97 rfl rfl hd kk
theorem p10_63 {p : Program} {l : Launch} {e : Env} {R : Room} {s : State} {m : MethodId} {args : Array Value} {below : List Frame} {meth : Method} {c : Code} {D : va_G} {G : Nat → ClassId} {bs nL cells slots pc : Nat} {cc : ByteArray} {Q : State → Prop} {S : Mem} {lv : List (Option Value)} {st : List Value} (C : Cx p s m args meth c D G bs cc nL RX10) {a : Nat} (ha : is S a 10) {v : Int32} (hd : decode cc pc = .ok (.putfield 63, 3)) (kk : V p l e R s m args below meth c D G bs nL Q cells slots (sI S 659 a v) (pc + 3) lv (st)) : V p l e R s m args below meth c D G bs nL Q cells slots S (pc) lv (.int v :: .ref a :: st) := v_put (S' := sI S 659 a v) C ha (by decide) rfl inlX10 tyX10_ok nmX10 (k := 19) (by decide) wd97 rfl (Or.inl rfl) (tyX10_ok 19 (by decide)) rfl rfl (by decide) rfl (cell_sI (G := G) (S := S) (k := 19) v ha.2 (by decide) rfl) hd kk
theorem g10_67 {p : Program} {l : Launch} {e : Env} {R : Room} {s : State} {m : MethodId} {args : Array Value} {below : List Frame} {meth : Method} {c : Code} {D : va_G} {G : Nat → ClassId} {bs nL cells slots pc : Nat} {cc : ByteArray} {Q : State → Prop} {S : Mem} {lv : List (Option Value)} {st : List Value} (C : Cx p s m args meth c D G bs cc nL RX10) {a : Nat} (ha : is S a 10) (hd : decode cc pc = .ok (.getfield 67, 3)) (kk : V p l e R s m args below meth c D G bs nL Q cells slots S (pc + 3) lv (va_rf (mO S 660 a) :: st)) : V p l e R s m args below meth c D G bs nL Q cells slots S (pc) lv (.ref a :: st) := v_get C ha (by decide) rfl inlX10 (k := 20) (by decide) wd98 rfl rfl hd kk
theorem r10_67 {p : Program} {l : Launch} {e : Env} {R : Room} {s : State} {m : MethodId} {args : Array Value} {below : List Frame} {meth : Method} {c : Code} {D : va_G} {G : Nat → ClassId} {bs nL cells slots pc : Nat} {cc : ByteArray} {Q : State → Prop} {S : Mem} {lv : List (Option Value)} {st : List Value} (C : Cx p s m args meth c D G bs cc nL RX10) {a : Nat} (ha : is S a 10) {b : Nat} (hb : mO S 660 a = some b) (hd : decode cc pc = .ok (.getfield 67, 3)) (kk : V p l e R s m args below meth c D G bs nL Q cells slots S (pc + 3) lv (.ref b :: st)) : V p l e R s m args below meth c D G bs nL Q cells slots S (pc) lv (.ref a :: st) := g10_67 C ha hd (by rw [hb]; exact kk)
theorem p10_67 {p : Program} {l : Launch} {e : Env} {R : Room} {s : State} {m : MethodId} {args : Array Value} {below : List Frame} {meth : Method} {c : Code} {D : va_G} {G : Nat → ClassId} {bs nL cells slots pc : Nat} {cc : ByteArray} {Q : State → Prop} {S : Mem} {lv : List (Option Value)} {st : List Value} (C : Cx p s m args meth c D G bs cc nL RX10) {a : Nat} (ha : is S a 10) (hin : meth.name = "<init>") {v : Option Nat} (hd : decode cc pc = .ok (.putfield 67, 3)) (kk : V p l e R s m args below meth c D G bs nL Q cells slots (sO S 660 a v) (pc + 3) lv (st)) : V p l e R s m args below meth c D G bs nL Q cells slots S (pc) lv (va_rf v :: .ref a :: st) := v_put (S' := sO S 660 a v) C ha (by decide) rfl inlX10 tyX10_ok nmX10 (k := 20) (by decide) wd98 rfl (Or.inr ⟨rfl, hin, rfl⟩) (tyX10_ok 20 (by decide)) (by cases v <;> rfl) (by cases v <;> rfl) (by decide) rfl (cell_sO (G := G) (S := S) (k := 20) v ha.2 (by decide) rfl) hd kk
theorem g10_70 {p : Program} {l : Launch} {e : Env} {R : Room} {s : State} {m : MethodId} {args : Array Value} {below : List Frame} {meth : Method} {c : Code} {D : va_G} {G : Nat → ClassId} {bs nL cells slots pc : Nat} {cc : ByteArray} {Q : State → Prop} {S : Mem} {lv : List (Option Value)} {st : List Value} (C : Cx p s m args meth c D G bs cc nL RX10) {a : Nat} (ha : is S a 10) (hd : decode cc pc = .ok (.getfield 70, 3)) (kk : V p l e R s m args below meth c D G bs nL Q cells slots S (pc + 3) lv (va_rf (mO S 661 a) :: st)) : V p l e R s m args below meth c D G bs nL Q cells slots S (pc) lv (.ref a :: st) := v_get C ha (by decide) rfl inlX10 (k := 21) (by decide) wd99 rfl rfl hd kk
theorem r10_70 {p : Program} {l : Launch} {e : Env} {R : Room} {s : State} {m : MethodId} {args : Array Value} {below : List Frame} {meth : Method} {c : Code} {D : va_G} {G : Nat → ClassId} {bs nL cells slots pc : Nat} {cc : ByteArray} {Q : State → Prop} {S : Mem} {lv : List (Option Value)} {st : List Value} (C : Cx p s m args meth c D G bs cc nL RX10) {a : Nat} (ha : is S a 10) {b : Nat} (hb : mO S 661 a = some b) (hd : decode cc pc = .ok (.getfield 70, 3)) (kk : V p l e R s m args below meth c D G bs nL Q cells slots S (pc + 3) lv (.ref b :: st)) : V p l e R s m args below meth c D G bs nL Q cells slots S (pc) lv (.ref a :: st) := g10_70 C ha hd (by rw [hb]; exact kk)
theorem p10_70 {p : Program} {l : Launch} {e : Env} {R : Room} {s : State} {m : MethodId} {args : Array Value} {below : List Frame} {meth : Method} {c : Code} {D : va_G} {G : Nat → ClassId} {bs nL cells slots pc : Nat} {cc : ByteArray} {Q : State → Prop} {S : Mem} {lv : List (Option Value)} {st : List Value} (C : Cx p s m args meth c D G bs cc nL RX10) {a : Nat} (ha : is S a 10) (hin : meth.name = "<init>") {v : Option Nat} (hd : decode cc pc = .ok (.putfield 70, 3)) (kk : V p l e R s m args below meth c D G bs nL Q cells slots (sO S 661 a v) (pc + 3) lv (st)) : V p l e R s m args below meth c D G bs nL Q cells slots S (pc) lv (va_rf v :: .ref a :: st) := v_put (S' := sO S 661 a v) C ha (by decide) rfl inlX10 tyX10_ok nmX10 (k := 21) (by decide) wd99 rfl (Or.inr ⟨rfl, hin, rfl⟩) (tyX10_ok 21 (by decide)) (by cases v <;> rfl) (by cases v <;> rfl) (by decide) rfl (cell_sO (G := G) (S := S) (k := 21) v ha.2 (by decide) rfl) hd kk
theorem g10_73 {p : Program} {l : Launch} {e : Env} {R : Room} {s : State} {m : MethodId} {args : Array Value} {below : List Frame} {meth : Method} {c : Code} {D : va_G} {G : Nat → ClassId} {bs nL cells slots pc : Nat} {cc : ByteArray} {Q : State → Prop} {S : Mem} {lv : List (Option Value)} {st : List Value} (C : Cx p s m args meth c D G bs cc nL RX10) {a : Nat} (ha : is S a 10) (hd : decode cc pc = .ok (.getfield 73, 3)) (kk : V p l e R s m args below meth c D G bs nL Q cells slots S (pc + 3) lv (va_rf (mO S 662 a) :: st)) : V p l e R s m args below meth c D G bs nL Q cells slots S (pc) lv (.ref a :: st) := v_get C ha (by decide) rfl inlX10 (k := 22) (by decide) wd100 rfl rfl hd kk
theorem r10_73 {p : Program} {l : Launch} {e : Env} {R : Room} {s : State} {m : MethodId} {args : Array Value} {below : List Frame} {meth : Method} {c : Code} {D : va_G} {G : Nat → ClassId} {bs nL cells slots pc : Nat} {cc : ByteArray} {Q : State → Prop} {S : Mem} {lv : List (Option Value)} {st : List Value} (C : Cx p s m args meth c D G bs cc nL RX10) {a : Nat} (ha : is S a 10) {b : Nat} (hb : mO S 662 a = some b) (hd : decode cc pc = .ok (.getfield 73, 3)) (kk : V p l e R s m args below meth c D G bs nL Q cells slots S (pc + 3) lv (.ref b :: st)) : V p l e R s m args below meth c D G bs nL Q cells slots S (pc) lv (.ref a :: st) := g10_73 C ha hd (by rw [hb]; exact kk)
theorem p10_73 {p : Program} {l : Launch} {e : Env} {R : Room} {s : State} {m : MethodId} {args : Array Value} {below : List Frame} {meth : Method} {c : Code} {D : va_G} {G : Nat → ClassId} {bs nL cells slots pc : Nat} {cc : ByteArray} {Q : State → Prop} {S : Mem} {lv : List (Option Value)} {st : List Value} (C : Cx p s m args meth c D G bs cc nL RX10) {a : Nat} (ha : is S a 10) (hin : meth.name = "<init>") {v : Option Nat} (hd : decode cc pc = .ok (.putfield 73, 3)) (kk : V p l e R s m args below meth c D G bs nL Q cells slots (sO S 662 a v) (pc + 3) lv (st)) : V p l e R s m args below meth c D G bs nL Q cells slots S (pc) lv (va_rf v :: .ref a :: st) := v_put (S' := sO S 662 a v) C ha (by decide) rfl inlX10 tyX10_ok nmX10 (k := 22) (by decide) wd100 rfl (Or.inr ⟨rfl, hin, rfl⟩) (tyX10_ok 22 (by decide)) (by cases v <;> rfl) (by cases v <;> rfl) (by decide) rfl (cell_sO (G := G) (S := S) (k := 22) v ha.2 (by decide) rfl) hd kk
theorem g10_76 {p : Program} {l : Launch} {e : Env} {R : Room} {s : State} {m : MethodId} {args : Array Value} {below : List Frame} {meth : Method} {c : Code} {D : va_G} {G : Nat → ClassId} {bs nL cells slots pc : Nat} {cc : ByteArray} {Q : State → Prop} {S : Mem} {lv : List (Option Value)} {st : List Value} (C : Cx p s m args meth c D G bs cc nL RX10) {a : Nat} (ha : is S a 10) (hd : decode cc pc = .ok (.getfield 76, 3)) (kk : V p l e R s m args below meth c D G bs nL Q cells slots S (pc + 3) lv (va_rf (mO S 663 a) :: st)) : V p l e R s m args below meth c D G bs nL Q cells slots S (pc) lv (.ref a :: st) := v_get C ha (by decide) rfl inlX10 (k := 23) (by decide) wd101 rfl rfl hd kk
theorem r10_76 {p : Program} {l : Launch} {e : Env} {R : Room} {s : State} {m : MethodId} {args : Array Value} {below : List Frame} {meth : Method} {c : Code} {D : va_G} {G : Nat → ClassId} {bs nL cells slots pc : Nat} {cc : ByteArray} {Q : State → Prop} {S : Mem} {lv : List (Option Value)} {st : List Value} (C : Cx p s m args meth c D G bs cc nL RX10) {a : Nat} (ha : is S a 10) {b : Nat} (hb : mO S 663 a = some b) (hd : decode cc pc = .ok (.getfield 76, 3)) (kk : V p l e R s m args below meth c D G bs nL Q cells slots S (pc + 3) lv (.ref b :: st)) : V p l e R s m args below meth c D G bs nL Q cells slots S (pc) lv (.ref a :: st) := g10_76 C ha hd (by rw [hb]; exact kk)
theorem p10_76 {p : Program} {l : Launch} {e : Env} {R : Room} {s : State} {m : MethodId} {args : Array Value} {below : List Frame} {meth : Method} {c : Code} {D : va_G} {G : Nat → ClassId} {bs nL cells slots pc : Nat} {cc : ByteArray} {Q : State → Prop} {S : Mem} {lv : List (Option Value)} {st : List Value} (C : Cx p s m args meth c D G bs cc nL RX10) {a : Nat} (ha : is S a 10) (hin : meth.name = "<init>") {v : Option Nat} (hd : decode cc pc = .ok (.putfield 76, 3)) (kk : V p l e R s m args below meth c D G bs nL Q cells slots (sO S 663 a v) (pc + 3) lv (st)) : V p l e R s m args below meth c D G bs nL Q cells slots S (pc) lv (va_rf v :: .ref a :: st) := v_put (S' := sO S 663 a v) C ha (by decide) rfl inlX10 tyX10_ok nmX10 (k := 23) (by decide) wd101 rfl (Or.inr ⟨rfl, hin, rfl⟩) (tyX10_ok 23 (by decide)) (by cases v <;> rfl) (by cases v <;> rfl) (by decide) rfl (cell_sO (G := G) (S := S) (k := 23) v ha.2 (by decide) rfl) hd kk
theorem g10_79 {p : Program} {l : Launch} {e : Env} {R : Room} {s : State} {m : MethodId} {args : Array Value} {below : List Frame} {meth : Method} {c : Code} {D : va_G} {G : Nat → ClassId} {bs nL cells slots pc : Nat} {cc : ByteArray} {Q : State → Prop} {S : Mem} {lv : List (Option Value)} {st : List Value} (C : Cx p s m args meth c D G bs cc nL RX10) {a : Nat} (ha : is S a 10) (hd : decode cc pc = .ok (.getfield 79, 3)) (kk : V p l e R s m args below meth c D G bs nL Q cells slots S (pc + 3) lv (va_rf (mO S 664 a) :: st)) : V p l e R s m args below meth c D G bs nL Q cells slots S (pc) lv (.ref a :: st) := v_get C ha (by decide) rfl inlX10 (k := 24) (by decide) wd102 rfl rfl hd kk
theorem r10_79 {p : Program} {l : Launch} {e : Env} {R : Room} {s : State} {m : MethodId} {args : Array Value} {below : List Frame} {meth : Method} {c : Code} {D : va_G} {G : Nat → ClassId} {bs nL cells slots pc : Nat} {cc : ByteArray} {Q : State → Prop} {S : Mem} {lv : List (Option Value)} {st : List Value} (C : Cx p s m args meth c D G bs cc nL RX10) {a : Nat} (ha : is S a 10) {b : Nat} (hb : mO S 664 a = some b) (hd : decode cc pc = .ok (.getfield 79, 3)) (kk : V p l e R s m args below meth c D G bs nL Q cells slots S (pc + 3) lv (.ref b :: st)) : V p l e R s m args below meth c D G bs nL Q cells slots S (pc) lv (.ref a :: st) := g10_79 C ha hd (by rw [hb]; exact kk)
theorem p10_79 {p : Program} {l : Launch} {e : Env} {R : Room} {s : State} {m : MethodId} {args : Array Value} {below : List Frame} {meth : Method} {c : Code} {D : va_G} {G : Nat → ClassId} {bs nL cells slots pc : Nat} {cc : ByteArray} {Q : State → Prop} {S : Mem} {lv : List (Option Value)} {st : List Value} (C : Cx p s m args meth c D G bs cc nL RX10) {a : Nat} (ha : is S a 10) (hin : meth.name = "<init>") {v : Option Nat} (hd : decode cc pc = .ok (.putfield 79, 3)) (kk : V p l e R s m args below meth c D G bs nL Q cells slots (sO S 664 a v) (pc + 3) lv (st)) : V p l e R s m args below meth c D G bs nL Q cells slots S (pc) lv (va_rf v :: .ref a :: st) := v_put (S' := sO S 664 a v) C ha (by decide) rfl inlX10 tyX10_ok nmX10 (k := 24) (by decide) wd102 rfl (Or.inr ⟨rfl, hin, rfl⟩) (tyX10_ok 24 (by decide)) (by cases v <;> rfl) (by cases v <;> rfl) (by decide) rfl (cell_sO (G := G) (S := S) (k := 24) v ha.2 (by decide) rfl) hd kk
theorem g10_82 {p : Program} {l : Launch} {e : Env} {R : Room} {s : State} {m : MethodId} {args : Array Value} {below : List Frame} {meth : Method} {c : Code} {D : va_G} {G : Nat → ClassId} {bs nL cells slots pc : Nat} {cc : ByteArray} {Q : State → Prop} {S : Mem} {lv : List (Option Value)} {st : List Value} (C : Cx p s m args meth c D G bs cc nL RX10) {a : Nat} (ha : is S a 10) (hd : decode cc pc = .ok (.getfield 82, 3)) (kk : V p l e R s m args below meth c D G bs nL Q cells slots S (pc + 3) lv (va_rf (mO S 665 a) :: st)) : V p l e R s m args below meth c D G bs nL Q cells slots S (pc) lv (.ref a :: st) := v_get C ha (by decide) rfl inlX10 (k := 25) (by decide) wd103 rfl rfl hd kk
theorem r10_82 {p : Program} {l : Launch} {e : Env} {R : Room} {s : State} {m : MethodId} {args : Array Value} {below : List Frame} {meth : Method} {c : Code} {D : va_G} {G : Nat → ClassId} {bs nL cells slots pc : Nat} {cc : ByteArray} {Q : State → Prop} {S : Mem} {lv : List (Option Value)} {st : List Value} (C : Cx p s m args meth c D G bs cc nL RX10) {a : Nat} (ha : is S a 10) {b : Nat} (hb : mO S 665 a = some b) (hd : decode cc pc = .ok (.getfield 82, 3)) (kk : V p l e R s m args below meth c D G bs nL Q cells slots S (pc + 3) lv (.ref b :: st)) : V p l e R s m args below meth c D G bs nL Q cells slots S (pc) lv (.ref a :: st) := g10_82 C ha hd (by rw [hb]; exact kk)
theorem p10_82 {p : Program} {l : Launch} {e : Env} {R : Room} {s : State} {m : MethodId} {args : Array Value} {below : List Frame} {meth : Method} {c : Code} {D : va_G} {G : Nat → ClassId} {bs nL cells slots pc : Nat} {cc : ByteArray} {Q : State → Prop} {S : Mem} {lv : List (Option Value)} {st : List Value} (C : Cx p s m args meth c D G bs cc nL RX10) {a : Nat} (ha : is S a 10) (hin : meth.name = "<init>") {v : Option Nat} (hd : decode cc pc = .ok (.putfield 82, 3)) (kk : V p l e R s m args below meth c D G bs nL Q cells slots (sO S 665 a v) (pc + 3) lv (st)) : V p l e R s m args below meth c D G bs nL Q cells slots S (pc) lv (va_rf v :: .ref a :: st) := v_put (S' := sO S 665 a v) C ha (by decide) rfl inlX10 tyX10_ok nmX10 (k := 25) (by decide) wd103 rfl (Or.inr ⟨rfl, hin, rfl⟩) (tyX10_ok 25 (by decide)) (by cases v <;> rfl) (by cases v <;> rfl) (by decide) rfl (cell_sO (G := G) (S := S) (k := 25) v ha.2 (by decide) rfl) hd kk
theorem g10_85 {p : Program} {l : Launch} {e : Env} {R : Room} {s : State} {m : MethodId} {args : Array Value} {below : List Frame} {meth : Method} {c : Code} {D : va_G} {G : Nat → ClassId} {bs nL cells slots pc : Nat} {cc : ByteArray} {Q : State → Prop} {S : Mem} {lv : List (Option Value)} {st : List Value} (C : Cx p s m args meth c D G bs cc nL RX10) {a : Nat} (ha : is S a 10) (hd : decode cc pc = .ok (.getfield 85, 3)) (kk : V p l e R s m args below meth c D G bs nL Q cells slots S (pc + 3) lv (va_rf (mO S 666 a) :: st)) : V p l e R s m args below meth c D G bs nL Q cells slots S (pc) lv (.ref a :: st) := v_get C ha (by decide) rfl inlX10 (k := 26) (by decide) wd104 rfl rfl hd kk
theorem r10_85 {p : Program} {l : Launch} {e : Env} {R : Room} {s : State} {m : MethodId} {args : Array Value} {below : List Frame} {meth : Method} {c : Code} {D : va_G} {G : Nat → ClassId} {bs nL cells slots pc : Nat} {cc : ByteArray} {Q : State → Prop} {S : Mem} {lv : List (Option Value)} {st : List Value} (C : Cx p s m args meth c D G bs cc nL RX10) {a : Nat} (ha : is S a 10) {b : Nat} (hb : mO S 666 a = some b) (hd : decode cc pc = .ok (.getfield 85, 3)) (kk : V p l e R s m args below meth c D G bs nL Q cells slots S (pc + 3) lv (.ref b :: st)) : V p l e R s m args below meth c D G bs nL Q cells slots S (pc) lv (.ref a :: st) := g10_85 C ha hd (by rw [hb]; exact kk)
theorem p10_85 {p : Program} {l : Launch} {e : Env} {R : Room} {s : State} {m : MethodId} {args : Array Value} {below : List Frame} {meth : Method} {c : Code} {D : va_G} {G : Nat → ClassId} {bs nL cells slots pc : Nat} {cc : ByteArray} {Q : State → Prop} {S : Mem} {lv : List (Option Value)} {st : List Value} (C : Cx p s m args meth c D G bs cc nL RX10) {a : Nat} (ha : is S a 10) (hin : meth.name = "<init>") {v : Option Nat} (hd : decode cc pc = .ok (.putfield 85, 3)) (kk : V p l e R s m args below meth c D G bs nL Q cells slots (sO S 666 a v) (pc + 3) lv (st)) : V p l e R s m args below meth c D G bs nL Q cells slots S (pc) lv (va_rf v :: .ref a :: st) := v_put (S' := sO S 666 a v) C ha (by decide) rfl inlX10 tyX10_ok nmX10 (k := 26) (by decide) wd104 rfl (Or.inr ⟨rfl, hin, rfl⟩) (tyX10_ok 26 (by decide)) (by cases v <;> rfl) (by cases v <;> rfl) (by decide) rfl (cell_sO (G := G) (S := S) (k := 26) v ha.2 (by decide) rfl) hd kk
theorem g10_88 {p : Program} {l : Launch} {e : Env} {R : Room} {s : State} {m : MethodId} {args : Array Value} {below : List Frame} {meth : Method} {c : Code} {D : va_G} {G : Nat → ClassId} {bs nL cells slots pc : Nat} {cc : ByteArray} {Q : State → Prop} {S : Mem} {lv : List (Option Value)} {st : List Value} (C : Cx p s m args meth c D G bs cc nL RX10) {a : Nat} (ha : is S a 10) (hd : decode cc pc = .ok (.getfield 88, 3)) (kk : V p l e R s m args below meth c D G bs nL Q cells slots S (pc + 3) lv (va_rf (mO S 667 a) :: st)) : V p l e R s m args below meth c D G bs nL Q cells slots S (pc) lv (.ref a :: st) := v_get C ha (by decide) rfl inlX10 (k := 27) (by decide) wd105 rfl rfl hd kk
theorem r10_88 {p : Program} {l : Launch} {e : Env} {R : Room} {s : State} {m : MethodId} {args : Array Value} {below : List Frame} {meth : Method} {c : Code} {D : va_G} {G : Nat → ClassId} {bs nL cells slots pc : Nat} {cc : ByteArray} {Q : State → Prop} {S : Mem} {lv : List (Option Value)} {st : List Value} (C : Cx p s m args meth c D G bs cc nL RX10) {a : Nat} (ha : is S a 10) {b : Nat} (hb : mO S 667 a = some b) (hd : decode cc pc = .ok (.getfield 88, 3)) (kk : V p l e R s m args below meth c D G bs nL Q cells slots S (pc + 3) lv (.ref b :: st)) : V p l e R s m args below meth c D G bs nL Q cells slots S (pc) lv (.ref a :: st) := g10_88 C ha hd (by rw [hb]; exact kk)
theorem p10_88 {p : Program} {l : Launch} {e : Env} {R : Room} {s : State} {m : MethodId} {args : Array Value} {below : List Frame} {meth : Method} {c : Code} {D : va_G} {G : Nat → ClassId} {bs nL cells slots pc : Nat} {cc : ByteArray} {Q : State → Prop} {S : Mem} {lv : List (Option Value)} {st : List Value} (C : Cx p s m args meth c D G bs cc nL RX10) {a : Nat} (ha : is S a 10) (hin : meth.name = "<init>") {v : Option Nat} (hd : decode cc pc = .ok (.putfield 88, 3)) (kk : V p l e R s m args below meth c D G bs nL Q cells slots (sO S 667 a v) (pc + 3) lv (st)) : V p l e R s m args below meth c D G bs nL Q cells slots S (pc) lv (va_rf v :: .ref a :: st) := v_put (S' := sO S 667 a v) C ha (by decide) rfl inlX10 tyX10_ok nmX10 (k := 27) (by decide) wd105 rfl (Or.inr ⟨rfl, hin, rfl⟩) (tyX10_ok 27 (by decide)) (by cases v <;> rfl) (by cases v <;> rfl) (by decide) rfl (cell_sO (G := G) (S := S) (k := 27) v ha.2 (by decide) rfl) hd kk
theorem g10_91 {p : Program} {l : Launch} {e : Env} {R : Room} {s : State} {m : MethodId} {args : Array Value} {below : List Frame} {meth : Method} {c : Code} {D : va_G} {G : Nat → ClassId} {bs nL cells slots pc : Nat} {cc : ByteArray} {Q : State → Prop} {S : Mem} {lv : List (Option Value)} {st : List Value} (C : Cx p s m args meth c D G bs cc nL RX10) {a : Nat} (ha : is S a 10) (hd : decode cc pc = .ok (.getfield 91, 3)) (kk : V p l e R s m args below meth c D G bs nL Q cells slots S (pc + 3) lv (va_rf (mO S 668 a) :: st)) : V p l e R s m args below meth c D G bs nL Q cells slots S (pc) lv (.ref a :: st) := v_get C ha (by decide) rfl inlX10 (k := 28) (by decide) wd106 rfl rfl hd kk
theorem r10_91 {p : Program} {l : Launch} {e : Env} {R : Room} {s : State} {m : MethodId} {args : Array Value} {below : List Frame} {meth : Method} {c : Code} {D : va_G} {G : Nat → ClassId} {bs nL cells slots pc : Nat} {cc : ByteArray} {Q : State → Prop} {S : Mem} {lv : List (Option Value)} {st : List Value} (C : Cx p s m args meth c D G bs cc nL RX10) {a : Nat} (ha : is S a 10) {b : Nat} (hb : mO S 668 a = some b) (hd : decode cc pc = .ok (.getfield 91, 3)) (kk : V p l e R s m args below meth c D G bs nL Q cells slots S (pc + 3) lv (.ref b :: st)) : V p l e R s m args below meth c D G bs nL Q cells slots S (pc) lv (.ref a :: st) := g10_91 C ha hd (by rw [hb]; exact kk)
theorem p10_91 {p : Program} {l : Launch} {e : Env} {R : Room} {s : State} {m : MethodId} {args : Array Value} {below : List Frame} {meth : Method} {c : Code} {D : va_G} {G : Nat → ClassId} {bs nL cells slots pc : Nat} {cc : ByteArray} {Q : State → Prop} {S : Mem} {lv : List (Option Value)} {st : List Value} (C : Cx p s m args meth c D G bs cc nL RX10) {a : Nat} (ha : is S a 10) (hin : meth.name = "<init>") {v : Option Nat} (hd : decode cc pc = .ok (.putfield 91, 3)) (kk : V p l e R s m args below meth c D G bs nL Q cells slots (sO S 668 a v) (pc + 3) lv (st)) : V p l e R s m args below meth c D G bs nL Q cells slots S (pc) lv (va_rf v :: .ref a :: st) := v_put (S' := sO S 668 a v) C ha (by decide) rfl inlX10 tyX10_ok nmX10 (k := 28) (by decide) wd106 rfl (Or.inr ⟨rfl, hin, rfl⟩) (tyX10_ok 28 (by decide)) (by cases v <;> rfl) (by cases v <;> rfl) (by decide) rfl (cell_sO (G := G) (S := S) (k := 28) v ha.2 (by decide) rfl) hd kk
theorem g10_94 {p : Program} {l : Launch} {e : Env} {R : Room} {s : State} {m : MethodId} {args : Array Value} {below : List Frame} {meth : Method} {c : Code} {D : va_G} {G : Nat → ClassId} {bs nL cells slots pc : Nat} {cc : ByteArray} {Q : State → Prop} {S : Mem} {lv : List (Option Value)} {st : List Value} (C : Cx p s m args meth c D G bs cc nL RX10) {a : Nat} (ha : is S a 10) (hd : decode cc pc = .ok (.getfield 94, 3)) (kk : V p l e R s m args below meth c D G bs nL Q cells slots S (pc + 3) lv (va_rf (mO S 670 a) :: st)) : V p l e R s m args below meth c D G bs nL Q cells slots S (pc) lv (.ref a :: st) := v_get C ha (by decide) rfl inlX10 (k := 30) (by decide) wd107 rfl rfl hd kk
theorem r10_94 {p : Program} {l : Launch} {e : Env} {R : Room} {s : State} {m : MethodId} {args : Array Value} {below : List Frame} {meth : Method} {c : Code} {D : va_G} {G : Nat → ClassId} {bs nL cells slots pc : Nat} {cc : ByteArray} {Q : State → Prop} {S : Mem} {lv : List (Option Value)} {st : List Value} (C : Cx p s m args meth c D G bs cc nL RX10) {a : Nat} (ha : is S a 10) {b : Nat} (hb : mO S 670 a = some b) (hd : decode cc pc = .ok (.getfield 94, 3)) (kk : V p l e R s m args below meth c D G bs nL Q cells slots S (pc + 3) lv (.ref b :: st)) : V p l e R s m args below meth c D G bs nL Q cells slots S (pc) lv (.ref a :: st) := g10_94 C ha hd (by rw [hb]; exact kk)
theorem p10_94 {p : Program} {l : Launch} {e : Env} {R : Room} {s : State} {m : MethodId} {args : Array Value} {below : List Frame} {meth : Method} {c : Code} {D : va_G} {G : Nat → ClassId} {bs nL cells slots pc : Nat} {cc : ByteArray} {Q : State → Prop} {S : Mem} {lv : List (Option Value)} {st : List Value} (C : Cx p s m args meth c D G bs cc nL RX10) {a : Nat} (ha : is S a 10) (hin : meth.name = "<init>") {v : Option Nat} (hd : decode cc pc = .ok (.putfield 94, 3)) (kk : V p l e R s m args below meth c D G bs nL Q cells slots (sO S 670 a v) (pc + 3) lv (st)) : V p l e R s m args below meth c D G bs nL Q cells slots S (pc) lv (va_rf v :: .ref a :: st) := v_put (S' := sO S 670 a v) C ha (by decide) rfl inlX10 tyX10_ok nmX10 (k := 30) (by decide) wd107 rfl (Or.inr ⟨rfl, hin, rfl⟩) (tyX10_ok 30 (by decide)) (by cases v <;> rfl) (by cases v <;> rfl) (by decide) rfl (cell_sO (G := G) (S := S) (k := 30) v ha.2 (by decide) rfl) hd kk
theorem g10_97 {p : Program} {l : Launch} {e : Env} {R : Room} {s : State} {m : MethodId} {args : Array Value} {below : List Frame} {meth : Method} {c : Code} {D : va_G} {G : Nat → ClassId} {bs nL cells slots pc : Nat} {cc : ByteArray} {Q : State → Prop} {S : Mem} {lv : List (Option Value)} {st : List Value} (C : Cx p s m args meth c D G bs cc nL RX10) {a : Nat} (ha : is S a 10) (hd : decode cc pc = .ok (.getfield 97, 3)) (kk : V p l e R s m args below meth c D G bs nL Q cells slots S (pc + 3) lv (va_rf (mO S 671 a) :: st)) : V p l e R s m args below meth c D G bs nL Q cells slots S (pc) lv (.ref a :: st) := v_get C ha (by decide) rfl inlX10 (k := 31) (by decide) wd108 rfl rfl hd kk
theorem r10_97 {p : Program} {l : Launch} {e : Env} {R : Room} {s : State} {m : MethodId} {args : Array Value} {below : List Frame} {meth : Method} {c : Code} {D : va_G} {G : Nat → ClassId} {bs nL cells slots pc : Nat} {cc : ByteArray} {Q : State → Prop} {S : Mem} {lv : List (Option Value)} {st : List Value} (C : Cx p s m args meth c D G bs cc nL RX10) {a : Nat} (ha : is S a 10) {b : Nat} (hb : mO S 671 a = some b) (hd : decode cc pc = .ok (.getfield 97, 3)) (kk : V p l e R s m args below meth c D G bs nL Q cells slots S (pc + 3) lv (.ref b :: st)) : V p l e R s m args below meth c D G bs nL Q cells slots S (pc) lv (.ref a :: st) := g10_97 C ha hd (by rw [hb]; exact kk)
theorem p10_97 {p : Program} {l : Launch} {e : Env} {R : Room} {s : State} {m : MethodId} {args : Array Value} {below : List Frame} {meth : Method} {c : Code} {D : va_G} {G : Nat → ClassId} {bs nL cells slots pc : Nat} {cc : ByteArray} {Q : State → Prop} {S : Mem} {lv : List (Option Value)} {st : List Value} (C : Cx p s m args meth c D G bs cc nL RX10) {a : Nat} (ha : is S a 10) (hin : meth.name = "<init>") {v : Option Nat} (hd : decode cc pc = .ok (.putfield 97, 3)) (kk : V p l e R s m args below meth c D G bs nL Q cells slots (sO S 671 a v) (pc + 3) lv (st)) : V p l e R s m args below meth c D G bs nL Q cells slots S (pc) lv (va_rf v :: .ref a :: st) := v_put (S' := sO S 671 a v) C ha (by decide) rfl inlX10 tyX10_ok nmX10 (k := 31) (by decide) wd108 rfl (Or.inr ⟨rfl, hin, rfl⟩) (tyX10_ok 31 (by decide)) (by cases v <;> rfl) (by cases v <;> rfl) (by decide) rfl (cell_sO (G := G) (S := S) (k := 31) v ha.2 (by decide) rfl) hd kk
theorem g10_100 {p : Program} {l : Launch} {e : Env} {R : Room} {s : State} {m : MethodId} {args : Array Value} {below : List Frame} {meth : Method} {c : Code} {D : va_G} {G : Nat → ClassId} {bs nL cells slots pc : Nat} {cc : ByteArray} {Q : State → Prop} {S : Mem} {lv : List (Option Value)} {st : List Value} (C : Cx p s m args meth c D G bs cc nL RX10) {a : Nat} (ha : is S a 10) (hd : decode cc pc = .ok (.getfield 100, 3)) (kk : V p l e R s m args below meth c D G bs nL Q cells slots S (pc + 3) lv (va_rf (mO S 672 a) :: st)) : V p l e R s m args below meth c D G bs nL Q cells slots S (pc) lv (.ref a :: st) := v_get C ha (by decide) rfl inlX10 (k := 32) (by decide) wd109 rfl rfl hd kk
theorem r10_100 {p : Program} {l : Launch} {e : Env} {R : Room} {s : State} {m : MethodId} {args : Array Value} {below : List Frame} {meth : Method} {c : Code} {D : va_G} {G : Nat → ClassId} {bs nL cells slots pc : Nat} {cc : ByteArray} {Q : State → Prop} {S : Mem} {lv : List (Option Value)} {st : List Value} (C : Cx p s m args meth c D G bs cc nL RX10) {a : Nat} (ha : is S a 10) {b : Nat} (hb : mO S 672 a = some b) (hd : decode cc pc = .ok (.getfield 100, 3)) (kk : V p l e R s m args below meth c D G bs nL Q cells slots S (pc + 3) lv (.ref b :: st)) : V p l e R s m args below meth c D G bs nL Q cells slots S (pc) lv (.ref a :: st) := g10_100 C ha hd (by rw [hb]; exact kk)
theorem p10_100 {p : Program} {l : Launch} {e : Env} {R : Room} {s : State} {m : MethodId} {args : Array Value} {below : List Frame} {meth : Method} {c : Code} {D : va_G} {G : Nat → ClassId} {bs nL cells slots pc : Nat} {cc : ByteArray} {Q : State → Prop} {S : Mem} {lv : List (Option Value)} {st : List Value} (C : Cx p s m args meth c D G bs cc nL RX10) {a : Nat} (ha : is S a 10) (hin : meth.name = "<init>") {v : Option Nat} (hd : decode cc pc = .ok (.putfield 100, 3)) (kk : V p l e R s m args below meth c D G bs nL Q cells slots (sO S 672 a v) (pc + 3) lv (st)) : V p l e R s m args below meth c D G bs nL Q cells slots S (pc) lv (va_rf v :: .ref a :: st) := v_put (S' := sO S 672 a v) C ha (by decide) rfl inlX10 tyX10_ok nmX10 (k := 32) (by decide) wd109 rfl (Or.inr ⟨rfl, hin, rfl⟩) (tyX10_ok 32 (by decide)) (by cases v <;> rfl) (by cases v <;> rfl) (by decide) rfl (cell_sO (G := G) (S := S) (k := 32) v ha.2 (by decide) rfl) hd kk
theorem g10_103 {p : Program} {l : Launch} {e : Env} {R : Room} {s : State} {m : MethodId} {args : Array Value} {below : List Frame} {meth : Method} {c : Code} {D : va_G} {G : Nat → ClassId} {bs nL cells slots pc : Nat} {cc : ByteArray} {Q : State → Prop} {S : Mem} {lv : List (Option Value)} {st : List Value} (C : Cx p s m args meth c D G bs cc nL RX10) {a : Nat} (ha : is S a 10) (hd : decode cc pc = .ok (.getfield 103, 3)) (kk : V p l e R s m args below meth c D G bs nL Q cells slots S (pc + 3) lv (va_rf (mO S 673 a) :: st)) : V p l e R s m args below meth c D G bs nL Q cells slots S (pc) lv (.ref a :: st) := v_get C ha (by decide) rfl inlX10 (k := 33) (by decide) wd110 rfl rfl hd kk
theorem r10_103 {p : Program} {l : Launch} {e : Env} {R : Room} {s : State} {m : MethodId} {args : Array Value} {below : List Frame} {meth : Method} {c : Code} {D : va_G} {G : Nat → ClassId} {bs nL cells slots pc : Nat} {cc : ByteArray} {Q : State → Prop} {S : Mem} {lv : List (Option Value)} {st : List Value} (C : Cx p s m args meth c D G bs cc nL RX10) {a : Nat} (ha : is S a 10) {b : Nat} (hb : mO S 673 a = some b) (hd : decode cc pc = .ok (.getfield 103, 3)) (kk : V p l e R s m args below meth c D G bs nL Q cells slots S (pc + 3) lv (.ref b :: st)) : V p l e R s m args below meth c D G bs nL Q cells slots S (pc) lv (.ref a :: st) := g10_103 C ha hd (by rw [hb]; exact kk)
theorem p10_103 {p : Program} {l : Launch} {e : Env} {R : Room} {s : State} {m : MethodId} {args : Array Value} {below : List Frame} {meth : Method} {c : Code} {D : va_G} {G : Nat → ClassId} {bs nL cells slots pc : Nat} {cc : ByteArray} {Q : State → Prop} {S : Mem} {lv : List (Option Value)} {st : List Value} (C : Cx p s m args meth c D G bs cc nL RX10) {a : Nat} (ha : is S a 10) (hin : meth.name = "<init>") {v : Option Nat} (hd : decode cc pc = .ok (.putfield 103, 3)) (kk : V p l e R s m args below meth c D G bs nL Q cells slots (sO S 673 a v) (pc + 3) lv (st)) : V p l e R s m args below meth c D G bs nL Q cells slots S (pc) lv (va_rf v :: .ref a :: st) := v_put (S' := sO S 673 a v) C ha (by decide) rfl inlX10 tyX10_ok nmX10 (k := 33) (by decide) wd110 rfl (Or.inr ⟨rfl, hin, rfl⟩) (tyX10_ok 33 (by decide)) (by cases v <;> rfl) (by cases v <;> rfl) (by decide) rfl (cell_sO (G := G) (S := S) (k := 33) v ha.2 (by decide) rfl) hd kk
theorem g10_106 {p : Program} {l : Launch} {e : Env} {R : Room} {s : State} {m : MethodId} {args : Array Value} {below : List Frame} {meth : Method} {c : Code} {D : va_G} {G : Nat → ClassId} {bs nL cells slots pc : Nat} {cc : ByteArray} {Q : State → Prop} {S : Mem} {lv : List (Option Value)} {st : List Value} (C : Cx p s m args meth c D G bs cc nL RX10) {a : Nat} (ha : is S a 10) (hd : decode cc pc = .ok (.getfield 106, 3)) (kk : V p l e R s m args below meth c D G bs nL Q cells slots S (pc + 3) lv (va_rf (mO S 674 a) :: st)) : V p l e R s m args below meth c D G bs nL Q cells slots S (pc) lv (.ref a :: st) := v_get C ha (by decide) rfl inlX10 (k := 34) (by decide) wd111 rfl rfl hd kk
theorem r10_106 {p : Program} {l : Launch} {e : Env} {R : Room} {s : State} {m : MethodId} {args : Array Value} {below : List Frame} {meth : Method} {c : Code} {D : va_G} {G : Nat → ClassId} {bs nL cells slots pc : Nat} {cc : ByteArray} {Q : State → Prop} {S : Mem} {lv : List (Option Value)} {st : List Value} (C : Cx p s m args meth c D G bs cc nL RX10) {a : Nat} (ha : is S a 10) {b : Nat} (hb : mO S 674 a = some b) (hd : decode cc pc = .ok (.getfield 106, 3)) (kk : V p l e R s m args below meth c D G bs nL Q cells slots S (pc + 3) lv (.ref b :: st)) : V p l e R s m args below meth c D G bs nL Q cells slots S (pc) lv (.ref a :: st) := g10_106 C ha hd (by rw [hb]; exact kk)
theorem p10_106 {p : Program} {l : Launch} {e : Env} {R : Room} {s : State} {m : MethodId} {args : Array Value} {below : List Frame} {meth : Method} {c : Code} {D : va_G} {G : Nat → ClassId} {bs nL cells slots pc : Nat} {cc : ByteArray} {Q : State → Prop} {S : Mem} {lv : List (Option Value)} {st : List Value} (C : Cx p s m args meth c D G bs cc nL RX10) {a : Nat} (ha : is S a 10) (hin : meth.name = "<init>") {v : Option Nat} (hd : decode cc pc = .ok (.putfield 106, 3)) (kk : V p l e R s m args below meth c D G bs nL Q cells slots (sO S 674 a v) (pc + 3) lv (st)) : V p l e R s m args below meth c D G bs nL Q cells slots S (pc) lv (va_rf v :: .ref a :: st) := v_put (S' := sO S 674 a v) C ha (by decide) rfl inlX10 tyX10_ok nmX10 (k := 34) (by decide) wd111 rfl (Or.inr ⟨rfl, hin, rfl⟩) (tyX10_ok 34 (by decide)) (by cases v <;> rfl) (by cases v <;> rfl) (by decide) rfl (cell_sO (G := G) (S := S) (k := 34) v ha.2 (by decide) rfl) hd kk
theorem g10_109 {p : Program} {l : Launch} {e : Env} {R : Room} {s : State} {m : MethodId} {args : Array Value} {below : List Frame} {meth : Method} {c : Code} {D : va_G} {G : Nat → ClassId} {bs nL cells slots pc : Nat} {cc : ByteArray} {Q : State → Prop} {S : Mem} {lv : List (Option Value)} {st : List Value} (C : Cx p s m args meth c D G bs cc nL RX10) {a : Nat} (ha : is S a 10) (hd : decode cc pc = .ok (.getfield 109, 3)) (kk : V p l e R s m args below meth c D G bs nL Q cells slots S (pc + 3) lv (va_rf (mO S 675 a) :: st)) : V p l e R s m args below meth c D G bs nL Q cells slots S (pc) lv (.ref a :: st) := v_get C ha (by decide) rfl inlX10 (k := 35) (by decide) wd112 rfl rfl hd kk
theorem r10_109 {p : Program} {l : Launch} {e : Env} {R : Room} {s : State} {m : MethodId} {args : Array Value} {below : List Frame} {meth : Method} {c : Code} {D : va_G} {G : Nat → ClassId} {bs nL cells slots pc : Nat} {cc : ByteArray} {Q : State → Prop} {S : Mem} {lv : List (Option Value)} {st : List Value} (C : Cx p s m args meth c D G bs cc nL RX10) {a : Nat} (ha : is S a 10) {b : Nat} (hb : mO S 675 a = some b) (hd : decode cc pc = .ok (.getfield 109, 3)) (kk : V p l e R s m args below meth c D G bs nL Q cells slots S (pc + 3) lv (.ref b :: st)) : V p l e R s m args below meth c D G bs nL Q cells slots S (pc) lv (.ref a :: st) := g10_109 C ha hd (by rw [hb]; exact kk)
theorem p10_109 {p : Program} {l : Launch} {e : Env} {R : Room} {s : State} {m : MethodId} {args : Array Value} {below : List Frame} {meth : Method} {c : Code} {D : va_G} {G : Nat → ClassId} {bs nL cells slots pc : Nat} {cc : ByteArray} {Q : State → Prop} {S : Mem} {lv : List (Option Value)} {st : List Value} (C : Cx p s m args meth c D G bs cc nL RX10) {a : Nat} (ha : is S a 10) (hin : meth.name = "<init>") {v : Option Nat} (hd : decode cc pc = .ok (.putfield 109, 3)) (kk : V p l e R s m args below meth c D G bs nL Q cells slots (sO S 675 a v) (pc + 3) lv (st)) : V p l e R s m args below meth c D G bs nL Q cells slots S (pc) lv (va_rf v :: .ref a :: st) := v_put (S' := sO S 675 a v) C ha (by decide) rfl inlX10 tyX10_ok nmX10 (k := 35) (by decide) wd112 rfl (Or.inr ⟨rfl, hin, rfl⟩) (tyX10_ok 35 (by decide)) (by cases v <;> rfl) (by cases v <;> rfl) (by decide) rfl (cell_sO (G := G) (S := S) (k := 35) v ha.2 (by decide) rfl) hd kk
theorem g10_112 {p : Program} {l : Launch} {e : Env} {R : Room} {s : State} {m : MethodId} {args : Array Value} {below : List Frame} {meth : Method} {c : Code} {D : va_G} {G : Nat → ClassId} {bs nL cells slots pc : Nat} {cc : ByteArray} {Q : State → Prop} {S : Mem} {lv : List (Option Value)} {st : List Value} (C : Cx p s m args meth c D G bs cc nL RX10) {a : Nat} (ha : is S a 10) (hd : decode cc pc = .ok (.getfield 112, 3)) (kk : V p l e R s m args below meth c D G bs nL Q cells slots S (pc + 3) lv (va_rf (mO S 676 a) :: st)) : V p l e R s m args below meth c D G bs nL Q cells slots S (pc) lv (.ref a :: st) := v_get C ha (by decide) rfl inlX10 (k := 36) (by decide) wd113 rfl rfl hd kk
theorem r10_112 {p : Program} {l : Launch} {e : Env} {R : Room} {s : State} {m : MethodId} {args : Array Value} {below : List Frame} {meth : Method} {c : Code} {D : va_G} {G : Nat → ClassId} {bs nL cells slots pc : Nat} {cc : ByteArray} {Q : State → Prop} {S : Mem} {lv : List (Option Value)} {st : List Value} (C : Cx p s m args meth c D G bs cc nL RX10) {a : Nat} (ha : is S a 10) {b : Nat} (hb : mO S 676 a = some b) (hd : decode cc pc = .ok (.getfield 112, 3)) (kk : V p l e R s m args below meth c D G bs nL Q cells slots S (pc + 3) lv (.ref b :: st)) : V p l e R s m args below meth c D G bs nL Q cells slots S (pc) lv (.ref a :: st) := g10_112 C ha hd (by rw [hb]; exact kk)
theorem p10_112 {p : Program} {l : Launch} {e : Env} {R : Room} {s : State} {m : MethodId} {args : Array Value} {below : List Frame} {meth : Method} {c : Code} {D : va_G} {G : Nat → ClassId} {bs nL cells slots pc : Nat} {cc : ByteArray} {Q : State → Prop} {S : Mem} {lv : List (Option Value)} {st : List Value} (C : Cx p s m args meth c D G bs cc nL RX10) {a : Nat} (ha : is S a 10) (hin : meth.name = "<init>") {v : Option Nat} (hd : decode cc pc = .ok (.putfield 112, 3)) (kk : V p l e R s m args below meth c D G bs nL Q cells slots (sO S 676 a v) (pc + 3) lv (st)) : V p l e R s m args below meth c D G bs nL Q cells slots S (pc) lv (va_rf v :: .ref a :: st) := v_put (S' := sO S 676 a v) C ha (by decide) rfl inlX10 tyX10_ok nmX10 (k := 36) (by decide) wd113 rfl (Or.inr ⟨rfl, hin, rfl⟩) (tyX10_ok 36 (by decide)) (by cases v <;> rfl) (by cases v <;> rfl) (by decide) rfl (cell_sO (G := G) (S := S) (k := 36) v ha.2 (by decide) rfl) hd kk
theorem g10_115 {p : Program} {l : Launch} {e : Env} {R : Room} {s : State} {m : MethodId} {args : Array Value} {below : List Frame} {meth : Method} {c : Code} {D : va_G} {G : Nat → ClassId} {bs nL cells slots pc : Nat} {cc : ByteArray} {Q : State → Prop} {S : Mem} {lv : List (Option Value)} {st : List Value} (C : Cx p s m args meth c D G bs cc nL RX10) {a : Nat} (ha : is S a 10) (hd : decode cc pc = .ok (.getfield 115, 3)) (kk : V p l e R s m args below meth c D G bs nL Q cells slots S (pc + 3) lv (va_rf (mO S 677 a) :: st)) : V p l e R s m args below meth c D G bs nL Q cells slots S (pc) lv (.ref a :: st) := v_get C ha (by decide) rfl inlX10 (k := 37) (by decide) wd114 rfl rfl hd kk
theorem r10_115 {p : Program} {l : Launch} {e : Env} {R : Room} {s : State} {m : MethodId} {args : Array Value} {below : List Frame} {meth : Method} {c : Code} {D : va_G} {G : Nat → ClassId} {bs nL cells slots pc : Nat} {cc : ByteArray} {Q : State → Prop} {S : Mem} {lv : List (Option Value)} {st : List Value} (C : Cx p s m args meth c D G bs cc nL RX10) {a : Nat} (ha : is S a 10) {b : Nat} (hb : mO S 677 a = some b) (hd : decode cc pc = .ok (.getfield 115, 3)) (kk : V p l e R s m args below meth c D G bs nL Q cells slots S (pc + 3) lv (.ref b :: st)) : V p l e R s m args below meth c D G bs nL Q cells slots S (pc) lv (.ref a :: st) := g10_115 C ha hd (by rw [hb]; exact kk)
theorem p10_115 {p : Program} {l : Launch} {e : Env} {R : Room} {s : State} {m : MethodId} {args : Array Value} {below : List Frame} {meth : Method} {c : Code} {D : va_G} {G : Nat → ClassId} {bs nL cells slots pc : Nat} {cc : ByteArray} {Q : State → Prop} {S : Mem} {lv : List (Option Value)} {st : List Value} (C : Cx p s m args meth c D G bs cc nL RX10) {a : Nat} (ha : is S a 10) (hin : meth.name = "<init>") {v : Option Nat} (hd : decode cc pc = .ok (.putfield 115, 3)) (kk : V p l e R s m args below meth c D G bs nL Q cells slots (sO S 677 a v) (pc + 3) lv (st)) : V p l e R s m args below meth c D G bs nL Q cells slots S (pc) lv (va_rf v :: .ref a :: st) := v_put (S' := sO S 677 a v) C ha (by decide) rfl inlX10 tyX10_ok nmX10 (k := 37) (by decide) wd114 rfl (Or.inr ⟨rfl, hin, rfl⟩) (tyX10_ok 37 (by decide)) (by cases v <;> rfl) (by cases v <;> rfl) (by decide) rfl (cell_sO (G := G) (S := S) (k := 37) v ha.2 (by decide) rfl) hd kk
theorem g10_118 {p : Program} {l : Launch} {e : Env} {R : Room} {s : State} {m : MethodId} {args : Array Value} {below : List Frame} {meth : Method} {c : Code} {D : va_G} {G : Nat → ClassId} {bs nL cells slots pc : Nat} {cc : ByteArray} {Q : State → Prop} {S : Mem} {lv : List (Option Value)} {st : List Value} (C : Cx p s m args meth c D G bs cc nL RX10) {a : Nat} (ha : is S a 10) (hd : decode cc pc = .ok (.getfield 118, 3)) (kk : V p l e R s m args below meth c D G bs nL Q cells slots S (pc + 3) lv (va_rf (mO S 678 a) :: st)) : V p l e R s m args below meth c D G bs nL Q cells slots S (pc) lv (.ref a :: st) := v_get C ha (by decide) rfl inlX10 (k := 38) (by decide) wd115 rfl rfl hd kk
theorem r10_118 {p : Program} {l : Launch} {e : Env} {R : Room} {s : State} {m : MethodId} {args : Array Value} {below : List Frame} {meth : Method} {c : Code} {D : va_G} {G : Nat → ClassId} {bs nL cells slots pc : Nat} {cc : ByteArray} {Q : State → Prop} {S : Mem} {lv : List (Option Value)} {st : List Value} (C : Cx p s m args meth c D G bs cc nL RX10) {a : Nat} (ha : is S a 10) {b : Nat} (hb : mO S 678 a = some b) (hd : decode cc pc = .ok (.getfield 118, 3)) (kk : V p l e R s m args below meth c D G bs nL Q cells slots S (pc + 3) lv (.ref b :: st)) : V p l e R s m args below meth c D G bs nL Q cells slots S (pc) lv (.ref a :: st) := g10_118 C ha hd (by rw [hb]; exact kk)
theorem p10_118 {p : Program} {l : Launch} {e : Env} {R : Room} {s : State} {m : MethodId} {args : Array Value} {below : List Frame} {meth : Method} {c : Code} {D : va_G} {G : Nat → ClassId} {bs nL cells slots pc : Nat} {cc : ByteArray} {Q : State → Prop} {S : Mem} {lv : List (Option Value)} {st : List Value} (C : Cx p s m args meth c D G bs cc nL RX10) {a : Nat} (ha : is S a 10) (hin : meth.name = "<init>") {v : Option Nat} (hd : decode cc pc = .ok (.putfield 118, 3)) (kk : V p l e R s m args below meth c D G bs nL Q cells slots (sO S 678 a v) (pc + 3) lv (st)) : V p l e R s m args below meth c D G bs nL Q cells slots S (pc) lv (va_rf v :: .ref a :: st) := v_put (S' := sO S 678 a v) C ha (by decide) rfl inlX10 tyX10_ok nmX10 (k := 38) (by decide) wd115 rfl (Or.inr ⟨rfl, hin, rfl⟩) (tyX10_ok 38 (by decide)) (by cases v <;> rfl) (by cases v <;> rfl) (by decide) rfl (cell_sO (G := G) (S := S) (k := 38) v ha.2 (by decide) rfl) hd kk
theorem g10_121 {p : Program} {l : Launch} {e : Env} {R : Room} {s : State} {m : MethodId} {args : Array Value} {below : List Frame} {meth : Method} {c : Code} {D : va_G} {G : Nat → ClassId} {bs nL cells slots pc : Nat} {cc : ByteArray} {Q : State → Prop} {S : Mem} {lv : List (Option Value)} {st : List Value} (C : Cx p s m args meth c D G bs cc nL RX10) {a : Nat} (ha : is S a 10) (hd : decode cc pc = .ok (.getfield 121, 3)) (kk : V p l e R s m args below meth c D G bs nL Q cells slots S (pc + 3) lv (va_rf (mO S 679 a) :: st)) : V p l e R s m args below meth c D G bs nL Q cells slots S (pc) lv (.ref a :: st) := v_get C ha (by decide) rfl inlX10 (k := 39) (by decide) wd116 rfl rfl hd kk
theorem r10_121 {p : Program} {l : Launch} {e : Env} {R : Room} {s : State} {m : MethodId} {args : Array Value} {below : List Frame} {meth : Method} {c : Code} {D : va_G} {G : Nat → ClassId} {bs nL cells slots pc : Nat} {cc : ByteArray} {Q : State → Prop} {S : Mem} {lv : List (Option Value)} {st : List Value} (C : Cx p s m args meth c D G bs cc nL RX10) {a : Nat} (ha : is S a 10) {b : Nat} (hb : mO S 679 a = some b) (hd : decode cc pc = .ok (.getfield 121, 3)) (kk : V p l e R s m args below meth c D G bs nL Q cells slots S (pc + 3) lv (.ref b :: st)) : V p l e R s m args below meth c D G bs nL Q cells slots S (pc) lv (.ref a :: st) := g10_121 C ha hd (by rw [hb]; exact kk)
theorem p10_121 {p : Program} {l : Launch} {e : Env} {R : Room} {s : State} {m : MethodId} {args : Array Value} {below : List Frame} {meth : Method} {c : Code} {D : va_G} {G : Nat → ClassId} {bs nL cells slots pc : Nat} {cc : ByteArray} {Q : State → Prop} {S : Mem} {lv : List (Option Value)} {st : List Value} (C : Cx p s m args meth c D G bs cc nL RX10) {a : Nat} (ha : is S a 10) (hin : meth.name = "<init>") {v : Option Nat} (hd : decode cc pc = .ok (.putfield 121, 3)) (kk : V p l e R s m args below meth c D G bs nL Q cells slots (sO S 679 a v) (pc + 3) lv (st)) : V p l e R s m args below meth c D G bs nL Q cells slots S (pc) lv (va_rf v :: .ref a :: st) := v_put (S' := sO S 679 a v) C ha (by decide) rfl inlX10 tyX10_ok nmX10 (k := 39) (by decide) wd116 rfl (Or.inr ⟨rfl, hin, rfl⟩) (tyX10_ok 39 (by decide)) (by cases v <;> rfl) (by cases v <;> rfl) (by decide) rfl (cell_sO (G := G) (S := S) (k := 39) v ha.2 (by decide) rfl) hd kk
theorem g10_124 {p : Program} {l : Launch} {e : Env} {R : Room} {s : State} {m : MethodId} {args : Array Value} {below : List Frame} {meth : Method} {c : Code} {D : va_G} {G : Nat → ClassId} {bs nL cells slots pc : Nat} {cc : ByteArray} {Q : State → Prop} {S : Mem} {lv : List (Option Value)} {st : List Value} (C : Cx p s m args meth c D G bs cc nL RX10) {a : Nat} (ha : is S a 10) (hd : decode cc pc = .ok (.getfield 124, 3)) (kk : V p l e R s m args below meth c D G bs nL Q cells slots S (pc + 3) lv (va_rf (mO S 680 a) :: st)) : V p l e R s m args below meth c D G bs nL Q cells slots S (pc) lv (.ref a :: st) := v_get C ha (by decide) rfl inlX10 (k := 40) (by decide) wd117 rfl rfl hd kk
theorem r10_124 {p : Program} {l : Launch} {e : Env} {R : Room} {s : State} {m : MethodId} {args : Array Value} {below : List Frame} {meth : Method} {c : Code} {D : va_G} {G : Nat → ClassId} {bs nL cells slots pc : Nat} {cc : ByteArray} {Q : State → Prop} {S : Mem} {lv : List (Option Value)} {st : List Value} (C : Cx p s m args meth c D G bs cc nL RX10) {a : Nat} (ha : is S a 10) {b : Nat} (hb : mO S 680 a = some b) (hd : decode cc pc = .ok (.getfield 124, 3)) (kk : V p l e R s m args below meth c D G bs nL Q cells slots S (pc + 3) lv (.ref b :: st)) : V p l e R s m args below meth c D G bs nL Q cells slots S (pc) lv (.ref a :: st) := g10_124 C ha hd (by rw [hb]; exact kk)
theorem p10_124 {p : Program} {l : Launch} {e : Env} {R : Room} {s : State} {m : MethodId} {args : Array Value} {below : List Frame} {meth : Method} {c : Code} {D : va_G} {G : Nat → ClassId} {bs nL cells slots pc : Nat} {cc : ByteArray} {Q : State → Prop} {S : Mem} {lv : List (Option Value)} {st : List Value} (C : Cx p s m args meth c D G bs cc nL RX10) {a : Nat} (ha : is S a 10) (hin : meth.name = "<init>") {v : Option Nat} (hd : decode cc pc = .ok (.putfield 124, 3)) (kk : V p l e R s m args below meth c D G bs nL Q cells slots (sO S 680 a v) (pc + 3) lv (st)) : V p l e R s m args below meth c D G bs nL Q cells slots S (pc) lv (va_rf v :: .ref a :: st) := v_put (S' := sO S 680 a v) C ha (by decide) rfl inlX10 tyX10_ok nmX10 (k := 40) (by decide) wd117 rfl (Or.inr ⟨rfl, hin, rfl⟩) (tyX10_ok 40 (by decide)) (by cases v <;> rfl) (by cases v <;> rfl) (by decide) rfl (cell_sO (G := G) (S := S) (k := 40) v ha.2 (by decide) rfl) hd kk
theorem g10_127 {p : Program} {l : Launch} {e : Env} {R : Room} {s : State} {m : MethodId} {args : Array Value} {below : List Frame} {meth : Method} {c : Code} {D : va_G} {G : Nat → ClassId} {bs nL cells slots pc : Nat} {cc : ByteArray} {Q : State → Prop} {S : Mem} {lv : List (Option Value)} {st : List Value} (C : Cx p s m args meth c D G bs cc nL RX10) {a : Nat} (ha : is S a 10) (hd : decode cc pc = .ok (.getfield 127, 3)) (kk : V p l e R s m args below meth c D G bs nL Q cells slots S (pc + 3) lv (va_rf (mO S 681 a) :: st)) : V p l e R s m args below meth c D G bs nL Q cells slots S (pc) lv (.ref a :: st) := v_get C ha (by decide) rfl inlX10 (k := 41) (by decide) wd118 rfl rfl hd kk
theorem r10_127 {p : Program} {l : Launch} {e : Env} {R : Room} {s : State} {m : MethodId} {args : Array Value} {below : List Frame} {meth : Method} {c : Code} {D : va_G} {G : Nat → ClassId} {bs nL cells slots pc : Nat} {cc : ByteArray} {Q : State → Prop} {S : Mem} {lv : List (Option Value)} {st : List Value} (C : Cx p s m args meth c D G bs cc nL RX10) {a : Nat} (ha : is S a 10) {b : Nat} (hb : mO S 681 a = some b) (hd : decode cc pc = .ok (.getfield 127, 3)) (kk : V p l e R s m args below meth c D G bs nL Q cells slots S (pc + 3) lv (.ref b :: st)) : V p l e R s m args below meth c D G bs nL Q cells slots S (pc) lv (.ref a :: st) := g10_127 C ha hd (by rw [hb]; exact kk)
theorem p10_127 {p : Program} {l : Launch} {e : Env} {R : Room} {s : State} {m : MethodId} {args : Array Value} {below : List Frame} {meth : Method} {c : Code} {D : va_G} {G : Nat → ClassId} {bs nL cells slots pc : Nat} {cc : ByteArray} {Q : State → Prop} {S : Mem} {lv : List (Option Value)} {st : List Value} (C : Cx p s m args meth c D G bs cc nL RX10) {a : Nat} (ha : is S a 10) (hin : meth.name = "<init>") {v : Option Nat} (hd : decode cc pc = .ok (.putfield 127, 3)) (kk : V p l e R s m args below meth c D G bs nL Q cells slots (sO S 681 a v) (pc + 3) lv (st)) : V p l e R s m args below meth c D G bs nL Q cells slots S (pc) lv (va_rf v :: .ref a :: st) := v_put (S' := sO S 681 a v) C ha (by decide) rfl inlX10 tyX10_ok nmX10 (k := 41) (by decide) wd118 rfl (Or.inr ⟨rfl, hin, rfl⟩) (tyX10_ok 41 (by decide)) (by cases v <;> rfl) (by cases v <;> rfl) (by decide) rfl (cell_sO (G := G) (S := S) (k := 41) v ha.2 (by decide) rfl) hd kk
theorem g10_130 {p : Program} {l : Launch} {e : Env} {R : Room} {s : State} {m : MethodId} {args : Array Value} {below : List Frame} {meth : Method} {c : Code} {D : va_G} {G : Nat → ClassId} {bs nL cells slots pc : Nat} {cc : ByteArray} {Q : State → Prop} {S : Mem} {lv : List (Option Value)} {st : List Value} (C : Cx p s m args meth c D G bs cc nL RX10) {a : Nat} (ha : is S a 10) (hd : decode cc pc = .ok (.getfield 130, 3)) (kk : V p l e R s m args below meth c D G bs nL Q cells slots S (pc + 3) lv (va_rf (mO S 690 a) :: st)) : V p l e R s m args below meth c D G bs nL Q cells slots S (pc) lv (.ref a :: st) := v_get C ha (by decide) rfl inlX10 (k := 50) (by decide) wd119 rfl rfl hd kk
theorem r10_130 {p : Program} {l : Launch} {e : Env} {R : Room} {s : State} {m : MethodId} {args : Array Value} {below : List Frame} {meth : Method} {c : Code} {D : va_G} {G : Nat → ClassId} {bs nL cells slots pc : Nat} {cc : ByteArray} {Q : State → Prop} {S : Mem} {lv : List (Option Value)} {st : List Value} (C : Cx p s m args meth c D G bs cc nL RX10) {a : Nat} (ha : is S a 10) {b : Nat} (hb : mO S 690 a = some b) (hd : decode cc pc = .ok (.getfield 130, 3)) (kk : V p l e R s m args below meth c D G bs nL Q cells slots S (pc + 3) lv (.ref b :: st)) : V p l e R s m args below meth c D G bs nL Q cells slots S (pc) lv (.ref a :: st) := g10_130 C ha hd (by rw [hb]; exact kk)
theorem p10_130 {p : Program} {l : Launch} {e : Env} {R : Room} {s : State} {m : MethodId} {args : Array Value} {below : List Frame} {meth : Method} {c : Code} {D : va_G} {G : Nat → ClassId} {bs nL cells slots pc : Nat} {cc : ByteArray} {Q : State → Prop} {S : Mem} {lv : List (Option Value)} {st : List Value} (C : Cx p s m args meth c D G bs cc nL RX10) {a : Nat} (ha : is S a 10) (hin : meth.name = "<init>") {v : Option Nat} (hd : decode cc pc = .ok (.putfield 130, 3)) (kk : V p l e R s m args below meth c D G bs nL Q cells slots (sO S 690 a v) (pc + 3) lv (st)) : V p l e R s m args below meth c D G bs nL Q cells slots S (pc) lv (va_rf v :: .ref a :: st) := v_put (S' := sO S 690 a v) C ha (by decide) rfl inlX10 tyX10_ok nmX10 (k := 50) (by decide) wd119 rfl (Or.inr ⟨rfl, hin, rfl⟩) (tyX10_ok 50 (by decide)) (by cases v <;> rfl) (by cases v <;> rfl) (by decide) rfl (cell_sO (G := G) (S := S) (k := 50) v ha.2 (by decide) rfl) hd kk
theorem g10_133 {p : Program} {l : Launch} {e : Env} {R : Room} {s : State} {m : MethodId} {args : Array Value} {below : List Frame} {meth : Method} {c : Code} {D : va_G} {G : Nat → ClassId} {bs nL cells slots pc : Nat} {cc : ByteArray} {Q : State → Prop} {S : Mem} {lv : List (Option Value)} {st : List Value} (C : Cx p s m args meth c D G bs cc nL RX10) {a : Nat} (ha : is S a 10) (hd : decode cc pc = .ok (.getfield 133, 3)) (kk : V p l e R s m args below meth c D G bs nL Q cells slots S (pc + 3) lv (va_rf (mO S 691 a) :: st)) : V p l e R s m args below meth c D G bs nL Q cells slots S (pc) lv (.ref a :: st) := v_get C ha (by decide) rfl inlX10 (k := 51) (by decide) wd120 rfl rfl hd kk
theorem r10_133 {p : Program} {l : Launch} {e : Env} {R : Room} {s : State} {m : MethodId} {args : Array Value} {below : List Frame} {meth : Method} {c : Code} {D : va_G} {G : Nat → ClassId} {bs nL cells slots pc : Nat} {cc : ByteArray} {Q : State → Prop} {S : Mem} {lv : List (Option Value)} {st : List Value} (C : Cx p s m args meth c D G bs cc nL RX10) {a : Nat} (ha : is S a 10) {b : Nat} (hb : mO S 691 a = some b) (hd : decode cc pc = .ok (.getfield 133, 3)) (kk : V p l e R s m args below meth c D G bs nL Q cells slots S (pc + 3) lv (.ref b :: st)) : V p l e R s m args below meth c D G bs nL Q cells slots S (pc) lv (.ref a :: st) := g10_133 C ha hd (by rw [hb]; exact kk)
theorem p10_133 {p : Program} {l : Launch} {e : Env} {R : Room} {s : State} {m : MethodId} {args : Array Value} {below : List Frame} {meth : Method} {c : Code} {D : va_G} {G : Nat → ClassId} {bs nL cells slots pc : Nat} {cc : ByteArray} {Q : State → Prop} {S : Mem} {lv : List (Option Value)} {st : List Value} (C : Cx p s m args meth c D G bs cc nL RX10) {a : Nat} (ha : is S a 10) (hin : meth.name = "<init>") {v : Option Nat} (hd : decode cc pc = .ok (.putfield 133, 3)) (kk : V p l e R s m args below meth c D G bs nL Q cells slots (sO S 691 a v) (pc + 3) lv (st)) : V p l e R s m args below meth c D G bs nL Q cells slots S (pc) lv (va_rf v :: .ref a :: st) := v_put (S' := sO S 691 a v) C ha (by decide) rfl inlX10 tyX10_ok nmX10 (k := 51) (by decide) wd120 rfl (Or.inr ⟨rfl, hin, rfl⟩) (tyX10_ok 51 (by decide)) (by cases v <;> rfl) (by cases v <;> rfl) (by decide) rfl (cell_sO (G := G) (S := S) (k := 51) v ha.2 (by decide) rfl) hd kk
theorem g10_136 {p : Program} {l : Launch} {e : Env} {R : Room} {s : State} {m : MethodId} {args : Array Value} {below : List Frame} {meth : Method} {c : Code} {D : va_G} {G : Nat → ClassId} {bs nL cells slots pc : Nat} {cc : ByteArray} {Q : State → Prop} {S : Mem} {lv : List (Option Value)} {st : List Value} (C : Cx p s m args meth c D G bs cc nL RX10) {a : Nat} (ha : is S a 10) (hd : decode cc pc = .ok (.getfield 136, 3)) (kk : V p l e R s m args below meth c D G bs nL Q cells slots S (pc + 3) lv (va_rf (mO S 692 a) :: st)) : V p l e R s m args below meth c D G bs nL Q cells slots S (pc) lv (.ref a :: st) := v_get C ha (by decide) rfl inlX10 (k := 52) (by decide) wd121 rfl rfl hd kk
theorem r10_136 {p : Program} {l : Launch} {e : Env} {R : Room} {s : State} {m : MethodId} {args : Array Value} {below : List Frame} {meth : Method} {c : Code} {D : va_G} {G : Nat → ClassId} {bs nL cells slots pc : Nat} {cc : ByteArray} {Q : State → Prop} {S : Mem} {lv : List (Option Value)} {st : List Value} (C : Cx p s m args meth c D G bs cc nL RX10) {a : Nat} (ha : is S a 10) {b : Nat} (hb : mO S 692 a = some b) (hd : decode cc pc = .ok (.getfield 136, 3)) (kk : V p l e R s m args below meth c D G bs nL Q cells slots S (pc + 3) lv (.ref b :: st)) : V p l e R s m args below meth c D G bs nL Q cells slots S (pc) lv (.ref a :: st) := g10_136 C ha hd (by rw [hb]; exact kk)
theorem p10_136 {p : Program} {l : Launch} {e : Env} {R : Room} {s : State} {m : MethodId} {args : Array Value} {below : List Frame} {meth : Method} {c : Code} {D : va_G} {G : Nat → ClassId} {bs nL cells slots pc : Nat} {cc : ByteArray} {Q : State → Prop} {S : Mem} {lv : List (Option Value)} {st : List Value} (C : Cx p s m args meth c D G bs cc nL RX10) {a : Nat} (ha : is S a 10) (hin : meth.name = "<init>") {v : Option Nat} (hd : decode cc pc = .ok (.putfield 136, 3)) (kk : V p l e R s m args below meth c D G bs nL Q cells slots (sO S 692 a v) (pc + 3) lv (st)) : V p l e R s m args below meth c D G bs nL Q cells slots S (pc) lv (va_rf v :: .ref a :: st) := v_put (S' := sO S 692 a v) C ha (by decide) rfl inlX10 tyX10_ok nmX10 (k := 52) (by decide) wd121 rfl (Or.inr ⟨rfl, hin, rfl⟩) (tyX10_ok 52 (by decide)) (by cases v <;> rfl) (by cases v <;> rfl) (by decide) rfl (cell_sO (G := G) (S := S) (k := 52) v ha.2 (by decide) rfl) hd kk
theorem g10_139 {p : Program} {l : Launch} {e : Env} {R : Room} {s : State} {m : MethodId} {args : Array Value} {below : List Frame} {meth : Method} {c : Code} {D : va_G} {G : Nat → ClassId} {bs nL cells slots pc : Nat} {cc : ByteArray} {Q : State → Prop} {S : Mem} {lv : List (Option Value)} {st : List Value} (C : Cx p s m args meth c D G bs cc nL RX10) {a : Nat} (ha : is S a 10) (hd : decode cc pc = .ok (.getfield 139, 3)) (kk : V p l e R s m args below meth c D G bs nL Q cells slots S (pc + 3) lv (va_rf (mO S 693 a) :: st)) : V p l e R s m args below meth c D G bs nL Q cells slots S (pc) lv (.ref a :: st) := v_get C ha (by decide) rfl inlX10 (k := 53) (by decide) wd122 rfl rfl hd kk
theorem r10_139 {p : Program} {l : Launch} {e : Env} {R : Room} {s : State} {m : MethodId} {args : Array Value} {below : List Frame} {meth : Method} {c : Code} {D : va_G} {G : Nat → ClassId} {bs nL cells slots pc : Nat} {cc : ByteArray} {Q : State → Prop} {S : Mem} {lv : List (Option Value)} {st : List Value} (C : Cx p s m args meth c D G bs cc nL RX10) {a : Nat} (ha : is S a 10) {b : Nat} (hb : mO S 693 a = some b) (hd : decode cc pc = .ok (.getfield 139, 3)) (kk : V p l e R s m args below meth c D G bs nL Q cells slots S (pc + 3) lv (.ref b :: st)) : V p l e R s m args below meth c D G bs nL Q cells slots S (pc) lv (.ref a :: st) := g10_139 C ha hd (by rw [hb]; exact kk)
theorem p10_139 {p : Program} {l : Launch} {e : Env} {R : Room} {s : State} {m : MethodId} {args : Array Value} {below : List Frame} {meth : Method} {c : Code} {D : va_G} {G : Nat → ClassId} {bs nL cells slots pc : Nat} {cc : ByteArray} {Q : State → Prop} {S : Mem} {lv : List (Option Value)} {st : List Value} (C : Cx p s m args meth c D G bs cc nL RX10) {a : Nat} (ha : is S a 10) (hin : meth.name = "<init>") {v : Option Nat} (hd : decode cc pc = .ok (.putfield 139, 3)) (kk : V p l e R s m args below meth c D G bs nL Q cells slots (sO S 693 a v) (pc + 3) lv (st)) : V p l e R s m args below meth c D G bs nL Q cells slots S (pc) lv (va_rf v :: .ref a :: st) := v_put (S' := sO S 693 a v) C ha (by decide) rfl inlX10 tyX10_ok nmX10 (k := 53) (by decide) wd122 rfl (Or.inr ⟨rfl, hin, rfl⟩) (tyX10_ok 53 (by decide)) (by cases v <;> rfl) (by cases v <;> rfl) (by decide) rfl (cell_sO (G := G) (S := S) (k := 53) v ha.2 (by decide) rfl) hd kk
theorem g10_142 {p : Program} {l : Launch} {e : Env} {R : Room} {s : State} {m : MethodId} {args : Array Value} {below : List Frame} {meth : Method} {c : Code} {D : va_G} {G : Nat → ClassId} {bs nL cells slots pc : Nat} {cc : ByteArray} {Q : State → Prop} {S : Mem} {lv : List (Option Value)} {st : List Value} (C : Cx p s m args meth c D G bs cc nL RX10) {a : Nat} (ha : is S a 10) (hd : decode cc pc = .ok (.getfield 142, 3)) (kk : V p l e R s m args below meth c D G bs nL Q cells slots S (pc + 3) lv (va_rf (mO S 694 a) :: st)) : V p l e R s m args below meth c D G bs nL Q cells slots S (pc) lv (.ref a :: st) := v_get C ha (by decide) rfl inlX10 (k := 54) (by decide) wd123 rfl rfl hd kk
theorem r10_142 {p : Program} {l : Launch} {e : Env} {R : Room} {s : State} {m : MethodId} {args : Array Value} {below : List Frame} {meth : Method} {c : Code} {D : va_G} {G : Nat → ClassId} {bs nL cells slots pc : Nat} {cc : ByteArray} {Q : State → Prop} {S : Mem} {lv : List (Option Value)} {st : List Value} (C : Cx p s m args meth c D G bs cc nL RX10) {a : Nat} (ha : is S a 10) {b : Nat} (hb : mO S 694 a = some b) (hd : decode cc pc = .ok (.getfield 142, 3)) (kk : V p l e R s m args below meth c D G bs nL Q cells slots S (pc + 3) lv (.ref b :: st)) : V p l e R s m args below meth c D G bs nL Q cells slots S (pc) lv (.ref a :: st) := g10_142 C ha hd (by rw [hb]; exact kk)
theorem p10_142 {p : Program} {l : Launch} {e : Env} {R : Room} {s : State} {m : MethodId} {args : Array Value} {below : List Frame} {meth : Method} {c : Code} {D : va_G} {G : Nat → ClassId} {bs nL cells slots pc : Nat} {cc : ByteArray} {Q : State → Prop} {S : Mem} {lv : List (Option Value)} {st : List Value} (C : Cx p s m args meth c D G bs cc nL RX10) {a : Nat} (ha : is S a 10) (hin : meth.name = "<init>") {v : Option Nat} (hd : decode cc pc = .ok (.putfield 142, 3)) (kk : V p l e R s m args below meth c D G bs nL Q cells slots (sO S 694 a v) (pc + 3) lv (st)) : V p l e R s m args below meth c D G bs nL Q cells slots S (pc) lv (va_rf v :: .ref a :: st) := v_put (S' := sO S 694 a v) C ha (by decide) rfl inlX10 tyX10_ok nmX10 (k := 54) (by decide) wd123 rfl (Or.inr ⟨rfl, hin, rfl⟩) (tyX10_ok 54 (by decide)) (by cases v <;> rfl) (by cases v <;> rfl) (by decide) rfl (cell_sO (G := G) (S := S) (k := 54) v ha.2 (by decide) rfl) hd kk
theorem g9_36 {p : Program} {l : Launch} {e : Env} {R : Room} {s : State} {m : MethodId} {args : Array Value} {below : List Frame} {meth : Method} {c : Code} {D : va_G} {G : Nat → ClassId} {bs nL cells slots pc : Nat} {cc : ByteArray} {Q : State → Prop} {S : Mem} {lv : List (Option Value)} {st : List Value} (C : Cx p s m args meth c D G bs cc nL RX9) {a : Nat} (ha : is S a 1) (hd : decode cc pc = .ok (.getfield 36, 3)) (kk : V p l e R s m args below meth c D G bs nL Q cells slots S (pc + 3) lv (.int (mI S 65 a) :: st)) : V p l e R s m args below meth c D G bs nL Q cells slots S (pc) lv (.ref a :: st) := v_get C ha (by decide) rfl inlX1 (k := 1) (by decide) wd128 rfl rfl hd kk
theorem p9_36 {p : Program} {l : Launch} {e : Env} {R : Room} {s : State} {m : MethodId} {args : Array Value} {below : List Frame} {meth : Method} {c : Code} {D : va_G} {G : Nat → ClassId} {bs nL cells slots pc : Nat} {cc : ByteArray} {Q : State → Prop} {S : Mem} {lv : List (Option Value)} {st : List Value} (C : Cx p s m args meth c D G bs cc nL RX9) {a : Nat} (ha : is S a 1) {v : Int32} (hd : decode cc pc = .ok (.putfield 36, 3)) (kk : V p l e R s m args below meth c D G bs nL Q cells slots (sI S 65 a v) (pc + 3) lv (st)) : V p l e R s m args below meth c D G bs nL Q cells slots S (pc) lv (.int v :: .ref a :: st) := v_put (S' := sI S 65 a v) C ha (by decide) rfl inlX1 tyX1_ok nmX1 (k := 1) (by decide) wd128 rfl (Or.inl rfl) (tyX1_ok 1 (by decide)) rfl rfl (by decide) rfl (cell_sI (G := G) (S := S) (k := 1) v ha.2 (by decide) rfl) hd kk
theorem g4_32 {p : Program} {l : Launch} {e : Env} {R : Room} {s : State} {m : MethodId} {args : Array Value} {below : List Frame} {meth : Method} {c : Code} {D : va_G} {G : Nat → ClassId} {bs nL cells slots pc : Nat} {cc : ByteArray} {Q : State → Prop} {S : Mem} {lv : List (Option Value)} {st : List Value} (C : Cx p s m args meth c D G bs cc nL RX4) {a : Nat} (ha : is S a 4) (hd : decode cc pc = .ok (.getfield 32, 3)) (kk : V p l e R s m args below meth c D G bs nL Q cells slots S (pc + 3) lv (.int (mI S 260 a) :: st)) : V p l e R s m args below meth c D G bs nL Q cells slots S (pc) lv (.ref a :: st) := v_get C ha (by decide) rfl inlX4 (k := 4) (by decide) wd151 rfl rfl hd kk
theorem p4_32 {p : Program} {l : Launch} {e : Env} {R : Room} {s : State} {m : MethodId} {args : Array Value} {below : List Frame} {meth : Method} {c : Code} {D : va_G} {G : Nat → ClassId} {bs nL cells slots pc : Nat} {cc : ByteArray} {Q : State → Prop} {S : Mem} {lv : List (Option Value)} {st : List Value} (C : Cx p s m args meth c D G bs cc nL RX4) {a : Nat} (ha : is S a 4) {v : Int32} (hd : decode cc pc = .ok (.putfield 32, 3)) (kk : V p l e R s m args below meth c D G bs nL Q cells slots (sI S 260 a v) (pc + 3) lv (st)) : V p l e R s m args below meth c D G bs nL Q cells slots S (pc) lv (.int v :: .ref a :: st) := v_put (S' := sI S 260 a v) C ha (by decide) rfl inlX4 tyX4_ok nmX4 (k := 4) (by decide) wd151 rfl (Or.inl rfl) (tyX4_ok 4 (by decide)) rfl rfl (by decide) rfl (cell_sI (G := G) (S := S) (k := 4) v ha.2 (by decide) rfl) hd kk
theorem g3_24 {p : Program} {l : Launch} {e : Env} {R : Room} {s : State} {m : MethodId} {args : Array Value} {below : List Frame} {meth : Method} {c : Code} {D : va_G} {G : Nat → ClassId} {bs nL cells slots pc : Nat} {cc : ByteArray} {Q : State → Prop} {S : Mem} {lv : List (Option Value)} {st : List Value} (C : Cx p s m args meth c D G bs cc nL RX3) {a : Nat} (ha : is S a 3) (hd : decode cc pc = .ok (.getfield 24, 3)) (kk : V p l e R s m args below meth c D G bs nL Q cells slots S (pc + 3) lv (.int (mI S 194 a) :: st)) : V p l e R s m args below meth c D G bs nL Q cells slots S (pc) lv (.ref a :: st) := v_get C ha (by decide) rfl inlX3 (k := 2) (by decide) wd156 rfl rfl hd kk
theorem p3_24 {p : Program} {l : Launch} {e : Env} {R : Room} {s : State} {m : MethodId} {args : Array Value} {below : List Frame} {meth : Method} {c : Code} {D : va_G} {G : Nat → ClassId} {bs nL cells slots pc : Nat} {cc : ByteArray} {Q : State → Prop} {S : Mem} {lv : List (Option Value)} {st : List Value} (C : Cx p s m args meth c D G bs cc nL RX3) {a : Nat} (ha : is S a 3) {v : Int32} (hd : decode cc pc = .ok (.putfield 24, 3)) (kk : V p l e R s m args below meth c D G bs nL Q cells slots (sI S 194 a v) (pc + 3) lv (st)) : V p l e R s m args below meth c D G bs nL Q cells slots S (pc) lv (.int v :: .ref a :: st) := v_put (S' := sI S 194 a v) C ha (by decide) rfl inlX3 tyX3_ok nmX3 (k := 2) (by decide) wd156 rfl (Or.inl rfl) (tyX3_ok 2 (by decide)) rfl rfl (by decide) rfl (cell_sI (G := G) (S := S) (k := 2) v ha.2 (by decide) rfl) hd kk
theorem g1_68 {p : Program} {l : Launch} {e : Env} {R : Room} {s : State} {m : MethodId} {args : Array Value} {below : List Frame} {meth : Method} {c : Code} {D : va_G} {G : Nat → ClassId} {bs nL cells slots pc : Nat} {cc : ByteArray} {Q : State → Prop} {S : Mem} {lv : List (Option Value)} {st : List Value} (C : Cx p s m args meth c D G bs cc nL RX1) {a : Nat} (ha : is S a 8) (hd : decode cc pc = .ok (.getfield 68, 3)) (kk : V p l e R s m args below meth c D G bs nL Q cells slots S (pc + 3) lv (va_rf (mO S 512 a) :: st)) : V p l e R s m args below meth c D G bs nL Q cells slots S (pc) lv (.ref a :: st) := v_get C ha (by decide) rfl inlX8 (k := 0) (by decide) wd161 rfl rfl hd kk
theorem r1_68 {p : Program} {l : Launch} {e : Env} {R : Room} {s : State} {m : MethodId} {args : Array Value} {below : List Frame} {meth : Method} {c : Code} {D : va_G} {G : Nat → ClassId} {bs nL cells slots pc : Nat} {cc : ByteArray} {Q : State → Prop} {S : Mem} {lv : List (Option Value)} {st : List Value} (C : Cx p s m args meth c D G bs cc nL RX1) {a : Nat} (ha : is S a 8) {b : Nat} (hb : mO S 512 a = some b) (hd : decode cc pc = .ok (.getfield 68, 3)) (kk : V p l e R s m args below meth c D G bs nL Q cells slots S (pc + 3) lv (.ref b :: st)) : V p l e R s m args below meth c D G bs nL Q cells slots S (pc) lv (.ref a :: st) := g1_68 C ha hd (by rw [hb]; exact kk)
theorem g1_76 {p : Program} {l : Launch} {e : Env} {R : Room} {s : State} {m : MethodId} {args : Array Value} {below : List Frame} {meth : Method} {c : Code} {D : va_G} {G : Nat → ClassId} {bs nL cells slots pc : Nat} {cc : ByteArray} {Q : State → Prop} {S : Mem} {lv : List (Option Value)} {st : List Value} (C : Cx p s m args meth c D G bs cc nL RX1) {a : Nat} (ha : is S a 1) (hd : decode cc pc = .ok (.getfield 76, 3)) (kk : V p l e R s m args below meth c D G bs nL Q cells slots S (pc + 3) lv (.int (mI S 65 a) :: st)) : V p l e R s m args below meth c D G bs nL Q cells slots S (pc) lv (.ref a :: st) := v_get C ha (by decide) rfl inlX1 (k := 1) (by decide) wd210 rfl rfl hd kk
theorem p1_76 {p : Program} {l : Launch} {e : Env} {R : Room} {s : State} {m : MethodId} {args : Array Value} {below : List Frame} {meth : Method} {c : Code} {D : va_G} {G : Nat → ClassId} {bs nL cells slots pc : Nat} {cc : ByteArray} {Q : State → Prop} {S : Mem} {lv : List (Option Value)} {st : List Value} (C : Cx p s m args meth c D G bs cc nL RX1) {a : Nat} (ha : is S a 1) {v : Int32} (hd : decode cc pc = .ok (.putfield 76, 3)) (kk : V p l e R s m args below meth c D G bs nL Q cells slots (sI S 65 a v) (pc + 3) lv (st)) : V p l e R s m args below meth c D G bs nL Q cells slots S (pc) lv (.int v :: .ref a :: st) := v_put (S' := sI S 65 a v) C ha (by decide) rfl inlX1 tyX1_ok nmX1 (k := 1) (by decide) wd210 rfl (Or.inl rfl) (tyX1_ok 1 (by decide)) rfl rfl (by decide) rfl (cell_sI (G := G) (S := S) (k := 1) v ha.2 (by decide) rfl) hd kk
theorem g1_85 {p : Program} {l : Launch} {e : Env} {R : Room} {s : State} {m : MethodId} {args : Array Value} {below : List Frame} {meth : Method} {c : Code} {D : va_G} {G : Nat → ClassId} {bs nL cells slots pc : Nat} {cc : ByteArray} {Q : State → Prop} {S : Mem} {lv : List (Option Value)} {st : List Value} (C : Cx p s m args meth c D G bs cc nL RX1) {a : Nat} (ha : is S a 4) (hd : decode cc pc = .ok (.getfield 85, 3)) (kk : V p l e R s m args below meth c D G bs nL Q cells slots S (pc + 3) lv (va_rf (mO S 259 a) :: st)) : V p l e R s m args below meth c D G bs nL Q cells slots S (pc) lv (.ref a :: st) := v_get C ha (by decide) rfl inlX4 (k := 3) (by decide) wd213 rfl rfl hd kk
theorem r1_85 {p : Program} {l : Launch} {e : Env} {R : Room} {s : State} {m : MethodId} {args : Array Value} {below : List Frame} {meth : Method} {c : Code} {D : va_G} {G : Nat → ClassId} {bs nL cells slots pc : Nat} {cc : ByteArray} {Q : State → Prop} {S : Mem} {lv : List (Option Value)} {st : List Value} (C : Cx p s m args meth c D G bs cc nL RX1) {a : Nat} (ha : is S a 4) {b : Nat} (hb : mO S 259 a = some b) (hd : decode cc pc = .ok (.getfield 85, 3)) (kk : V p l e R s m args below meth c D G bs nL Q cells slots S (pc + 3) lv (.ref b :: st)) : V p l e R s m args below meth c D G bs nL Q cells slots S (pc) lv (.ref a :: st) := g1_85 C ha hd (by rw [hb]; exact kk)
theorem g8_12 {p : Program} {l : Launch} {e : Env} {R : Room} {s : State} {m : MethodId} {args : Array Value} {below : List Frame} {meth : Method} {c : Code} {D : va_G} {G : Nat → ClassId} {bs nL cells slots pc : Nat} {cc : ByteArray} {Q : State → Prop} {S : Mem} {lv : List (Option Value)} {st : List Value} (C : Cx p s m args meth c D G bs cc nL RX8) {a : Nat} (ha : is S a 8) (hd : decode cc pc = .ok (.getfield 12, 3)) (kk : V p l e R s m args below meth c D G bs nL Q cells slots S (pc + 3) lv (va_rf (mO S 512 a) :: st)) : V p l e R s m args below meth c D G bs nL Q cells slots S (pc) lv (.ref a :: st) := v_get C ha (by decide) rfl inlX8 (k := 0) (by decide) wd218 rfl rfl hd kk
theorem r8_12 {p : Program} {l : Launch} {e : Env} {R : Room} {s : State} {m : MethodId} {args : Array Value} {below : List Frame} {meth : Method} {c : Code} {D : va_G} {G : Nat → ClassId} {bs nL cells slots pc : Nat} {cc : ByteArray} {Q : State → Prop} {S : Mem} {lv : List (Option Value)} {st : List Value} (C : Cx p s m args meth c D G bs cc nL RX8) {a : Nat} (ha : is S a 8) {b : Nat} (hb : mO S 512 a = some b) (hd : decode cc pc = .ok (.getfield 12, 3)) (kk : V p l e R s m args below meth c D G bs nL Q cells slots S (pc + 3) lv (.ref b :: st)) : V p l e R s m args below meth c D G bs nL Q cells slots S (pc) lv (.ref a :: st) := g8_12 C ha hd (by rw [hb]; exact kk)
theorem p8_12 {p : Program} {l : Launch} {e : Env} {R : Room} {s : State} {m : MethodId} {args : Array Value} {below : List Frame} {meth : Method} {c : Code} {D : va_G} {G : Nat → ClassId} {bs nL cells slots pc : Nat} {cc : ByteArray} {Q : State → Prop} {S : Mem} {lv : List (Option Value)} {st : List Value} (C : Cx p s m args meth c D G bs cc nL RX8) {a : Nat} (ha : is S a 8) (hin : meth.name = "<init>") {v : Option Nat} (hd : decode cc pc = .ok (.putfield 12, 3)) (kk : V p l e R s m args below meth c D G bs nL Q cells slots (sO S 512 a v) (pc + 3) lv (st)) : V p l e R s m args below meth c D G bs nL Q cells slots S (pc) lv (va_rf v :: .ref a :: st) := v_put (S' := sO S 512 a v) C ha (by decide) rfl inlX8 tyX8_ok nmX8 (k := 0) (by decide) wd218 rfl (Or.inr ⟨rfl, hin, rfl⟩) (tyX8_ok 0 (by decide)) (by cases v <;> rfl) (by cases v <;> rfl) (by decide) rfl (cell_sO (G := G) (S := S) (k := 0) v ha.2 (by decide) rfl) hd kk
theorem g8_20 {p : Program} {l : Launch} {e : Env} {R : Room} {s : State} {m : MethodId} {args : Array Value} {below : List Frame} {meth : Method} {c : Code} {D : va_G} {G : Nat → ClassId} {bs nL cells slots pc : Nat} {cc : ByteArray} {Q : State → Prop} {S : Mem} {lv : List (Option Value)} {st : List Value} (C : Cx p s m args meth c D G bs cc nL RX8) {a : Nat} (ha : is S a 8) (hd : decode cc pc = .ok (.getfield 20, 3)) (kk : V p l e R s m args below meth c D G bs nL Q cells slots S (pc + 3) lv (va_rf (mO S 513 a) :: st)) : V p l e R s m args below meth c D G bs nL Q cells slots S (pc) lv (.ref a :: st) := v_get C ha (by decide) rfl inlX8 (k := 1) (by decide) wd220 rfl rfl hd kk
theorem r8_20 {p : Program} {l : Launch} {e : Env} {R : Room} {s : State} {m : MethodId} {args : Array Value} {below : List Frame} {meth : Method} {c : Code} {D : va_G} {G : Nat → ClassId} {bs nL cells slots pc : Nat} {cc : ByteArray} {Q : State → Prop} {S : Mem} {lv : List (Option Value)} {st : List Value} (C : Cx p s m args meth c D G bs cc nL RX8) {a : Nat} (ha : is S a 8) {b : Nat} (hb : mO S 513 a = some b) (hd : decode cc pc = .ok (.getfield 20, 3)) (kk : V p l e R s m args below meth c D G bs nL Q cells slots S (pc + 3) lv (.ref b :: st)) : V p l e R s m args below meth c D G bs nL Q cells slots S (pc) lv (.ref a :: st) := g8_20 C ha hd (by rw [hb]; exact kk)
theorem p8_20 {p : Program} {l : Launch} {e : Env} {R : Room} {s : State} {m : MethodId} {args : Array Value} {below : List Frame} {meth : Method} {c : Code} {D : va_G} {G : Nat → ClassId} {bs nL cells slots pc : Nat} {cc : ByteArray} {Q : State → Prop} {S : Mem} {lv : List (Option Value)} {st : List Value} (C : Cx p s m args meth c D G bs cc nL RX8) {a : Nat} (ha : is S a 8) (hin : meth.name = "<init>") {v : Option Nat} (hd : decode cc pc = .ok (.putfield 20, 3)) (kk : V p l e R s m args below meth c D G bs nL Q cells slots (sO S 513 a v) (pc + 3) lv (st)) : V p l e R s m args below meth c D G bs nL Q cells slots S (pc) lv (va_rf v :: .ref a :: st) := v_put (S' := sO S 513 a v) C ha (by decide) rfl inlX8 tyX8_ok nmX8 (k := 1) (by decide) wd220 rfl (Or.inr ⟨rfl, hin, rfl⟩) (tyX8_ok 1 (by decide)) (by cases v <;> rfl) (by cases v <;> rfl) (by decide) rfl (cell_sO (G := G) (S := S) (k := 1) v ha.2 (by decide) rfl) hd kk
theorem g8_24 {p : Program} {l : Launch} {e : Env} {R : Room} {s : State} {m : MethodId} {args : Array Value} {below : List Frame} {meth : Method} {c : Code} {D : va_G} {G : Nat → ClassId} {bs nL cells slots pc : Nat} {cc : ByteArray} {Q : State → Prop} {S : Mem} {lv : List (Option Value)} {st : List Value} (C : Cx p s m args meth c D G bs cc nL RX8) {a : Nat} (ha : is S a 8) (hd : decode cc pc = .ok (.getfield 24, 3)) (kk : V p l e R s m args below meth c D G bs nL Q cells slots S (pc + 3) lv (va_rf (mO S 514 a) :: st)) : V p l e R s m args below meth c D G bs nL Q cells slots S (pc) lv (.ref a :: st) := v_get C ha (by decide) rfl inlX8 (k := 2) (by decide) wd221 rfl rfl hd kk
theorem r8_24 {p : Program} {l : Launch} {e : Env} {R : Room} {s : State} {m : MethodId} {args : Array Value} {below : List Frame} {meth : Method} {c : Code} {D : va_G} {G : Nat → ClassId} {bs nL cells slots pc : Nat} {cc : ByteArray} {Q : State → Prop} {S : Mem} {lv : List (Option Value)} {st : List Value} (C : Cx p s m args meth c D G bs cc nL RX8) {a : Nat} (ha : is S a 8) {b : Nat} (hb : mO S 514 a = some b) (hd : decode cc pc = .ok (.getfield 24, 3)) (kk : V p l e R s m args below meth c D G bs nL Q cells slots S (pc + 3) lv (.ref b :: st)) : V p l e R s m args below meth c D G bs nL Q cells slots S (pc) lv (.ref a :: st) := g8_24 C ha hd (by rw [hb]; exact kk)
theorem p8_24 {p : Program} {l : Launch} {e : Env} {R : Room} {s : State} {m : MethodId} {args : Array Value} {below : List Frame} {meth : Method} {c : Code} {D : va_G} {G : Nat → ClassId} {bs nL cells slots pc : Nat} {cc : ByteArray} {Q : State → Prop} {S : Mem} {lv : List (Option Value)} {st : List Value} (C : Cx p s m args meth c D G bs cc nL RX8) {a : Nat} (ha : is S a 8) (hin : meth.name = "<init>") {v : Option Nat} (hd : decode cc pc = .ok (.putfield 24, 3)) (kk : V p l e R s m args below meth c D G bs nL Q cells slots (sO S 514 a v) (pc + 3) lv (st)) : V p l e R s m args below meth c D G bs nL Q cells slots S (pc) lv (va_rf v :: .ref a :: st) := v_put (S' := sO S 514 a v) C ha (by decide) rfl inlX8 tyX8_ok nmX8 (k := 2) (by decide) wd221 rfl (Or.inr ⟨rfl, hin, rfl⟩) (tyX8_ok 2 (by decide)) (by cases v <;> rfl) (by cases v <;> rfl) (by decide) rfl (cell_sO (G := G) (S := S) (k := 2) v ha.2 (by decide) rfl) hd kk
theorem g10_155 {p : Program} {l : Launch} {e : Env} {R : Room} {s : State} {m : MethodId} {args : Array Value} {below : List Frame} {meth : Method} {c : Code} {D : va_G} {G : Nat → ClassId} {bs nL cells slots pc : Nat} {cc : ByteArray} {Q : State → Prop} {S : Mem} {lv : List (Option Value)} {st : List Value} (C : Cx p s m args meth c D G bs cc nL RX10) {a : Nat} (ha : is S a 10) (hd : decode cc pc = .ok (.getfield 155, 3)) (kk : V p l e R s m args below meth c D G bs nL Q cells slots S (pc + 3) lv (.int (mI S 669 a) :: st)) : V p l e R s m args below meth c D G bs nL Q cells slots S (pc) lv (.ref a :: st) := v_get C ha (by decide) rfl inlX10 (k := 29) (by decide) wd234 rfl rfl hd kk
theorem p10_155 {p : Program} {l : Launch} {e : Env} {R : Room} {s : State} {m : MethodId} {args : Array Value} {below : List Frame} {meth : Method} {c : Code} {D : va_G} {G : Nat → ClassId} {bs nL cells slots pc : Nat} {cc : ByteArray} {Q : State → Prop} {S : Mem} {lv : List (Option Value)} {st : List Value} (C : Cx p s m args meth c D G bs cc nL RX10) {a : Nat} (ha : is S a 10) {v : Int32} (hd : decode cc pc = .ok (.putfield 155, 3)) (kk : V p l e R s m args below meth c D G bs nL Q cells slots (sI S 669 a v) (pc + 3) lv (st)) : V p l e R s m args below meth c D G bs nL Q cells slots S (pc) lv (.int v :: .ref a :: st) := v_put (S' := sI S 669 a v) C ha (by decide) rfl inlX10 tyX10_ok nmX10 (k := 29) (by decide) wd234 rfl (Or.inl rfl) (tyX10_ok 29 (by decide)) rfl rfl (by decide) rfl (cell_sI (G := G) (S := S) (k := 29) v ha.2 (by decide) rfl) hd kk
theorem g10_145 {p : Program} {l : Launch} {e : Env} {R : Room} {s : State} {m : MethodId} {args : Array Value} {below : List Frame} {meth : Method} {c : Code} {D : va_G} {G : Nat → ClassId} {bs nL cells slots pc : Nat} {cc : ByteArray} {Q : State → Prop} {S : Mem} {lv : List (Option Value)} {st : List Value} (C : Cx p s m args meth c D G bs cc nL RX10) {a : Nat} (ha : is S a 10) (hd : decode cc pc = .ok (.getfield 145, 3)) (kk : V p l e R s m args below meth c D G bs nL Q cells slots S (pc + 3) lv (.int (mI S 640 a) :: st)) : V p l e R s m args below meth c D G bs nL Q cells slots S (pc) lv (.ref a :: st) := v_get C ha (by decide) rfl inlX10 (k := 0) (by decide) wd235 rfl rfl hd kk
theorem p10_145 {p : Program} {l : Launch} {e : Env} {R : Room} {s : State} {m : MethodId} {args : Array Value} {below : List Frame} {meth : Method} {c : Code} {D : va_G} {G : Nat → ClassId} {bs nL cells slots pc : Nat} {cc : ByteArray} {Q : State → Prop} {S : Mem} {lv : List (Option Value)} {st : List Value} (C : Cx p s m args meth c D G bs cc nL RX10) {a : Nat} (ha : is S a 10) {v : Int32} (hd : decode cc pc = .ok (.putfield 145, 3)) (kk : V p l e R s m args below meth c D G bs nL Q cells slots (sI S 640 a v) (pc + 3) lv (st)) : V p l e R s m args below meth c D G bs nL Q cells slots S (pc) lv (.int v :: .ref a :: st) := v_put (S' := sI S 640 a v) C ha (by decide) rfl inlX10 tyX10_ok nmX10 (k := 0) (by decide) wd235 rfl (Or.inl rfl) (tyX10_ok 0 (by decide)) rfl rfl (by decide) rfl (cell_sI (G := G) (S := S) (k := 0) v ha.2 (by decide) rfl) hd kk
theorem g9_48 {p : Program} {l : Launch} {e : Env} {R : Room} {s : State} {m : MethodId} {args : Array Value} {below : List Frame} {meth : Method} {c : Code} {D : va_G} {G : Nat → ClassId} {bs nL cells slots pc : Nat} {cc : ByteArray} {Q : State → Prop} {S : Mem} {lv : List (Option Value)} {st : List Value} (C : Cx p s m args meth c D G bs cc nL RX9) {a : Nat} (ha : is S a 1) (hd : decode cc pc = .ok (.getfield 48, 3)) (kk : V p l e R s m args below meth c D G bs nL Q cells slots S (pc + 3) lv (.int (mI S 67 a) :: st)) : V p l e R s m args below meth c D G bs nL Q cells slots S (pc) lv (.ref a :: st) := v_get C ha (by decide) rfl inlX1 (k := 3) (by decide) wd263 rfl rfl hd kk
theorem p9_48 {p : Program} {l : Launch} {e : Env} {R : Room} {s : State} {m : MethodId} {args : Array Value} {below : List Frame} {meth : Method} {c : Code} {D : va_G} {G : Nat → ClassId} {bs nL cells slots pc : Nat} {cc : ByteArray} {Q : State → Prop} {S : Mem} {lv : List (Option Value)} {st : List Value} (C : Cx p s m args meth c D G bs cc nL RX9) {a : Nat} (ha : is S a 1) {v : Int32} (hd : decode cc pc = .ok (.putfield 48, 3)) (kk : V p l e R s m args below meth c D G bs nL Q cells slots (sI S 67 a v) (pc + 3) lv (st)) : V p l e R s m args below meth c D G bs nL Q cells slots S (pc) lv (.int v :: .ref a :: st) := v_put (S' := sI S 67 a v) C ha (by decide) rfl inlX1 tyX1_ok nmX1 (k := 3) (by decide) wd263 rfl (Or.inl rfl) (tyX1_ok 3 (by decide)) rfl rfl (by decide) rfl (cell_sI (G := G) (S := S) (k := 3) v ha.2 (by decide) rfl) hd kk
theorem g1_92 {p : Program} {l : Launch} {e : Env} {R : Room} {s : State} {m : MethodId} {args : Array Value} {below : List Frame} {meth : Method} {c : Code} {D : va_G} {G : Nat → ClassId} {bs nL cells slots pc : Nat} {cc : ByteArray} {Q : State → Prop} {S : Mem} {lv : List (Option Value)} {st : List Value} (C : Cx p s m args meth c D G bs cc nL RX1) {a : Nat} (ha : is S a 1) (hd : decode cc pc = .ok (.getfield 92, 3)) (kk : V p l e R s m args below meth c D G bs nL Q cells slots S (pc + 3) lv (.int (mI S 67 a) :: st)) : V p l e R s m args below meth c D G bs nL Q cells slots S (pc) lv (.ref a :: st) := v_get C ha (by decide) rfl inlX1 (k := 3) (by decide) wd269 rfl rfl hd kk
theorem p1_92 {p : Program} {l : Launch} {e : Env} {R : Room} {s : State} {m : MethodId} {args : Array Value} {below : List Frame} {meth : Method} {c : Code} {D : va_G} {G : Nat → ClassId} {bs nL cells slots pc : Nat} {cc : ByteArray} {Q : State → Prop} {S : Mem} {lv : List (Option Value)} {st : List Value} (C : Cx p s m args meth c D G bs cc nL RX1) {a : Nat} (ha : is S a 1) {v : Int32} (hd : decode cc pc = .ok (.putfield 92, 3)) (kk : V p l e R s m args below meth c D G bs nL Q cells slots (sI S 67 a v) (pc + 3) lv (st)) : V p l e R s m args below meth c D G bs nL Q cells slots S (pc) lv (.int v :: .ref a :: st) := v_put (S' := sI S 67 a v) C ha (by decide) rfl inlX1 tyX1_ok nmX1 (k := 3) (by decide) wd269 rfl (Or.inl rfl) (tyX1_ok 3 (by decide)) rfl rfl (by decide) rfl (cell_sI (G := G) (S := S) (k := 3) v ha.2 (by decide) rfl) hd kk
theorem g2_12 {p : Program} {l : Launch} {e : Env} {R : Room} {s : State} {m : MethodId} {args : Array Value} {below : List Frame} {meth : Method} {c : Code} {D : va_G} {G : Nat → ClassId} {bs nL cells slots pc : Nat} {cc : ByteArray} {Q : State → Prop} {S : Mem} {lv : List (Option Value)} {st : List Value} (C : Cx p s m args meth c D G bs cc nL RX2) {a : Nat} (ha : is S a 2) (hd : decode cc pc = .ok (.getfield 12, 3)) (kk : V p l e R s m args below meth c D G bs nL Q cells slots S (pc + 3) lv (va_rf (mO S 130 a) :: st)) : V p l e R s m args below meth c D G bs nL Q cells slots S (pc) lv (.ref a :: st) := v_get C ha (by decide) rfl inlX2 (k := 2) (by decide) wd277 rfl rfl hd kk
theorem r2_12 {p : Program} {l : Launch} {e : Env} {R : Room} {s : State} {m : MethodId} {args : Array Value} {below : List Frame} {meth : Method} {c : Code} {D : va_G} {G : Nat → ClassId} {bs nL cells slots pc : Nat} {cc : ByteArray} {Q : State → Prop} {S : Mem} {lv : List (Option Value)} {st : List Value} (C : Cx p s m args meth c D G bs cc nL RX2) {a : Nat} (ha : is S a 2) {b : Nat} (hb : mO S 130 a = some b) (hd : decode cc pc = .ok (.getfield 12, 3)) (kk : V p l e R s m args below meth c D G bs nL Q cells slots S (pc + 3) lv (.ref b :: st)) : V p l e R s m args below meth c D G bs nL Q cells slots S (pc) lv (.ref a :: st) := g2_12 C ha hd (by rw [hb]; exact kk)
theorem p2_12 {p : Program} {l : Launch} {e : Env} {R : Room} {s : State} {m : MethodId} {args : Array Value} {below : List Frame} {meth : Method} {c : Code} {D : va_G} {G : Nat → ClassId} {bs nL cells slots pc : Nat} {cc : ByteArray} {Q : State → Prop} {S : Mem} {lv : List (Option Value)} {st : List Value} (C : Cx p s m args meth c D G bs cc nL RX2) {a : Nat} (ha : is S a 2) (hin : meth.name = "<init>") {v : Option Nat} (hd : decode cc pc = .ok (.putfield 12, 3)) (kk : V p l e R s m args below meth c D G bs nL Q cells slots (sO S 130 a v) (pc + 3) lv (st)) : V p l e R s m args below meth c D G bs nL Q cells slots S (pc) lv (va_rf v :: .ref a :: st) := v_put (S' := sO S 130 a v) C ha (by decide) rfl inlX2 tyX2_ok nmX2 (k := 2) (by decide) wd277 rfl (Or.inr ⟨rfl, hin, rfl⟩) (tyX2_ok 2 (by decide)) (by cases v <;> rfl) (by cases v <;> rfl) (by decide) rfl (cell_sO (G := G) (S := S) (k := 2) v ha.2 (by decide) rfl) hd kk
theorem g2_18 {p : Program} {l : Launch} {e : Env} {R : Room} {s : State} {m : MethodId} {args : Array Value} {below : List Frame} {meth : Method} {c : Code} {D : va_G} {G : Nat → ClassId} {bs nL cells slots pc : Nat} {cc : ByteArray} {Q : State → Prop} {S : Mem} {lv : List (Option Value)} {st : List Value} (C : Cx p s m args meth c D G bs cc nL RX2) {a : Nat} (ha : is S a 2) (hd : decode cc pc = .ok (.getfield 18, 3)) (kk : V p l e R s m args below meth c D G bs nL Q cells slots S (pc + 3) lv (va_rf (mO S 131 a) :: st)) : V p l e R s m args below meth c D G bs nL Q cells slots S (pc) lv (.ref a :: st) := v_get C ha (by decide) rfl inlX2 (k := 3) (by decide) wd278 rfl rfl hd kk
theorem r2_18 {p : Program} {l : Launch} {e : Env} {R : Room} {s : State} {m : MethodId} {args : Array Value} {below : List Frame} {meth : Method} {c : Code} {D : va_G} {G : Nat → ClassId} {bs nL cells slots pc : Nat} {cc : ByteArray} {Q : State → Prop} {S : Mem} {lv : List (Option Value)} {st : List Value} (C : Cx p s m args meth c D G bs cc nL RX2) {a : Nat} (ha : is S a 2) {b : Nat} (hb : mO S 131 a = some b) (hd : decode cc pc = .ok (.getfield 18, 3)) (kk : V p l e R s m args below meth c D G bs nL Q cells slots S (pc + 3) lv (.ref b :: st)) : V p l e R s m args below meth c D G bs nL Q cells slots S (pc) lv (.ref a :: st) := g2_18 C ha hd (by rw [hb]; exact kk)
theorem p2_18 {p : Program} {l : Launch} {e : Env} {R : Room} {s : State} {m : MethodId} {args : Array Value} {below : List Frame} {meth : Method} {c : Code} {D : va_G} {G : Nat → ClassId} {bs nL cells slots pc : Nat} {cc : ByteArray} {Q : State → Prop} {S : Mem} {lv : List (Option Value)} {st : List Value} (C : Cx p s m args meth c D G bs cc nL RX2) {a : Nat} (ha : is S a 2) (hin : meth.name = "<init>") {v : Option Nat} (hd : decode cc pc = .ok (.putfield 18, 3)) (kk : V p l e R s m args below meth c D G bs nL Q cells slots (sO S 131 a v) (pc + 3) lv (st)) : V p l e R s m args below meth c D G bs nL Q cells slots S (pc) lv (va_rf v :: .ref a :: st) := v_put (S' := sO S 131 a v) C ha (by decide) rfl inlX2 tyX2_ok nmX2 (k := 3) (by decide) wd278 rfl (Or.inr ⟨rfl, hin, rfl⟩) (tyX2_ok 3 (by decide)) (by cases v <;> rfl) (by cases v <;> rfl) (by decide) rfl (cell_sO (G := G) (S := S) (k := 3) v ha.2 (by decide) rfl) hd kk
theorem g2_24 {p : Program} {l : Launch} {e : Env} {R : Room} {s : State} {m : MethodId} {args : Array Value} {below : List Frame} {meth : Method} {c : Code} {D : va_G} {G : Nat → ClassId} {bs nL cells slots pc : Nat} {cc : ByteArray} {Q : State → Prop} {S : Mem} {lv : List (Option Value)} {st : List Value} (C : Cx p s m args meth c D G bs cc nL RX2) {a : Nat} (ha : is S a 2) (hd : decode cc pc = .ok (.getfield 24, 3)) (kk : V p l e R s m args below meth c D G bs nL Q cells slots S (pc + 3) lv (va_rf (mO S 133 a) :: st)) : V p l e R s m args below meth c D G bs nL Q cells slots S (pc) lv (.ref a :: st) := v_get C ha (by decide) rfl inlX2 (k := 5) (by decide) wd280 rfl rfl hd kk
theorem r2_24 {p : Program} {l : Launch} {e : Env} {R : Room} {s : State} {m : MethodId} {args : Array Value} {below : List Frame} {meth : Method} {c : Code} {D : va_G} {G : Nat → ClassId} {bs nL cells slots pc : Nat} {cc : ByteArray} {Q : State → Prop} {S : Mem} {lv : List (Option Value)} {st : List Value} (C : Cx p s m args meth c D G bs cc nL RX2) {a : Nat} (ha : is S a 2) {b : Nat} (hb : mO S 133 a = some b) (hd : decode cc pc = .ok (.getfield 24, 3)) (kk : V p l e R s m args below meth c D G bs nL Q cells slots S (pc + 3) lv (.ref b :: st)) : V p l e R s m args below meth c D G bs nL Q cells slots S (pc) lv (.ref a :: st) := g2_24 C ha hd (by rw [hb]; exact kk)
theorem p2_24 {p : Program} {l : Launch} {e : Env} {R : Room} {s : State} {m : MethodId} {args : Array Value} {below : List Frame} {meth : Method} {c : Code} {D : va_G} {G : Nat → ClassId} {bs nL cells slots pc : Nat} {cc : ByteArray} {Q : State → Prop} {S : Mem} {lv : List (Option Value)} {st : List Value} (C : Cx p s m args meth c D G bs cc nL RX2) {a : Nat} (ha : is S a 2) (hin : meth.name = "<init>") {v : Option Nat} (hd : decode cc pc = .ok (.putfield 24, 3)) (kk : V p l e R s m args below meth c D G bs nL Q cells slots (sO S 133 a v) (pc + 3) lv (st)) : V p l e R s m args below meth c D G bs nL Q cells slots S (pc) lv (va_rf v :: .ref a :: st) := v_put (S' := sO S 133 a v) C ha (by decide) rfl inlX2 tyX2_ok nmX2 (k := 5) (by decide) wd280 rfl (Or.inr ⟨rfl, hin, rfl⟩) (tyX2_ok 5 (by decide)) (by cases v <;> rfl) (by cases v <;> rfl) (by decide) rfl (cell_sO (G := G) (S := S) (k := 5) v ha.2 (by decide) rfl) hd kk
theorem g2_28 {p : Program} {l : Launch} {e : Env} {R : Room} {s : State} {m : MethodId} {args : Array Value} {below : List Frame} {meth : Method} {c : Code} {D : va_G} {G : Nat → ClassId} {bs nL cells slots pc : Nat} {cc : ByteArray} {Q : State → Prop} {S : Mem} {lv : List (Option Value)} {st : List Value} (C : Cx p s m args meth c D G bs cc nL RX2) {a : Nat} (ha : is S a 2) (hd : decode cc pc = .ok (.getfield 28, 3)) (kk : V p l e R s m args below meth c D G bs nL Q cells slots S (pc + 3) lv (va_rf (mO S 134 a) :: st)) : V p l e R s m args below meth c D G bs nL Q cells slots S (pc) lv (.ref a :: st) := v_get C ha (by decide) rfl inlX2 (k := 6) (by decide) wd281 rfl rfl hd kk
theorem r2_28 {p : Program} {l : Launch} {e : Env} {R : Room} {s : State} {m : MethodId} {args : Array Value} {below : List Frame} {meth : Method} {c : Code} {D : va_G} {G : Nat → ClassId} {bs nL cells slots pc : Nat} {cc : ByteArray} {Q : State → Prop} {S : Mem} {lv : List (Option Value)} {st : List Value} (C : Cx p s m args meth c D G bs cc nL RX2) {a : Nat} (ha : is S a 2) {b : Nat} (hb : mO S 134 a = some b) (hd : decode cc pc = .ok (.getfield 28, 3)) (kk : V p l e R s m args below meth c D G bs nL Q cells slots S (pc + 3) lv (.ref b :: st)) : V p l e R s m args below meth c D G bs nL Q cells slots S (pc) lv (.ref a :: st) := g2_28 C ha hd (by rw [hb]; exact kk)
theorem p2_28 {p : Program} {l : Launch} {e : Env} {R : Room} {s : State} {m : MethodId} {args : Array Value} {below : List Frame} {meth : Method} {c : Code} {D : va_G} {G : Nat → ClassId} {bs nL cells slots pc : Nat} {cc : ByteArray} {Q : State → Prop} {S : Mem} {lv : List (Option Value)} {st : List Value} (C : Cx p s m args meth c D G bs cc nL RX2) {a : Nat} (ha : is S a 2) (hin : meth.name = "<init>") {v : Option Nat} (hd : decode cc pc = .ok (.putfield 28, 3)) (kk : V p l e R s m args below meth c D G bs nL Q cells slots (sO S 134 a v) (pc + 3) lv (st)) : V p l e R s m args below meth c D G bs nL Q cells slots S (pc) lv (va_rf v :: .ref a :: st) := v_put (S' := sO S 134 a v) C ha (by decide) rfl inlX2 tyX2_ok nmX2 (k := 6) (by decide) wd281 rfl (Or.inr ⟨rfl, hin, rfl⟩) (tyX2_ok 6 (by decide)) (by cases v <;> rfl) (by cases v <;> rfl) (by decide) rfl (cell_sO (G := G) (S := S) (k := 6) v ha.2 (by decide) rfl) hd kk
theorem g2_32 {p : Program} {l : Launch} {e : Env} {R : Room} {s : State} {m : MethodId} {args : Array Value} {below : List Frame} {meth : Method} {c : Code} {D : va_G} {G : Nat → ClassId} {bs nL cells slots pc : Nat} {cc : ByteArray} {Q : State → Prop} {S : Mem} {lv : List (Option Value)} {st : List Value} (C : Cx p s m args meth c D G bs cc nL RX2) {a : Nat} (ha : is S a 2) (hd : decode cc pc = .ok (.getfield 32, 3)) (kk : V p l e R s m args below meth c D G bs nL Q cells slots S (pc + 3) lv (va_rf (mO S 136 a) :: st)) : V p l e R s m args below meth c D G bs nL Q cells slots S (pc) lv (.ref a :: st) := v_get C ha (by decide) rfl inlX2 (k := 8) (by decide) wd282 rfl rfl hd kk
theorem r2_32 {p : Program} {l : Launch} {e : Env} {R : Room} {s : State} {m : MethodId} {args : Array Value} {below : List Frame} {meth : Method} {c : Code} {D : va_G} {G : Nat → ClassId} {bs nL cells slots pc : Nat} {cc : ByteArray} {Q : State → Prop} {S : Mem} {lv : List (Option Value)} {st : List Value} (C : Cx p s m args meth c D G bs cc nL RX2) {a : Nat} (ha : is S a 2) {b : Nat} (hb : mO S 136 a = some b) (hd : decode cc pc = .ok (.getfield 32, 3)) (kk : V p l e R s m args below meth c D G bs nL Q cells slots S (pc + 3) lv (.ref b :: st)) : V p l e R s m args below meth c D G bs nL Q cells slots S (pc) lv (.ref a :: st) := g2_32 C ha hd (by rw [hb]; exact kk)
theorem p2_32 {p : Program} {l : Launch} {e : Env} {R : Room} {s : State} {m : MethodId} {args : Array Value} {below : List Frame} {meth : Method} {c : Code} {D : va_G} {G : Nat → ClassId} {bs nL cells slots pc : Nat} {cc : ByteArray} {Q : State → Prop} {S : Mem} {lv : List (Option Value)} {st : List Value} (C : Cx p s m args meth c D G bs cc nL RX2) {a : Nat} (ha : is S a 2) (hin : meth.name = "<init>") {v : Option Nat} (hd : decode cc pc = .ok (.putfield 32, 3)) (kk : V p l e R s m args below meth c D G bs nL Q cells slots (sO S 136 a v) (pc + 3) lv (st)) : V p l e R s m args below meth c D G bs nL Q cells slots S (pc) lv (va_rf v :: .ref a :: st) := v_put (S' := sO S 136 a v) C ha (by decide) rfl inlX2 tyX2_ok nmX2 (k := 8) (by decide) wd282 rfl (Or.inr ⟨rfl, hin, rfl⟩) (tyX2_ok 8 (by decide)) (by cases v <;> rfl) (by cases v <;> rfl) (by decide) rfl (cell_sO (G := G) (S := S) (k := 8) v ha.2 (by decide) rfl) hd kk
theorem g2_35 {p : Program} {l : Launch} {e : Env} {R : Room} {s : State} {m : MethodId} {args : Array Value} {below : List Frame} {meth : Method} {c : Code} {D : va_G} {G : Nat → ClassId} {bs nL cells slots pc : Nat} {cc : ByteArray} {Q : State → Prop} {S : Mem} {lv : List (Option Value)} {st : List Value} (C : Cx p s m args meth c D G bs cc nL RX2) {a : Nat} (ha : is S a 2) (hd : decode cc pc = .ok (.getfield 35, 3)) (kk : V p l e R s m args below meth c D G bs nL Q cells slots S (pc + 3) lv (va_rf (mO S 137 a) :: st)) : V p l e R s m args below meth c D G bs nL Q cells slots S (pc) lv (.ref a :: st) := v_get C ha (by decide) rfl inlX2 (k := 9) (by decide) wd283 rfl rfl hd kk
theorem r2_35 {p : Program} {l : Launch} {e : Env} {R : Room} {s : State} {m : MethodId} {args : Array Value} {below : List Frame} {meth : Method} {c : Code} {D : va_G} {G : Nat → ClassId} {bs nL cells slots pc : Nat} {cc : ByteArray} {Q : State → Prop} {S : Mem} {lv : List (Option Value)} {st : List Value} (C : Cx p s m args meth c D G bs cc nL RX2) {a : Nat} (ha : is S a 2) {b : Nat} (hb : mO S 137 a = some b) (hd : decode cc pc = .ok (.getfield 35, 3)) (kk : V p l e R s m args below meth c D G bs nL Q cells slots S (pc + 3) lv (.ref b :: st)) : V p l e R s m args below meth c D G bs nL Q cells slots S (pc) lv (.ref a :: st) := g2_35 C ha hd (by rw [hb]; exact kk)
theorem p2_35 {p : Program} {l : Launch} {e : Env} {R : Room} {s : State} {m : MethodId} {args : Array Value} {below : List Frame} {meth : Method} {c : Code} {D : va_G} {G : Nat → ClassId} {bs nL cells slots pc : Nat} {cc : ByteArray} {Q : State → Prop} {S : Mem} {lv : List (Option Value)} {st : List Value} (C : Cx p s m args meth c D G bs cc nL RX2) {a : Nat} (ha : is S a 2) (hin : meth.name = "<init>") {v : Option Nat} (hd : decode cc pc = .ok (.putfield 35, 3)) (kk : V p l e R s m args below meth c D G bs nL Q cells slots (sO S 137 a v) (pc + 3) lv (st)) : V p l e R s m args below meth c D G bs nL Q cells slots S (pc) lv (va_rf v :: .ref a :: st) := v_put (S' := sO S 137 a v) C ha (by decide) rfl inlX2 tyX2_ok nmX2 (k := 9) (by decide) wd283 rfl (Or.inr ⟨rfl, hin, rfl⟩) (tyX2_ok 9 (by decide)) (by cases v <;> rfl) (by cases v <;> rfl) (by decide) rfl (cell_sO (G := G) (S := S) (k := 9) v ha.2 (by decide) rfl) hd kk
theorem g2_38 {p : Program} {l : Launch} {e : Env} {R : Room} {s : State} {m : MethodId} {args : Array Value} {below : List Frame} {meth : Method} {c : Code} {D : va_G} {G : Nat → ClassId} {bs nL cells slots pc : Nat} {cc : ByteArray} {Q : State → Prop} {S : Mem} {lv : List (Option Value)} {st : List Value} (C : Cx p s m args meth c D G bs cc nL RX2) {a : Nat} (ha : is S a 2) (hd : decode cc pc = .ok (.getfield 38, 3)) (kk : V p l e R s m args below meth c D G bs nL Q cells slots S (pc + 3) lv (va_rf (mO S 139 a) :: st)) : V p l e R s m args below meth c D G bs nL Q cells slots S (pc) lv (.ref a :: st) := v_get C ha (by decide) rfl inlX2 (k := 11) (by decide) wd284 rfl rfl hd kk
theorem r2_38 {p : Program} {l : Launch} {e : Env} {R : Room} {s : State} {m : MethodId} {args : Array Value} {below : List Frame} {meth : Method} {c : Code} {D : va_G} {G : Nat → ClassId} {bs nL cells slots pc : Nat} {cc : ByteArray} {Q : State → Prop} {S : Mem} {lv : List (Option Value)} {st : List Value} (C : Cx p s m args meth c D G bs cc nL RX2) {a : Nat} (ha : is S a 2) {b : Nat} (hb : mO S 139 a = some b) (hd : decode cc pc = .ok (.getfield 38, 3)) (kk : V p l e R s m args below meth c D G bs nL Q cells slots S (pc + 3) lv (.ref b :: st)) : V p l e R s m args below meth c D G bs nL Q cells slots S (pc) lv (.ref a :: st) := g2_38 C ha hd (by rw [hb]; exact kk)
theorem p2_38 {p : Program} {l : Launch} {e : Env} {R : Room} {s : State} {m : MethodId} {args : Array Value} {below : List Frame} {meth : Method} {c : Code} {D : va_G} {G : Nat → ClassId} {bs nL cells slots pc : Nat} {cc : ByteArray} {Q : State → Prop} {S : Mem} {lv : List (Option Value)} {st : List Value} (C : Cx p s m args meth c D G bs cc nL RX2) {a : Nat} (ha : is S a 2) (hin : meth.name = "<init>") {v : Option Nat} (hd : decode cc pc = .ok (.putfield 38, 3)) (kk : V p l e R s m args below meth c D G bs nL Q cells slots (sO S 139 a v) (pc + 3) lv (st)) : V p l e R s m args below meth c D G bs nL Q cells slots S (pc) lv (va_rf v :: .ref a :: st) := v_put (S' := sO S 139 a v) C ha (by decide) rfl inlX2 tyX2_ok nmX2 (k := 11) (by decide) wd284 rfl (Or.inr ⟨rfl, hin, rfl⟩) (tyX2_ok 11 (by decide)) (by cases v <;> rfl) (by cases v <;> rfl) (by decide) rfl (cell_sO (G := G) (S := S) (k := 11) v ha.2 (by decide) rfl) hd kk
theorem g2_41 {p : Program} {l : Launch} {e : Env} {R : Room} {s : State} {m : MethodId} {args : Array Value} {below : List Frame} {meth : Method} {c : Code} {D : va_G} {G : Nat → ClassId} {bs nL cells slots pc : Nat} {cc : ByteArray} {Q : State → Prop} {S : Mem} {lv : List (Option Value)} {st : List Value} (C : Cx p s m args meth c D G bs cc nL RX2) {a : Nat} (ha : is S a 2) (hd : decode cc pc = .ok (.getfield 41, 3)) (kk : V p l e R s m args below meth c D G bs nL Q cells slots S (pc + 3) lv (va_rf (mO S 140 a) :: st)) : V p l e R s m args below meth c D G bs nL Q cells slots S (pc) lv (.ref a :: st) := v_get C ha (by decide) rfl inlX2 (k := 12) (by decide) wd285 rfl rfl hd kk
theorem r2_41 {p : Program} {l : Launch} {e : Env} {R : Room} {s : State} {m : MethodId} {args : Array Value} {below : List Frame} {meth : Method} {c : Code} {D : va_G} {G : Nat → ClassId} {bs nL cells slots pc : Nat} {cc : ByteArray} {Q : State → Prop} {S : Mem} {lv : List (Option Value)} {st : List Value} (C : Cx p s m args meth c D G bs cc nL RX2) {a : Nat} (ha : is S a 2) {b : Nat} (hb : mO S 140 a = some b) (hd : decode cc pc = .ok (.getfield 41, 3)) (kk : V p l e R s m args below meth c D G bs nL Q cells slots S (pc + 3) lv (.ref b :: st)) : V p l e R s m args below meth c D G bs nL Q cells slots S (pc) lv (.ref a :: st) := g2_41 C ha hd (by rw [hb]; exact kk)
theorem p2_41 {p : Program} {l : Launch} {e : Env} {R : Room} {s : State} {m : MethodId} {args : Array Value} {below : List Frame} {meth : Method} {c : Code} {D : va_G} {G : Nat → ClassId} {bs nL cells slots pc : Nat} {cc : ByteArray} {Q : State → Prop} {S : Mem} {lv : List (Option Value)} {st : List Value} (C : Cx p s m args meth c D G bs cc nL RX2) {a : Nat} (ha : is S a 2) (hin : meth.name = "<init>") {v : Option Nat} (hd : decode cc pc = .ok (.putfield 41, 3)) (kk : V p l e R s m args below meth c D G bs nL Q cells slots (sO S 140 a v) (pc + 3) lv (st)) : V p l e R s m args below meth c D G bs nL Q cells slots S (pc) lv (va_rf v :: .ref a :: st) := v_put (S' := sO S 140 a v) C ha (by decide) rfl inlX2 tyX2_ok nmX2 (k := 12) (by decide) wd285 rfl (Or.inr ⟨rfl, hin, rfl⟩) (tyX2_ok 12 (by decide)) (by cases v <;> rfl) (by cases v <;> rfl) (by decide) rfl (cell_sO (G := G) (S := S) (k := 12) v ha.2 (by decide) rfl) hd kk
theorem g2_45 {p : Program} {l : Launch} {e : Env} {R : Room} {s : State} {m : MethodId} {args : Array Value} {below : List Frame} {meth : Method} {c : Code} {D : va_G} {G : Nat → ClassId} {bs nL cells slots pc : Nat} {cc : ByteArray} {Q : State → Prop} {S : Mem} {lv : List (Option Value)} {st : List Value} (C : Cx p s m args meth c D G bs cc nL RX2) {a : Nat} (ha : is S a 2) (hd : decode cc pc = .ok (.getfield 45, 3)) (kk : V p l e R s m args below meth c D G bs nL Q cells slots S (pc + 3) lv (.int (mI S 128 a) :: st)) : V p l e R s m args below meth c D G bs nL Q cells slots S (pc) lv (.ref a :: st) := v_get C ha (by decide) rfl inlX2 (k := 0) (by decide) wd286 rfl rfl hd kk
theorem p2_45 {p : Program} {l : Launch} {e : Env} {R : Room} {s : State} {m : MethodId} {args : Array Value} {below : List Frame} {meth : Method} {c : Code} {D : va_G} {G : Nat → ClassId} {bs nL cells slots pc : Nat} {cc : ByteArray} {Q : State → Prop} {S : Mem} {lv : List (Option Value)} {st : List Value} (C : Cx p s m args meth c D G bs cc nL RX2) {a : Nat} (ha : is S a 2) (hin : meth.name = "<init>") {v : Int32} (hd : decode cc pc = .ok (.putfield 45, 3)) (kk : V p l e R s m args below meth c D G bs nL Q cells slots (sI S 128 a v) (pc + 3) lv (st)) : V p l e R s m args below meth c D G bs nL Q cells slots S (pc) lv (.int v :: .ref a :: st) := v_put (S' := sI S 128 a v) C ha (by decide) rfl inlX2 tyX2_ok nmX2 (k := 0) (by decide) wd286 rfl (Or.inr ⟨rfl, hin, rfl⟩) (tyX2_ok 0 (by decide)) rfl rfl (by decide) rfl (cell_sI (G := G) (S := S) (k := 0) v ha.2 (by decide) rfl) hd kk
theorem g2_49 {p : Program} {l : Launch} {e : Env} {R : Room} {s : State} {m : MethodId} {args : Array Value} {below : List Frame} {meth : Method} {c : Code} {D : va_G} {G : Nat → ClassId} {bs nL cells slots pc : Nat} {cc : ByteArray} {Q : State → Prop} {S : Mem} {lv : List (Option Value)} {st : List Value} (C : Cx p s m args meth c D G bs cc nL RX2) {a : Nat} (ha : is S a 2) (hd : decode cc pc = .ok (.getfield 49, 3)) (kk : V p l e R s m args below meth c D G bs nL Q cells slots S (pc + 3) lv (.int (mI S 129 a) :: st)) : V p l e R s m args below meth c D G bs nL Q cells slots S (pc) lv (.ref a :: st) := v_get C ha (by decide) rfl inlX2 (k := 1) (by decide) wd287 rfl rfl hd kk
theorem p2_49 {p : Program} {l : Launch} {e : Env} {R : Room} {s : State} {m : MethodId} {args : Array Value} {below : List Frame} {meth : Method} {c : Code} {D : va_G} {G : Nat → ClassId} {bs nL cells slots pc : Nat} {cc : ByteArray} {Q : State → Prop} {S : Mem} {lv : List (Option Value)} {st : List Value} (C : Cx p s m args meth c D G bs cc nL RX2) {a : Nat} (ha : is S a 2) (hin : meth.name = "<init>") {v : Int32} (hd : decode cc pc = .ok (.putfield 49, 3)) (kk : V p l e R s m args below meth c D G bs nL Q cells slots (sI S 129 a v) (pc + 3) lv (st)) : V p l e R s m args below meth c D G bs nL Q cells slots S (pc) lv (.int v :: .ref a :: st) := v_put (S' := sI S 129 a v) C ha (by decide) rfl inlX2 tyX2_ok nmX2 (k := 1) (by decide) wd287 rfl (Or.inr ⟨rfl, hin, rfl⟩) (tyX2_ok 1 (by decide)) rfl rfl (by decide) rfl (cell_sI (G := G) (S := S) (k := 1) v ha.2 (by decide) rfl) hd kk
theorem g10_152 {p : Program} {l : Launch} {e : Env} {R : Room} {s : State} {m : MethodId} {args : Array Value} {below : List Frame} {meth : Method} {c : Code} {D : va_G} {G : Nat → ClassId} {bs nL cells slots pc : Nat} {cc : ByteArray} {Q : State → Prop} {S : Mem} {lv : List (Option Value)} {st : List Value} (C : Cx p s m args meth c D G bs cc nL RX10) {a : Nat} (ha : is S a 10) (hd : decode cc pc = .ok (.getfield 152, 3)) (kk : V p l e R s m args below meth c D G bs nL Q cells slots S (pc + 3) lv (.int (mI S 643 a) :: st)) : V p l e R s m args below meth c D G bs nL Q cells slots S (pc) lv (.ref a :: st) := v_get C ha (by decide) rfl inlX10 (k := 3) (by decide) wd294 rfl rfl hd kk
theorem p10_152 {p : Program} {l : Launch} {e : Env} {R : Room} {s : State} {m : MethodId} {args : Array Value} {below : List Frame} {meth : Method} {c : Code} {D : va_G} {G : Nat → ClassId} {bs nL cells slots pc : Nat} {cc : ByteArray} {Q : State → Prop} {S : Mem} {lv : List (Option Value)} {st : List Value} (C : Cx p s m args meth c D G bs cc nL RX10) {a : Nat} (ha : is S a 10) {v : Int32} (hd : decode cc pc = .ok (.putfield 152, 3)) (kk : V p l e R s m args below meth c D G bs nL Q cells slots (sI S 643 a v) (pc + 3) lv (st)) : V p l e R s m args below meth c D G bs nL Q cells slots S (pc) lv (.int v :: .ref a :: st) := v_put (S' := sI S 643 a v) C ha (by decide) rfl inlX10 tyX10_ok nmX10 (k := 3) (by decide) wd294 rfl (Or.inl rfl) (tyX10_ok 3 (by decide)) rfl rfl (by decide) rfl (cell_sI (G := G) (S := S) (k := 3) v ha.2 (by decide) rfl) hd kk
theorem g9_73 {p : Program} {l : Launch} {e : Env} {R : Room} {s : State} {m : MethodId} {args : Array Value} {below : List Frame} {meth : Method} {c : Code} {D : va_G} {G : Nat → ClassId} {bs nL cells slots pc : Nat} {cc : ByteArray} {Q : State → Prop} {S : Mem} {lv : List (Option Value)} {st : List Value} (C : Cx p s m args meth c D G bs cc nL RX9) {a : Nat} (ha : is S a 2) (hd : decode cc pc = .ok (.getfield 73, 3)) (kk : V p l e R s m args below meth c D G bs nL Q cells slots S (pc + 3) lv (.int (mI S 132 a) :: st)) : V p l e R s m args below meth c D G bs nL Q cells slots S (pc) lv (.ref a :: st) := v_get C ha (by decide) rfl inlX2 (k := 4) (by decide) wd299 rfl rfl hd kk
theorem p9_73 {p : Program} {l : Launch} {e : Env} {R : Room} {s : State} {m : MethodId} {args : Array Value} {below : List Frame} {meth : Method} {c : Code} {D : va_G} {G : Nat → ClassId} {bs nL cells slots pc : Nat} {cc : ByteArray} {Q : State → Prop} {S : Mem} {lv : List (Option Value)} {st : List Value} (C : Cx p s m args meth c D G bs cc nL RX9) {a : Nat} (ha : is S a 2) {v : Int32} (hd : decode cc pc = .ok (.putfield 73, 3)) (kk : V p l e R s m args below meth c D G bs nL Q cells slots (sI S 132 a v) (pc + 3) lv (st)) : V p l e R s m args below meth c D G bs nL Q cells slots S (pc) lv (.int v :: .ref a :: st) := v_put (S' := sI S 132 a v) C ha (by decide) rfl inlX2 tyX2_ok nmX2 (k := 4) (by decide) wd299 rfl (Or.inl rfl) (tyX2_ok 4 (by decide)) rfl rfl (by decide) rfl (cell_sI (G := G) (S := S) (k := 4) v ha.2 (by decide) rfl) hd kk
theorem g2_58 {p : Program} {l : Launch} {e : Env} {R : Room} {s : State} {m : MethodId} {args : Array Value} {below : List Frame} {meth : Method} {c : Code} {D : va_G} {G : Nat → ClassId} {bs nL cells slots pc : Nat} {cc : ByteArray} {Q : State → Prop} {S : Mem} {lv : List (Option Value)} {st : List Value} (C : Cx p s m args meth c D G bs cc nL RX2) {a : Nat} (ha : is S a 2) (hd : decode cc pc = .ok (.getfield 58, 3)) (kk : V p l e R s m args below meth c D G bs nL Q cells slots S (pc + 3) lv (.int (mI S 132 a) :: st)) : V p l e R s m args below meth c D G bs nL Q cells slots S (pc) lv (.ref a :: st) := v_get C ha (by decide) rfl inlX2 (k := 4) (by decide) wd309 rfl rfl hd kk
theorem p2_58 {p : Program} {l : Launch} {e : Env} {R : Room} {s : State} {m : MethodId} {args : Array Value} {below : List Frame} {meth : Method} {c : Code} {D : va_G} {G : Nat → ClassId} {bs nL cells slots pc : Nat} {cc : ByteArray} {Q : State → Prop} {S : Mem} {lv : List (Option Value)} {st : List Value} (C : Cx p s m args meth c D G bs cc nL RX2) {a : Nat} (ha : is S a 2) {v : Int32} (hd : decode cc pc = .ok (.putfield 58, 3)) (kk : V p l e R s m args below meth c D G bs nL Q cells slots (sI S 132 a v) (pc + 3) lv (st)) : V p l e R s m args below meth c D G bs nL Q cells slots S (pc) lv (.int v :: .ref a :: st) := v_put (S' := sI S 132 a v) C ha (by decide) rfl inlX2 tyX2_ok nmX2 (k := 4) (by decide) wd309 rfl (Or.inl rfl) (tyX2_ok 4 (by decide)) rfl rfl (by decide) rfl (cell_sI (G := G) (S := S) (k := 4) v ha.2 (by decide) rfl) hd kk
theorem g1_60 {p : Program} {l : Launch} {e : Env} {R : Room} {s : State} {m : MethodId} {args : Array Value} {below : List Frame} {meth : Method} {c : Code} {D : va_G} {G : Nat → ClassId} {bs nL cells slots pc : Nat} {cc : ByteArray} {Q : State → Prop} {S : Mem} {lv : List (Option Value)} {st : List Value} (C : Cx p s m args meth c D G bs cc nL RX1) {a : Nat} (ha : is S a 2) (hd : decode cc pc = .ok (.getfield 60, 3)) (kk : V p l e R s m args below meth c D G bs nL Q cells slots S (pc + 3) lv (.int (mI S 132 a) :: st)) : V p l e R s m args below meth c D G bs nL Q cells slots S (pc) lv (.ref a :: st) := v_get C ha (by decide) rfl inlX2 (k := 4) (by decide) wd318 rfl rfl hd kk
theorem p1_60 {p : Program} {l : Launch} {e : Env} {R : Room} {s : State} {m : MethodId} {args : Array Value} {below : List Frame} {meth : Method} {c : Code} {D : va_G} {G : Nat → ClassId} {bs nL cells slots pc : Nat} {cc : ByteArray} {Q : State → Prop} {S : Mem} {lv : List (Option Value)} {st : List Value} (C : Cx p s m args meth c D G bs cc nL RX1) {a : Nat} (ha : is S a 2) {v : Int32} (hd : decode cc pc = .ok (.putfield 60, 3)) (kk : V p l e R s m args below meth c D G bs nL Q cells slots (sI S 132 a v) (pc + 3) lv (st)) : V p l e R s m args below meth c D G bs nL Q cells slots S (pc) lv (.int v :: .ref a :: st) := v_put (S' := sI S 132 a v) C ha (by decide) rfl inlX2 tyX2_ok nmX2 (k := 4) (by decide) wd318 rfl (Or.inl rfl) (tyX2_ok 4 (by decide)) rfl rfl (by decide) rfl (cell_sI (G := G) (S := S) (k := 4) v ha.2 (by decide) rfl) hd kk
theorem g1_101 {p : Program} {l : Launch} {e : Env} {R : Room} {s : State} {m : MethodId} {args : Array Value} {below : List Frame} {meth : Method} {c : Code} {D : va_G} {G : Nat → ClassId} {bs nL cells slots pc : Nat} {cc : ByteArray} {Q : State → Prop} {S : Mem} {lv : List (Option Value)} {st : List Value} (C : Cx p s m args meth c D G bs cc nL RX1) {a : Nat} (ha : is S a 2) (hd : decode cc pc = .ok (.getfield 101, 3)) (kk : V p l e R s m args below meth c D G bs nL Q cells slots S (pc + 3) lv (va_rf (mO S 130 a) :: st)) : V p l e R s m args below meth c D G bs nL Q cells slots S (pc) lv (.ref a :: st) := v_get C ha (by decide) rfl inlX2 (k := 2) (by decide) wd324 rfl rfl hd kk
theorem r1_101 {p : Program} {l : Launch} {e : Env} {R : Room} {s : State} {m : MethodId} {args : Array Value} {below : List Frame} {meth : Method} {c : Code} {D : va_G} {G : Nat → ClassId} {bs nL cells slots pc : Nat} {cc : ByteArray} {Q : State → Prop} {S : Mem} {lv : List (Option Value)} {st : List Value} (C : Cx p s m args meth c D G bs cc nL RX1) {a : Nat} (ha : is S a 2) {b : Nat} (hb : mO S 130 a = some b) (hd : decode cc pc = .ok (.getfield 101, 3)) (kk : V p l e R s m args below meth c D G bs nL Q cells slots S (pc + 3) lv (.ref b :: st)) : V p l e R s m args below meth c D G bs nL Q cells slots S (pc) lv (.ref a :: st) := g1_101 C ha hd (by rw [hb]; exact kk)
theorem g5_9 {p : Program} {l : Launch} {e : Env} {R : Room} {s : State} {m : MethodId} {args : Array Value} {below : List Frame} {meth : Method} {c : Code} {D : va_G} {G : Nat → ClassId} {bs nL cells slots pc : Nat} {cc : ByteArray} {Q : State → Prop} {S : Mem} {lv : List (Option Value)} {st : List Value} (C : Cx p s m args meth c D G bs cc nL RX5) {a : Nat} (ha : is S a 5) (hd : decode cc pc = .ok (.getfield 9, 3)) (kk : V p l e R s m args below meth c D G bs nL Q cells slots S (pc + 3) lv (va_rf (mO S 325 a) :: st)) : V p l e R s m args below meth c D G bs nL Q cells slots S (pc) lv (.ref a :: st) := v_get C ha (by decide) rfl inlX5 (k := 5) (by decide) wd352 rfl rfl hd kk
theorem r5_9 {p : Program} {l : Launch} {e : Env} {R : Room} {s : State} {m : MethodId} {args : Array Value} {below : List Frame} {meth : Method} {c : Code} {D : va_G} {G : Nat → ClassId} {bs nL cells slots pc : Nat} {cc : ByteArray} {Q : State → Prop} {S : Mem} {lv : List (Option Value)} {st : List Value} (C : Cx p s m args meth c D G bs cc nL RX5) {a : Nat} (ha : is S a 5) {b : Nat} (hb : mO S 325 a = some b) (hd : decode cc pc = .ok (.getfield 9, 3)) (kk : V p l e R s m args below meth c D G bs nL Q cells slots S (pc + 3) lv (.ref b :: st)) : V p l e R s m args below meth c D G bs nL Q cells slots S (pc) lv (.ref a :: st) := g5_9 C ha hd (by rw [hb]; exact kk)
theorem p5_9 {p : Program} {l : Launch} {e : Env} {R : Room} {s : State} {m : MethodId} {args : Array Value} {below : List Frame} {meth : Method} {c : Code} {D : va_G} {G : Nat → ClassId} {bs nL cells slots pc : Nat} {cc : ByteArray} {Q : State → Prop} {S : Mem} {lv : List (Option Value)} {st : List Value} (C : Cx p s m args meth c D G bs cc nL RX5) {a : Nat} (ha : is S a 5) (hin : meth.name = "<init>") {v : Option Nat} (hd : decode cc pc = .ok (.putfield 9, 3)) (kk : V p l e R s m args below meth c D G bs nL Q cells slots (sO S 325 a v) (pc + 3) lv (st)) : V p l e R s m args below meth c D G bs nL Q cells slots S (pc) lv (va_rf v :: .ref a :: st) := v_put (S' := sO S 325 a v) C ha (by decide) rfl inlX5 tyX5_ok nmX5 (k := 5) (by decide) wd352 rfl (Or.inr ⟨rfl, hin, rfl⟩) (tyX5_ok 5 (by decide)) (by cases v <;> rfl) (by cases v <;> rfl) (by decide) rfl (cell_sO (G := G) (S := S) (k := 5) v ha.2 (by decide) rfl) hd kk
theorem g5_15 {p : Program} {l : Launch} {e : Env} {R : Room} {s : State} {m : MethodId} {args : Array Value} {below : List Frame} {meth : Method} {c : Code} {D : va_G} {G : Nat → ClassId} {bs nL cells slots pc : Nat} {cc : ByteArray} {Q : State → Prop} {S : Mem} {lv : List (Option Value)} {st : List Value} (C : Cx p s m args meth c D G bs cc nL RX5) {a : Nat} (ha : is S a 5) (hd : decode cc pc = .ok (.getfield 15, 3)) (kk : V p l e R s m args below meth c D G bs nL Q cells slots S (pc + 3) lv (va_rf (mO S 326 a) :: st)) : V p l e R s m args below meth c D G bs nL Q cells slots S (pc) lv (.ref a :: st) := v_get C ha (by decide) rfl inlX5 (k := 6) (by decide) wd353 rfl rfl hd kk
theorem r5_15 {p : Program} {l : Launch} {e : Env} {R : Room} {s : State} {m : MethodId} {args : Array Value} {below : List Frame} {meth : Method} {c : Code} {D : va_G} {G : Nat → ClassId} {bs nL cells slots pc : Nat} {cc : ByteArray} {Q : State → Prop} {S : Mem} {lv : List (Option Value)} {st : List Value} (C : Cx p s m args meth c D G bs cc nL RX5) {a : Nat} (ha : is S a 5) {b : Nat} (hb : mO S 326 a = some b) (hd : decode cc pc = .ok (.getfield 15, 3)) (kk : V p l e R s m args below meth c D G bs nL Q cells slots S (pc + 3) lv (.ref b :: st)) : V p l e R s m args below meth c D G bs nL Q cells slots S (pc) lv (.ref a :: st) := g5_15 C ha hd (by rw [hb]; exact kk)
theorem p5_15 {p : Program} {l : Launch} {e : Env} {R : Room} {s : State} {m : MethodId} {args : Array Value} {below : List Frame} {meth : Method} {c : Code} {D : va_G} {G : Nat → ClassId} {bs nL cells slots pc : Nat} {cc : ByteArray} {Q : State → Prop} {S : Mem} {lv : List (Option Value)} {st : List Value} (C : Cx p s m args meth c D G bs cc nL RX5) {a : Nat} (ha : is S a 5) (hin : meth.name = "<init>") {v : Option Nat} (hd : decode cc pc = .ok (.putfield 15, 3)) (kk : V p l e R s m args below meth c D G bs nL Q cells slots (sO S 326 a v) (pc + 3) lv (st)) : V p l e R s m args below meth c D G bs nL Q cells slots S (pc) lv (va_rf v :: .ref a :: st) := v_put (S' := sO S 326 a v) C ha (by decide) rfl inlX5 tyX5_ok nmX5 (k := 6) (by decide) wd353 rfl (Or.inr ⟨rfl, hin, rfl⟩) (tyX5_ok 6 (by decide)) (by cases v <;> rfl) (by cases v <;> rfl) (by decide) rfl (cell_sO (G := G) (S := S) (k := 6) v ha.2 (by decide) rfl) hd kk
theorem g5_18 {p : Program} {l : Launch} {e : Env} {R : Room} {s : State} {m : MethodId} {args : Array Value} {below : List Frame} {meth : Method} {c : Code} {D : va_G} {G : Nat → ClassId} {bs nL cells slots pc : Nat} {cc : ByteArray} {Q : State → Prop} {S : Mem} {lv : List (Option Value)} {st : List Value} (C : Cx p s m args meth c D G bs cc nL RX5) {a : Nat} (ha : is S a 5) (hd : decode cc pc = .ok (.getfield 18, 3)) (kk : V p l e R s m args below meth c D G bs nL Q cells slots S (pc + 3) lv (va_rf (mO S 327 a) :: st)) : V p l e R s m args below meth c D G bs nL Q cells slots S (pc) lv (.ref a :: st) := v_get C ha (by decide) rfl inlX5 (k := 7) (by decide) wd354 rfl rfl hd kk
theorem r5_18 {p : Program} {l : Launch} {e : Env} {R : Room} {s : State} {m : MethodId} {args : Array Value} {below : List Frame} {meth : Method} {c : Code} {D : va_G} {G : Nat → ClassId} {bs nL cells slots pc : Nat} {cc : ByteArray} {Q : State → Prop} {S : Mem} {lv : List (Option Value)} {st : List Value} (C : Cx p s m args meth c D G bs cc nL RX5) {a : Nat} (ha : is S a 5) {b : Nat} (hb : mO S 327 a = some b) (hd : decode cc pc = .ok (.getfield 18, 3)) (kk : V p l e R s m args below meth c D G bs nL Q cells slots S (pc + 3) lv (.ref b :: st)) : V p l e R s m args below meth c D G bs nL Q cells slots S (pc) lv (.ref a :: st) := g5_18 C ha hd (by rw [hb]; exact kk)
theorem p5_18 {p : Program} {l : Launch} {e : Env} {R : Room} {s : State} {m : MethodId} {args : Array Value} {below : List Frame} {meth : Method} {c : Code} {D : va_G} {G : Nat → ClassId} {bs nL cells slots pc : Nat} {cc : ByteArray} {Q : State → Prop} {S : Mem} {lv : List (Option Value)} {st : List Value} (C : Cx p s m args meth c D G bs cc nL RX5) {a : Nat} (ha : is S a 5) (hin : meth.name = "<init>") {v : Option Nat} (hd : decode cc pc = .ok (.putfield 18, 3)) (kk : V p l e R s m args below meth c D G bs nL Q cells slots (sO S 327 a v) (pc + 3) lv (st)) : V p l e R s m args below meth c D G bs nL Q cells slots S (pc) lv (va_rf v :: .ref a :: st) := v_put (S' := sO S 327 a v) C ha (by decide) rfl inlX5 tyX5_ok nmX5 (k := 7) (by decide) wd354 rfl (Or.inr ⟨rfl, hin, rfl⟩) (tyX5_ok 7 (by decide)) (by cases v <;> rfl) (by cases v <;> rfl) (by decide) rfl (cell_sO (G := G) (S := S) (k := 7) v ha.2 (by decide) rfl) hd kk
theorem g5_21 {p : Program} {l : Launch} {e : Env} {R : Room} {s : State} {m : MethodId} {args : Array Value} {below : List Frame} {meth : Method} {c : Code} {D : va_G} {G : Nat → ClassId} {bs nL cells slots pc : Nat} {cc : ByteArray} {Q : State → Prop} {S : Mem} {lv : List (Option Value)} {st : List Value} (C : Cx p s m args meth c D G bs cc nL RX5) {a : Nat} (ha : is S a 5) (hd : decode cc pc = .ok (.getfield 21, 3)) (kk : V p l e R s m args below meth c D G bs nL Q cells slots S (pc + 3) lv (.int (mI S 320 a) :: st)) : V p l e R s m args below meth c D G bs nL Q cells slots S (pc) lv (.ref a :: st) := v_get C ha (by decide) rfl inlX5 (k := 0) (by decide) wd355 rfl rfl hd kk
theorem p5_21 {p : Program} {l : Launch} {e : Env} {R : Room} {s : State} {m : MethodId} {args : Array Value} {below : List Frame} {meth : Method} {c : Code} {D : va_G} {G : Nat → ClassId} {bs nL cells slots pc : Nat} {cc : ByteArray} {Q : State → Prop} {S : Mem} {lv : List (Option Value)} {st : List Value} (C : Cx p s m args meth c D G bs cc nL RX5) {a : Nat} (ha : is S a 5) (hin : meth.name = "<init>") {v : Int32} (hd : decode cc pc = .ok (.putfield 21, 3)) (kk : V p l e R s m args below meth c D G bs nL Q cells slots (sI S 320 a v) (pc + 3) lv (st)) : V p l e R s m args below meth c D G bs nL Q cells slots S (pc) lv (.int v :: .ref a :: st) := v_put (S' := sI S 320 a v) C ha (by decide) rfl inlX5 tyX5_ok nmX5 (k := 0) (by decide) wd355 rfl (Or.inr ⟨rfl, hin, rfl⟩) (tyX5_ok 0 (by decide)) rfl rfl (by decide) rfl (cell_sI (G := G) (S := S) (k := 0) v ha.2 (by decide) rfl) hd kk
theorem g5_25 {p : Program} {l : Launch} {e : Env} {R : Room} {s : State} {m : MethodId} {args : Array Value} {below : List Frame} {meth : Method} {c : Code} {D : va_G} {G : Nat → ClassId} {bs nL cells slots pc : Nat} {cc : ByteArray} {Q : State → Prop} {S : Mem} {lv : List (Option Value)} {st : List Value} (C : Cx p s m args meth c D G bs cc nL RX5) {a : Nat} (ha : is S a 5) (hd : decode cc pc = .ok (.getfield 25, 3)) (kk : V p l e R s m args below meth c D G bs nL Q cells slots S (pc + 3) lv (.int (mI S 321 a) :: st)) : V p l e R s m args below meth c D G bs nL Q cells slots S (pc) lv (.ref a :: st) := v_get C ha (by decide) rfl inlX5 (k := 1) (by decide) wd356 rfl rfl hd kk
theorem p5_25 {p : Program} {l : Launch} {e : Env} {R : Room} {s : State} {m : MethodId} {args : Array Value} {below : List Frame} {meth : Method} {c : Code} {D : va_G} {G : Nat → ClassId} {bs nL cells slots pc : Nat} {cc : ByteArray} {Q : State → Prop} {S : Mem} {lv : List (Option Value)} {st : List Value} (C : Cx p s m args meth c D G bs cc nL RX5) {a : Nat} (ha : is S a 5) (hin : meth.name = "<init>") {v : Int32} (hd : decode cc pc = .ok (.putfield 25, 3)) (kk : V p l e R s m args below meth c D G bs nL Q cells slots (sI S 321 a v) (pc + 3) lv (st)) : V p l e R s m args below meth c D G bs nL Q cells slots S (pc) lv (.int v :: .ref a :: st) := v_put (S' := sI S 321 a v) C ha (by decide) rfl inlX5 tyX5_ok nmX5 (k := 1) (by decide) wd356 rfl (Or.inr ⟨rfl, hin, rfl⟩) (tyX5_ok 1 (by decide)) rfl rfl (by decide) rfl (cell_sI (G := G) (S := S) (k := 1) v ha.2 (by decide) rfl) hd kk
theorem g5_28 {p : Program} {l : Launch} {e : Env} {R : Room} {s : State} {m : MethodId} {args : Array Value} {below : List Frame} {meth : Method} {c : Code} {D : va_G} {G : Nat → ClassId} {bs nL cells slots pc : Nat} {cc : ByteArray} {Q : State → Prop} {S : Mem} {lv : List (Option Value)} {st : List Value} (C : Cx p s m args meth c D G bs cc nL RX5) {a : Nat} (ha : is S a 5) (hd : decode cc pc = .ok (.getfield 28, 3)) (kk : V p l e R s m args below meth c D G bs nL Q cells slots S (pc + 3) lv (.int (mI S 322 a) :: st)) : V p l e R s m args below meth c D G bs nL Q cells slots S (pc) lv (.ref a :: st) := v_get C ha (by decide) rfl inlX5 (k := 2) (by decide) wd357 rfl rfl hd kk
theorem p5_28 {p : Program} {l : Launch} {e : Env} {R : Room} {s : State} {m : MethodId} {args : Array Value} {below : List Frame} {meth : Method} {c : Code} {D : va_G} {G : Nat → ClassId} {bs nL cells slots pc : Nat} {cc : ByteArray} {Q : State → Prop} {S : Mem} {lv : List (Option Value)} {st : List Value} (C : Cx p s m args meth c D G bs cc nL RX5) {a : Nat} (ha : is S a 5) (hin : meth.name = "<init>") {v : Int32} (hd : decode cc pc = .ok (.putfield 28, 3)) (kk : V p l e R s m args below meth c D G bs nL Q cells slots (sI S 322 a v) (pc + 3) lv (st)) : V p l e R s m args below meth c D G bs nL Q cells slots S (pc) lv (.int v :: .ref a :: st) := v_put (S' := sI S 322 a v) C ha (by decide) rfl inlX5 tyX5_ok nmX5 (k := 2) (by decide) wd357 rfl (Or.inr ⟨rfl, hin, rfl⟩) (tyX5_ok 2 (by decide)) rfl rfl (by decide) rfl (cell_sI (G := G) (S := S) (k := 2) v ha.2 (by decide) rfl) hd kk
theorem g5_31 {p : Program} {l : Launch} {e : Env} {R : Room} {s : State} {m : MethodId} {args : Array Value} {below : List Frame} {meth : Method} {c : Code} {D : va_G} {G : Nat → ClassId} {bs nL cells slots pc : Nat} {cc : ByteArray} {Q : State → Prop} {S : Mem} {lv : List (Option Value)} {st : List Value} (C : Cx p s m args meth c D G bs cc nL RX5) {a : Nat} (ha : is S a 5) (hd : decode cc pc = .ok (.getfield 31, 3)) (kk : V p l e R s m args below meth c D G bs nL Q cells slots S (pc + 3) lv (.int (mI S 323 a) :: st)) : V p l e R s m args below meth c D G bs nL Q cells slots S (pc) lv (.ref a :: st) := v_get C ha (by decide) rfl inlX5 (k := 3) (by decide) wd358 rfl rfl hd kk
theorem p5_31 {p : Program} {l : Launch} {e : Env} {R : Room} {s : State} {m : MethodId} {args : Array Value} {below : List Frame} {meth : Method} {c : Code} {D : va_G} {G : Nat → ClassId} {bs nL cells slots pc : Nat} {cc : ByteArray} {Q : State → Prop} {S : Mem} {lv : List (Option Value)} {st : List Value} (C : Cx p s m args meth c D G bs cc nL RX5) {a : Nat} (ha : is S a 5) (hin : meth.name = "<init>") {v : Int32} (hd : decode cc pc = .ok (.putfield 31, 3)) (kk : V p l e R s m args below meth c D G bs nL Q cells slots (sI S 323 a v) (pc + 3) lv (st)) : V p l e R s m args below meth c D G bs nL Q cells slots S (pc) lv (.int v :: .ref a :: st) := v_put (S' := sI S 323 a v) C ha (by decide) rfl inlX5 tyX5_ok nmX5 (k := 3) (by decide) wd358 rfl (Or.inr ⟨rfl, hin, rfl⟩) (tyX5_ok 3 (by decide)) rfl rfl (by decide) rfl (cell_sI (G := G) (S := S) (k := 3) v ha.2 (by decide) rfl) hd kk
theorem g5_34 {p : Program} {l : Launch} {e : Env} {R : Room} {s : State} {m : MethodId} {args : Array Value} {below : List Frame} {meth : Method} {c : Code} {D : va_G} {G : Nat → ClassId} {bs nL cells slots pc : Nat} {cc : ByteArray} {Q : State → Prop} {S : Mem} {lv : List (Option Value)} {st : List Value} (C : Cx p s m args meth c D G bs cc nL RX5) {a : Nat} (ha : is S a 5) (hd : decode cc pc = .ok (.getfield 34, 3)) (kk : V p l e R s m args below meth c D G bs nL Q cells slots S (pc + 3) lv (.int (mI S 324 a) :: st)) : V p l e R s m args below meth c D G bs nL Q cells slots S (pc) lv (.ref a :: st) := v_get C ha (by decide) rfl inlX5 (k := 4) (by decide) wd359 rfl rfl hd kk
theorem p5_34 {p : Program} {l : Launch} {e : Env} {R : Room} {s : State} {m : MethodId} {args : Array Value} {below : List Frame} {meth : Method} {c : Code} {D : va_G} {G : Nat → ClassId} {bs nL cells slots pc : Nat} {cc : ByteArray} {Q : State → Prop} {S : Mem} {lv : List (Option Value)} {st : List Value} (C : Cx p s m args meth c D G bs cc nL RX5) {a : Nat} (ha : is S a 5) (hin : meth.name = "<init>") {v : Int32} (hv : v = 0 ∨ v = 1) (hd : decode cc pc = .ok (.putfield 34, 3)) (kk : V p l e R s m args below meth c D G bs nL Q cells slots (sI S 324 a v) (pc + 3) lv (st)) : V p l e R s m args below meth c D G bs nL Q cells slots S (pc) lv (.int v :: .ref a :: st) := v_put (S' := sI S 324 a v) C ha (by decide) rfl inlX5 tyX5_ok nmX5 (k := 4) (by decide) wd359 rfl (Or.inr ⟨rfl, hin, rfl⟩) (tyX5_ok 4 (by decide)) (by rcases hv with rfl | rfl <;> rfl) (by rcases hv with rfl | rfl <;> rfl) (by decide) rfl (cell_sI (G := G) (S := S) (k := 4) v ha.2 (by decide) rfl) hd kk
theorem g9_103 {p : Program} {l : Launch} {e : Env} {R : Room} {s : State} {m : MethodId} {args : Array Value} {below : List Frame} {meth : Method} {c : Code} {D : va_G} {G : Nat → ClassId} {bs nL cells slots pc : Nat} {cc : ByteArray} {Q : State → Prop} {S : Mem} {lv : List (Option Value)} {st : List Value} (C : Cx p s m args meth c D G bs cc nL RX9) {a : Nat} (ha : is S a 5) (hd : decode cc pc = .ok (.getfield 103, 3)) (kk : V p l e R s m args below meth c D G bs nL Q cells slots S (pc + 3) lv (.int (mI S 328 a) :: st)) : V p l e R s m args below meth c D G bs nL Q cells slots S (pc) lv (.ref a :: st) := v_get C ha (by decide) rfl inlX5 (k := 8) (by decide) wd411 rfl rfl hd kk
theorem p9_103 {p : Program} {l : Launch} {e : Env} {R : Room} {s : State} {m : MethodId} {args : Array Value} {below : List Frame} {meth : Method} {c : Code} {D : va_G} {G : Nat → ClassId} {bs nL cells slots pc : Nat} {cc : ByteArray} {Q : State → Prop} {S : Mem} {lv : List (Option Value)} {st : List Value} (C : Cx p s m args meth c D G bs cc nL RX9) {a : Nat} (ha : is S a 5) {v : Int32} (hd : decode cc pc = .ok (.putfield 103, 3)) (kk : V p l e R s m args below meth c D G bs nL Q cells slots (sI S 328 a v) (pc + 3) lv (st)) : V p l e R s m args below meth c D G bs nL Q cells slots S (pc) lv (.int v :: .ref a :: st) := v_put (S' := sI S 328 a v) C ha (by decide) rfl inlX5 tyX5_ok nmX5 (k := 8) (by decide) wd411 rfl (Or.inl rfl) (tyX5_ok 8 (by decide)) rfl rfl (by decide) rfl (cell_sI (G := G) (S := S) (k := 8) v ha.2 (by decide) rfl) hd kk
theorem g5_38 {p : Program} {l : Launch} {e : Env} {R : Room} {s : State} {m : MethodId} {args : Array Value} {below : List Frame} {meth : Method} {c : Code} {D : va_G} {G : Nat → ClassId} {bs nL cells slots pc : Nat} {cc : ByteArray} {Q : State → Prop} {S : Mem} {lv : List (Option Value)} {st : List Value} (C : Cx p s m args meth c D G bs cc nL RX5) {a : Nat} (ha : is S a 5) (hd : decode cc pc = .ok (.getfield 38, 3)) (kk : V p l e R s m args below meth c D G bs nL Q cells slots S (pc + 3) lv (.int (mI S 328 a) :: st)) : V p l e R s m args below meth c D G bs nL Q cells slots S (pc) lv (.ref a :: st) := v_get C ha (by decide) rfl inlX5 (k := 8) (by decide) wd419 rfl rfl hd kk
theorem p5_38 {p : Program} {l : Launch} {e : Env} {R : Room} {s : State} {m : MethodId} {args : Array Value} {below : List Frame} {meth : Method} {c : Code} {D : va_G} {G : Nat → ClassId} {bs nL cells slots pc : Nat} {cc : ByteArray} {Q : State → Prop} {S : Mem} {lv : List (Option Value)} {st : List Value} (C : Cx p s m args meth c D G bs cc nL RX5) {a : Nat} (ha : is S a 5) {v : Int32} (hd : decode cc pc = .ok (.putfield 38, 3)) (kk : V p l e R s m args below meth c D G bs nL Q cells slots (sI S 328 a v) (pc + 3) lv (st)) : V p l e R s m args below meth c D G bs nL Q cells slots S (pc) lv (.int v :: .ref a :: st) := v_put (S' := sI S 328 a v) C ha (by decide) rfl inlX5 tyX5_ok nmX5 (k := 8) (by decide) wd419 rfl (Or.inl rfl) (tyX5_ok 8 (by decide)) rfl rfl (by decide) rfl (cell_sI (G := G) (S := S) (k := 8) v ha.2 (by decide) rfl) hd kk
theorem g9_113 {p : Program} {l : Launch} {e : Env} {R : Room} {s : State} {m : MethodId} {args : Array Value} {below : List Frame} {meth : Method} {c : Code} {D : va_G} {G : Nat → ClassId} {bs nL cells slots pc : Nat} {cc : ByteArray} {Q : State → Prop} {S : Mem} {lv : List (Option Value)} {st : List Value} (C : Cx p s m args meth c D G bs cc nL RX9) {a : Nat} (ha : is S a 2) (hd : decode cc pc = .ok (.getfield 113, 3)) (kk : V p l e R s m args below meth c D G bs nL Q cells slots S (pc + 3) lv (.int (mI S 135 a) :: st)) : V p l e R s m args below meth c D G bs nL Q cells slots S (pc) lv (.ref a :: st) := v_get C ha (by decide) rfl inlX2 (k := 7) (by decide) wd431 rfl rfl hd kk
theorem p9_113 {p : Program} {l : Launch} {e : Env} {R : Room} {s : State} {m : MethodId} {args : Array Value} {below : List Frame} {meth : Method} {c : Code} {D : va_G} {G : Nat → ClassId} {bs nL cells slots pc : Nat} {cc : ByteArray} {Q : State → Prop} {S : Mem} {lv : List (Option Value)} {st : List Value} (C : Cx p s m args meth c D G bs cc nL RX9) {a : Nat} (ha : is S a 2) {v : Int32} (hd : decode cc pc = .ok (.putfield 113, 3)) (kk : V p l e R s m args below meth c D G bs nL Q cells slots (sI S 135 a v) (pc + 3) lv (st)) : V p l e R s m args below meth c D G bs nL Q cells slots S (pc) lv (.int v :: .ref a :: st) := v_put (S' := sI S 135 a v) C ha (by decide) rfl inlX2 tyX2_ok nmX2 (k := 7) (by decide) wd431 rfl (Or.inl rfl) (tyX2_ok 7 (by decide)) rfl rfl (by decide) rfl (cell_sI (G := G) (S := S) (k := 7) v ha.2 (by decide) rfl) hd kk
theorem g2_73 {p : Program} {l : Launch} {e : Env} {R : Room} {s : State} {m : MethodId} {args : Array Value} {below : List Frame} {meth : Method} {c : Code} {D : va_G} {G : Nat → ClassId} {bs nL cells slots pc : Nat} {cc : ByteArray} {Q : State → Prop} {S : Mem} {lv : List (Option Value)} {st : List Value} (C : Cx p s m args meth c D G bs cc nL RX2) {a : Nat} (ha : is S a 2) (hd : decode cc pc = .ok (.getfield 73, 3)) (kk : V p l e R s m args below meth c D G bs nL Q cells slots S (pc + 3) lv (.int (mI S 135 a) :: st)) : V p l e R s m args below meth c D G bs nL Q cells slots S (pc) lv (.ref a :: st) := v_get C ha (by decide) rfl inlX2 (k := 7) (by decide) wd443 rfl rfl hd kk
theorem p2_73 {p : Program} {l : Launch} {e : Env} {R : Room} {s : State} {m : MethodId} {args : Array Value} {below : List Frame} {meth : Method} {c : Code} {D : va_G} {G : Nat → ClassId} {bs nL cells slots pc : Nat} {cc : ByteArray} {Q : State → Prop} {S : Mem} {lv : List (Option Value)} {st : List Value} (C : Cx p s m args meth c D G bs cc nL RX2) {a : Nat} (ha : is S a 2) {v : Int32} (hd : decode cc pc = .ok (.putfield 73, 3)) (kk : V p l e R s m args below meth c D G bs nL Q cells slots (sI S 135 a v) (pc + 3) lv (st)) : V p l e R s m args below meth c D G bs nL Q cells slots S (pc) lv (.int v :: .ref a :: st) := v_put (S' := sI S 135 a v) C ha (by decide) rfl inlX2 tyX2_ok nmX2 (k := 7) (by decide) wd443 rfl (Or.inl rfl) (tyX2_ok 7 (by decide)) rfl rfl (by decide) rfl (cell_sI (G := G) (S := S) (k := 7) v ha.2 (by decide) rfl) hd kk
theorem g9_126 {p : Program} {l : Launch} {e : Env} {R : Room} {s : State} {m : MethodId} {args : Array Value} {below : List Frame} {meth : Method} {c : Code} {D : va_G} {G : Nat → ClassId} {bs nL cells slots pc : Nat} {cc : ByteArray} {Q : State → Prop} {S : Mem} {lv : List (Option Value)} {st : List Value} (C : Cx p s m args meth c D G bs cc nL RX9) {a : Nat} (ha : is S a 2) (hd : decode cc pc = .ok (.getfield 126, 3)) (kk : V p l e R s m args below meth c D G bs nL Q cells slots S (pc + 3) lv (.int (mI S 138 a) :: st)) : V p l e R s m args below meth c D G bs nL Q cells slots S (pc) lv (.ref a :: st) := v_get C ha (by decide) rfl inlX2 (k := 10) (by decide) wd456 rfl rfl hd kk
theorem p9_126 {p : Program} {l : Launch} {e : Env} {R : Room} {s : State} {m : MethodId} {args : Array Value} {below : List Frame} {meth : Method} {c : Code} {D : va_G} {G : Nat → ClassId} {bs nL cells slots pc : Nat} {cc : ByteArray} {Q : State → Prop} {S : Mem} {lv : List (Option Value)} {st : List Value} (C : Cx p s m args meth c D G bs cc nL RX9) {a : Nat} (ha : is S a 2) {v : Int32} (hd : decode cc pc = .ok (.putfield 126, 3)) (kk : V p l e R s m args below meth c D G bs nL Q cells slots (sI S 138 a v) (pc + 3) lv (st)) : V p l e R s m args below meth c D G bs nL Q cells slots S (pc) lv (.int v :: .ref a :: st) := v_put (S' := sI S 138 a v) C ha (by decide) rfl inlX2 tyX2_ok nmX2 (k := 10) (by decide) wd456 rfl (Or.inl rfl) (tyX2_ok 10 (by decide)) rfl rfl (by decide) rfl (cell_sI (G := G) (S := S) (k := 10) v ha.2 (by decide) rfl) hd kk
theorem g2_76 {p : Program} {l : Launch} {e : Env} {R : Room} {s : State} {m : MethodId} {args : Array Value} {below : List Frame} {meth : Method} {c : Code} {D : va_G} {G : Nat → ClassId} {bs nL cells slots pc : Nat} {cc : ByteArray} {Q : State → Prop} {S : Mem} {lv : List (Option Value)} {st : List Value} (C : Cx p s m args meth c D G bs cc nL RX2) {a : Nat} (ha : is S a 2) (hd : decode cc pc = .ok (.getfield 76, 3)) (kk : V p l e R s m args below meth c D G bs nL Q cells slots S (pc + 3) lv (.int (mI S 138 a) :: st)) : V p l e R s m args below meth c D G bs nL Q cells slots S (pc) lv (.ref a :: st) := v_get C ha (by decide) rfl inlX2 (k := 10) (by decide) wd469 rfl rfl hd kk
theorem p2_76 {p : Program} {l : Launch} {e : Env} {R : Room} {s : State} {m : MethodId} {args : Array Value} {below : List Frame} {meth : Method} {c : Code} {D : va_G} {G : Nat → ClassId} {bs nL cells slots pc : Nat} {cc : ByteArray} {Q : State → Prop} {S : Mem} {lv : List (Option Value)} {st : List Value} (C : Cx p s m args meth c D G bs cc nL RX2) {a : Nat} (ha : is S a 2) {v : Int32} (hd : decode cc pc = .ok (.putfield 76, 3)) (kk : V p l e R s m args below meth c D G bs nL Q cells slots (sI S 138 a v) (pc + 3) lv (st)) : V p l e R s m args below meth c D G bs nL Q cells slots S (pc) lv (.int v :: .ref a :: st) := v_put (S' := sI S 138 a v) C ha (by decide) rfl inlX2 tyX2_ok nmX2 (k := 10) (by decide) wd469 rfl (Or.inl rfl) (tyX2_ok 10 (by decide)) rfl rfl (by decide) rfl (cell_sI (G := G) (S := S) (k := 10) v ha.2 (by decide) rfl) hd kk
theorem g9_135 {p : Program} {l : Launch} {e : Env} {R : Room} {s : State} {m : MethodId} {args : Array Value} {below : List Frame} {meth : Method} {c : Code} {D : va_G} {G : Nat → ClassId} {bs nL cells slots pc : Nat} {cc : ByteArray} {Q : State → Prop} {S : Mem} {lv : List (Option Value)} {st : List Value} (C : Cx p s m args meth c D G bs cc nL RX9) {a : Nat} (ha : is S a 8) (hd : decode cc pc = .ok (.getfield 135, 3)) (kk : V p l e R s m args below meth c D G bs nL Q cells slots S (pc + 3) lv (va_rf (mO S 512 a) :: st)) : V p l e R s m args below meth c D G bs nL Q cells slots S (pc) lv (.ref a :: st) := v_get C ha (by decide) rfl inlX8 (k := 0) (by decide) wd502 rfl rfl hd kk
theorem r9_135 {p : Program} {l : Launch} {e : Env} {R : Room} {s : State} {m : MethodId} {args : Array Value} {below : List Frame} {meth : Method} {c : Code} {D : va_G} {G : Nat → ClassId} {bs nL cells slots pc : Nat} {cc : ByteArray} {Q : State → Prop} {S : Mem} {lv : List (Option Value)} {st : List Value} (C : Cx p s m args meth c D G bs cc nL RX9) {a : Nat} (ha : is S a 8) {b : Nat} (hb : mO S 512 a = some b) (hd : decode cc pc = .ok (.getfield 135, 3)) (kk : V p l e R s m args below meth c D G bs nL Q cells slots S (pc + 3) lv (.ref b :: st)) : V p l e R s m args below meth c D G bs nL Q cells slots S (pc) lv (.ref a :: st) := g9_135 C ha hd (by rw [hb]; exact kk)
theorem g9_144 {p : Program} {l : Launch} {e : Env} {R : Room} {s : State} {m : MethodId} {args : Array Value} {below : List Frame} {meth : Method} {c : Code} {D : va_G} {G : Nat → ClassId} {bs nL cells slots pc : Nat} {cc : ByteArray} {Q : State → Prop} {S : Mem} {lv : List (Option Value)} {st : List Value} (C : Cx p s m args meth c D G bs cc nL RX9) {a : Nat} (ha : is S a 2) (hd : decode cc pc = .ok (.getfield 144, 3)) (kk : V p l e R s m args below meth c D G bs nL Q cells slots S (pc + 3) lv (va_rf (mO S 130 a) :: st)) : V p l e R s m args below meth c D G bs nL Q cells slots S (pc) lv (.ref a :: st) := v_get C ha (by decide) rfl inlX2 (k := 2) (by decide) wd512 rfl rfl hd kk
theorem r9_144 {p : Program} {l : Launch} {e : Env} {R : Room} {s : State} {m : MethodId} {args : Array Value} {below : List Frame} {meth : Method} {c : Code} {D : va_G} {G : Nat → ClassId} {bs nL cells slots pc : Nat} {cc : ByteArray} {Q : State → Prop} {S : Mem} {lv : List (Option Value)} {st : List Value} (C : Cx p s m args meth c D G bs cc nL RX9) {a : Nat} (ha : is S a 2) {b : Nat} (hb : mO S 130 a = some b) (hd : decode cc pc = .ok (.getfield 144, 3)) (kk : V p l e R s m args below meth c D G bs nL Q cells slots S (pc + 3) lv (.ref b :: st)) : V p l e R s m args below meth c D G bs nL Q cells slots S (pc) lv (.ref a :: st) := g9_144 C ha hd (by rw [hb]; exact kk)
theorem g9_149 {p : Program} {l : Launch} {e : Env} {R : Room} {s : State} {m : MethodId} {args : Array Value} {below : List Frame} {meth : Method} {c : Code} {D : va_G} {G : Nat → ClassId} {bs nL cells slots pc : Nat} {cc : ByteArray} {Q : State → Prop} {S : Mem} {lv : List (Option Value)} {st : List Value} (C : Cx p s m args meth c D G bs cc nL RX9) {a : Nat} (ha : is S a 0) (hd : decode cc pc = .ok (.getfield 149, 3)) (kk : V p l e R s m args below meth c D G bs nL Q cells slots S (pc + 3) lv (.int (mI S 0 a) :: st)) : V p l e R s m args below meth c D G bs nL Q cells slots S (pc) lv (.ref a :: st) := v_get C ha (by decide) rfl inlX0 (k := 0) (by decide) wd521 rfl rfl hd kk
theorem p9_149 {p : Program} {l : Launch} {e : Env} {R : Room} {s : State} {m : MethodId} {args : Array Value} {below : List Frame} {meth : Method} {c : Code} {D : va_G} {G : Nat → ClassId} {bs nL cells slots pc : Nat} {cc : ByteArray} {Q : State → Prop} {S : Mem} {lv : List (Option Value)} {st : List Value} (C : Cx p s m args meth c D G bs cc nL RX9) {a : Nat} (ha : is S a 0) {v : Int32} (hd : decode cc pc = .ok (.putfield 149, 3)) (kk : V p l e R s m args below meth c D G bs nL Q cells slots (sI S 0 a v) (pc + 3) lv (st)) : V p l e R s m args below meth c D G bs nL Q cells slots S (pc) lv (.int v :: .ref a :: st) := v_put (S' := sI S 0 a v) C ha (by decide) rfl inlX0 tyX0_ok nmX0 (k := 0) (by decide) wd521 rfl (Or.inl rfl) (tyX0_ok 0 (by decide)) rfl rfl (by decide) rfl (cell_sI (G := G) (S := S) (k := 0) v ha.2 (by decide) rfl) hd kk
theorem g1_129 {p : Program} {l : Launch} {e : Env} {R : Room} {s : State} {m : MethodId} {args : Array Value} {below : List Frame} {meth : Method} {c : Code} {D : va_G} {G : Nat → ClassId} {bs nL cells slots pc : Nat} {cc : ByteArray} {Q : State → Prop} {S : Mem} {lv : List (Option Value)} {st : List Value} (C : Cx p s m args meth c D G bs cc nL RX1) {a : Nat} (ha : is S a 3) (hd : decode cc pc = .ok (.getfield 129, 3)) (kk : V p l e R s m args below meth c D G bs nL Q cells slots S (pc + 3) lv (.int (mI S 194 a) :: st)) : V p l e R s m args below meth c D G bs nL Q cells slots S (pc) lv (.ref a :: st) := v_get C ha (by decide) rfl inlX3 (k := 2) (by decide) wd526 rfl rfl hd kk
theorem p1_129 {p : Program} {l : Launch} {e : Env} {R : Room} {s : State} {m : MethodId} {args : Array Value} {below : List Frame} {meth : Method} {c : Code} {D : va_G} {G : Nat → ClassId} {bs nL cells slots pc : Nat} {cc : ByteArray} {Q : State → Prop} {S : Mem} {lv : List (Option Value)} {st : List Value} (C : Cx p s m args meth c D G bs cc nL RX1) {a : Nat} (ha : is S a 3) {v : Int32} (hd : decode cc pc = .ok (.putfield 129, 3)) (kk : V p l e R s m args below meth c D G bs nL Q cells slots (sI S 194 a v) (pc + 3) lv (st)) : V p l e R s m args below meth c D G bs nL Q cells slots S (pc) lv (.int v :: .ref a :: st) := v_put (S' := sI S 194 a v) C ha (by decide) rfl inlX3 tyX3_ok nmX3 (k := 2) (by decide) wd526 rfl (Or.inl rfl) (tyX3_ok 2 (by decide)) rfl rfl (by decide) rfl (cell_sI (G := G) (S := S) (k := 2) v ha.2 (by decide) rfl) hd kk
theorem g0_9 {p : Program} {l : Launch} {e : Env} {R : Room} {s : State} {m : MethodId} {args : Array Value} {below : List Frame} {meth : Method} {c : Code} {D : va_G} {G : Nat → ClassId} {bs nL cells slots pc : Nat} {cc : ByteArray} {Q : State → Prop} {S : Mem} {lv : List (Option Value)} {st : List Value} (C : Cx p s m args meth c D G bs cc nL RX0) {a : Nat} (ha : is S a 0) (hd : decode cc pc = .ok (.getfield 9, 3)) (kk : V p l e R s m args below meth c D G bs nL Q cells slots S (pc + 3) lv (va_rf (mO S 4 a) :: st)) : V p l e R s m args below meth c D G bs nL Q cells slots S (pc) lv (.ref a :: st) := v_get C ha (by decide) rfl inlX0 (k := 4) (by decide) wd532 rfl rfl hd kk
theorem r0_9 {p : Program} {l : Launch} {e : Env} {R : Room} {s : State} {m : MethodId} {args : Array Value} {below : List Frame} {meth : Method} {c : Code} {D : va_G} {G : Nat → ClassId} {bs nL cells slots pc : Nat} {cc : ByteArray} {Q : State → Prop} {S : Mem} {lv : List (Option Value)} {st : List Value} (C : Cx p s m args meth c D G bs cc nL RX0) {a : Nat} (ha : is S a 0) {b : Nat} (hb : mO S 4 a = some b) (hd : decode cc pc = .ok (.getfield 9, 3)) (kk : V p l e R s m args below meth c D G bs nL Q cells slots S (pc + 3) lv (.ref b :: st)) : V p l e R s m args below meth c D G bs nL Q cells slots S (pc) lv (.ref a :: st) := g0_9 C ha hd (by rw [hb]; exact kk)
theorem p0_9 {p : Program} {l : Launch} {e : Env} {R : Room} {s : State} {m : MethodId} {args : Array Value} {below : List Frame} {meth : Method} {c : Code} {D : va_G} {G : Nat → ClassId} {bs nL cells slots pc : Nat} {cc : ByteArray} {Q : State → Prop} {S : Mem} {lv : List (Option Value)} {st : List Value} (C : Cx p s m args meth c D G bs cc nL RX0) {a : Nat} (ha : is S a 0) {v : Option Nat} (hd : decode cc pc = .ok (.putfield 9, 3)) (kk : V p l e R s m args below meth c D G bs nL Q cells slots (sO S 4 a v) (pc + 3) lv (st)) : V p l e R s m args below meth c D G bs nL Q cells slots S (pc) lv (va_rf v :: .ref a :: st) := v_put (S' := sO S 4 a v) C ha (by decide) rfl inlX0 tyX0_ok nmX0 (k := 4) (by decide) wd532 rfl (Or.inl rfl) (tyX0_ok 4 (by decide)) (by cases v <;> rfl) (by cases v <;> rfl) (by decide) rfl (cell_sO (G := G) (S := S) (k := 4) v ha.2 (by decide) rfl) hd kk
theorem g0_15 {p : Program} {l : Launch} {e : Env} {R : Room} {s : State} {m : MethodId} {args : Array Value} {below : List Frame} {meth : Method} {c : Code} {D : va_G} {G : Nat → ClassId} {bs nL cells slots pc : Nat} {cc : ByteArray} {Q : State → Prop} {S : Mem} {lv : List (Option Value)} {st : List Value} (C : Cx p s m args meth c D G bs cc nL RX0) {a : Nat} (ha : is S a 0) (hd : decode cc pc = .ok (.getfield 15, 3)) (kk : V p l e R s m args below meth c D G bs nL Q cells slots S (pc + 3) lv (va_rf (mO S 5 a) :: st)) : V p l e R s m args below meth c D G bs nL Q cells slots S (pc) lv (.ref a :: st) := v_get C ha (by decide) rfl inlX0 (k := 5) (by decide) wd533 rfl rfl hd kk
theorem r0_15 {p : Program} {l : Launch} {e : Env} {R : Room} {s : State} {m : MethodId} {args : Array Value} {below : List Frame} {meth : Method} {c : Code} {D : va_G} {G : Nat → ClassId} {bs nL cells slots pc : Nat} {cc : ByteArray} {Q : State → Prop} {S : Mem} {lv : List (Option Value)} {st : List Value} (C : Cx p s m args meth c D G bs cc nL RX0) {a : Nat} (ha : is S a 0) {b : Nat} (hb : mO S 5 a = some b) (hd : decode cc pc = .ok (.getfield 15, 3)) (kk : V p l e R s m args below meth c D G bs nL Q cells slots S (pc + 3) lv (.ref b :: st)) : V p l e R s m args below meth c D G bs nL Q cells slots S (pc) lv (.ref a :: st) := g0_15 C ha hd (by rw [hb]; exact kk)
theorem p0_15 {p : Program} {l : Launch} {e : Env} {R : Room} {s : State} {m : MethodId} {args : Array Value} {below : List Frame} {meth : Method} {c : Code} {D : va_G} {G : Nat → ClassId} {bs nL cells slots pc : Nat} {cc : ByteArray} {Q : State → Prop} {S : Mem} {lv : List (Option Value)} {st : List Value} (C : Cx p s m args meth c D G bs cc nL RX0) {a : Nat} (ha : is S a 0) {v : Option Nat} (hd : decode cc pc = .ok (.putfield 15, 3)) (kk : V p l e R s m args below meth c D G bs nL Q cells slots (sO S 5 a v) (pc + 3) lv (st)) : V p l e R s m args below meth c D G bs nL Q cells slots S (pc) lv (va_rf v :: .ref a :: st) := v_put (S' := sO S 5 a v) C ha (by decide) rfl inlX0 tyX0_ok nmX0 (k := 5) (by decide) wd533 rfl (Or.inl rfl) (tyX0_ok 5 (by decide)) (by cases v <;> rfl) (by cases v <;> rfl) (by decide) rfl (cell_sO (G := G) (S := S) (k := 5) v ha.2 (by decide) rfl) hd kk
theorem g0_18 {p : Program} {l : Launch} {e : Env} {R : Room} {s : State} {m : MethodId} {args : Array Value} {below : List Frame} {meth : Method} {c : Code} {D : va_G} {G : Nat → ClassId} {bs nL cells slots pc : Nat} {cc : ByteArray} {Q : State → Prop} {S : Mem} {lv : List (Option Value)} {st : List Value} (C : Cx p s m args meth c D G bs cc nL RX0) {a : Nat} (ha : is S a 0) (hd : decode cc pc = .ok (.getfield 18, 3)) (kk : V p l e R s m args below meth c D G bs nL Q cells slots S (pc + 3) lv (va_rf (mO S 6 a) :: st)) : V p l e R s m args below meth c D G bs nL Q cells slots S (pc) lv (.ref a :: st) := v_get C ha (by decide) rfl inlX0 (k := 6) (by decide) wd534 rfl rfl hd kk
theorem r0_18 {p : Program} {l : Launch} {e : Env} {R : Room} {s : State} {m : MethodId} {args : Array Value} {below : List Frame} {meth : Method} {c : Code} {D : va_G} {G : Nat → ClassId} {bs nL cells slots pc : Nat} {cc : ByteArray} {Q : State → Prop} {S : Mem} {lv : List (Option Value)} {st : List Value} (C : Cx p s m args meth c D G bs cc nL RX0) {a : Nat} (ha : is S a 0) {b : Nat} (hb : mO S 6 a = some b) (hd : decode cc pc = .ok (.getfield 18, 3)) (kk : V p l e R s m args below meth c D G bs nL Q cells slots S (pc + 3) lv (.ref b :: st)) : V p l e R s m args below meth c D G bs nL Q cells slots S (pc) lv (.ref a :: st) := g0_18 C ha hd (by rw [hb]; exact kk)
theorem p0_18 {p : Program} {l : Launch} {e : Env} {R : Room} {s : State} {m : MethodId} {args : Array Value} {below : List Frame} {meth : Method} {c : Code} {D : va_G} {G : Nat → ClassId} {bs nL cells slots pc : Nat} {cc : ByteArray} {Q : State → Prop} {S : Mem} {lv : List (Option Value)} {st : List Value} (C : Cx p s m args meth c D G bs cc nL RX0) {a : Nat} (ha : is S a 0) {v : Option Nat} (hd : decode cc pc = .ok (.putfield 18, 3)) (kk : V p l e R s m args below meth c D G bs nL Q cells slots (sO S 6 a v) (pc + 3) lv (st)) : V p l e R s m args below meth c D G bs nL Q cells slots S (pc) lv (va_rf v :: .ref a :: st) := v_put (S' := sO S 6 a v) C ha (by decide) rfl inlX0 tyX0_ok nmX0 (k := 6) (by decide) wd534 rfl (Or.inl rfl) (tyX0_ok 6 (by decide)) (by cases v <;> rfl) (by cases v <;> rfl) (by decide) rfl (cell_sO (G := G) (S := S) (k := 6) v ha.2 (by decide) rfl) hd kk
theorem g0_22 {p : Program} {l : Launch} {e : Env} {R : Room} {s : State} {m : MethodId} {args : Array Value} {below : List Frame} {meth : Method} {c : Code} {D : va_G} {G : Nat → ClassId} {bs nL cells slots pc : Nat} {cc : ByteArray} {Q : State → Prop} {S : Mem} {lv : List (Option Value)} {st : List Value} (C : Cx p s m args meth c D G bs cc nL RX0) {a : Nat} (ha : is S a 0) (hd : decode cc pc = .ok (.getfield 22, 3)) (kk : V p l e R s m args below meth c D G bs nL Q cells slots S (pc + 3) lv (.int (mI S 7 a) :: st)) : V p l e R s m args below meth c D G bs nL Q cells slots S (pc) lv (.ref a :: st) := v_get C ha (by decide) rfl inlX0 (k := 7) (by decide) wd535 rfl rfl hd kk
theorem p0_22 {p : Program} {l : Launch} {e : Env} {R : Room} {s : State} {m : MethodId} {args : Array Value} {below : List Frame} {meth : Method} {c : Code} {D : va_G} {G : Nat → ClassId} {bs nL cells slots pc : Nat} {cc : ByteArray} {Q : State → Prop} {S : Mem} {lv : List (Option Value)} {st : List Value} (C : Cx p s m args meth c D G bs cc nL RX0) {a : Nat} (ha : is S a 0) {v : Int32} (hv : v = 0 ∨ v = 1) (hd : decode cc pc = .ok (.putfield 22, 3)) (kk : V p l e R s m args below meth c D G bs nL Q cells slots (sI S 7 a v) (pc + 3) lv (st)) : V p l e R s m args below meth c D G bs nL Q cells slots S (pc) lv (.int v :: .ref a :: st) := v_put (S' := sI S 7 a v) C ha (by decide) rfl inlX0 tyX0_ok nmX0 (k := 7) (by decide) wd535 rfl (Or.inl rfl) (tyX0_ok 7 (by decide)) (by rcases hv with rfl | rfl <;> rfl) (by rcases hv with rfl | rfl <;> rfl) (by decide) rfl (cell_sI (G := G) (S := S) (k := 7) v ha.2 (by decide) rfl) hd kk
theorem g0_26 {p : Program} {l : Launch} {e : Env} {R : Room} {s : State} {m : MethodId} {args : Array Value} {below : List Frame} {meth : Method} {c : Code} {D : va_G} {G : Nat → ClassId} {bs nL cells slots pc : Nat} {cc : ByteArray} {Q : State → Prop} {S : Mem} {lv : List (Option Value)} {st : List Value} (C : Cx p s m args meth c D G bs cc nL RX0) {a : Nat} (ha : is S a 0) (hd : decode cc pc = .ok (.getfield 26, 3)) (kk : V p l e R s m args below meth c D G bs nL Q cells slots S (pc + 3) lv (.int (mI S 8 a) :: st)) : V p l e R s m args below meth c D G bs nL Q cells slots S (pc) lv (.ref a :: st) := v_get C ha (by decide) rfl inlX0 (k := 8) (by decide) wd536 rfl rfl hd kk
theorem p0_26 {p : Program} {l : Launch} {e : Env} {R : Room} {s : State} {m : MethodId} {args : Array Value} {below : List Frame} {meth : Method} {c : Code} {D : va_G} {G : Nat → ClassId} {bs nL cells slots pc : Nat} {cc : ByteArray} {Q : State → Prop} {S : Mem} {lv : List (Option Value)} {st : List Value} (C : Cx p s m args meth c D G bs cc nL RX0) {a : Nat} (ha : is S a 0) {v : Int32} (hv : v = 0 ∨ v = 1) (hd : decode cc pc = .ok (.putfield 26, 3)) (kk : V p l e R s m args below meth c D G bs nL Q cells slots (sI S 8 a v) (pc + 3) lv (st)) : V p l e R s m args below meth c D G bs nL Q cells slots S (pc) lv (.int v :: .ref a :: st) := v_put (S' := sI S 8 a v) C ha (by decide) rfl inlX0 tyX0_ok nmX0 (k := 8) (by decide) wd536 rfl (Or.inl rfl) (tyX0_ok 8 (by decide)) (by rcases hv with rfl | rfl <;> rfl) (by rcases hv with rfl | rfl <;> rfl) (by decide) rfl (cell_sI (G := G) (S := S) (k := 8) v ha.2 (by decide) rfl) hd kk
theorem g0_29 {p : Program} {l : Launch} {e : Env} {R : Room} {s : State} {m : MethodId} {args : Array Value} {below : List Frame} {meth : Method} {c : Code} {D : va_G} {G : Nat → ClassId} {bs nL cells slots pc : Nat} {cc : ByteArray} {Q : State → Prop} {S : Mem} {lv : List (Option Value)} {st : List Value} (C : Cx p s m args meth c D G bs cc nL RX0) {a : Nat} (ha : is S a 0) (hd : decode cc pc = .ok (.getfield 29, 3)) (kk : V p l e R s m args below meth c D G bs nL Q cells slots S (pc + 3) lv (.int (mI S 9 a) :: st)) : V p l e R s m args below meth c D G bs nL Q cells slots S (pc) lv (.ref a :: st) := v_get C ha (by decide) rfl inlX0 (k := 9) (by decide) wd537 rfl rfl hd kk
theorem p0_29 {p : Program} {l : Launch} {e : Env} {R : Room} {s : State} {m : MethodId} {args : Array Value} {below : List Frame} {meth : Method} {c : Code} {D : va_G} {G : Nat → ClassId} {bs nL cells slots pc : Nat} {cc : ByteArray} {Q : State → Prop} {S : Mem} {lv : List (Option Value)} {st : List Value} (C : Cx p s m args meth c D G bs cc nL RX0) {a : Nat} (ha : is S a 0) {v : Int32} (hd : decode cc pc = .ok (.putfield 29, 3)) (kk : V p l e R s m args below meth c D G bs nL Q cells slots (sI S 9 a v) (pc + 3) lv (st)) : V p l e R s m args below meth c D G bs nL Q cells slots S (pc) lv (.int v :: .ref a :: st) := v_put (S' := sI S 9 a v) C ha (by decide) rfl inlX0 tyX0_ok nmX0 (k := 9) (by decide) wd537 rfl (Or.inl rfl) (tyX0_ok 9 (by decide)) rfl rfl (by decide) rfl (cell_sI (G := G) (S := S) (k := 9) v ha.2 (by decide) rfl) hd kk
theorem g0_33 {p : Program} {l : Launch} {e : Env} {R : Room} {s : State} {m : MethodId} {args : Array Value} {below : List Frame} {meth : Method} {c : Code} {D : va_G} {G : Nat → ClassId} {bs nL cells slots pc : Nat} {cc : ByteArray} {Q : State → Prop} {S : Mem} {lv : List (Option Value)} {st : List Value} (C : Cx p s m args meth c D G bs cc nL RX0) {a : Nat} (ha : is S a 5) (hd : decode cc pc = .ok (.getfield 33, 3)) (kk : V p l e R s m args below meth c D G bs nL Q cells slots S (pc + 3) lv (.int (mI S 323 a) :: st)) : V p l e R s m args below meth c D G bs nL Q cells slots S (pc) lv (.ref a :: st) := v_get C ha (by decide) rfl inlX5 (k := 3) (by decide) wd555 rfl rfl hd kk
theorem g0_38 {p : Program} {l : Launch} {e : Env} {R : Room} {s : State} {m : MethodId} {args : Array Value} {below : List Frame} {meth : Method} {c : Code} {D : va_G} {G : Nat → ClassId} {bs nL cells slots pc : Nat} {cc : ByteArray} {Q : State → Prop} {S : Mem} {lv : List (Option Value)} {st : List Value} (C : Cx p s m args meth c D G bs cc nL RX0) {a : Nat} (ha : is S a 5) (hd : decode cc pc = .ok (.getfield 38, 3)) (kk : V p l e R s m args below meth c D G bs nL Q cells slots S (pc + 3) lv (.int (mI S 324 a) :: st)) : V p l e R s m args below meth c D G bs nL Q cells slots S (pc) lv (.ref a :: st) := v_get C ha (by decide) rfl inlX5 (k := 4) (by decide) wd556 rfl rfl hd kk
theorem g0_41 {p : Program} {l : Launch} {e : Env} {R : Room} {s : State} {m : MethodId} {args : Array Value} {below : List Frame} {meth : Method} {c : Code} {D : va_G} {G : Nat → ClassId} {bs nL cells slots pc : Nat} {cc : ByteArray} {Q : State → Prop} {S : Mem} {lv : List (Option Value)} {st : List Value} (C : Cx p s m args meth c D G bs cc nL RX0) {a : Nat} (ha : is S a 5) (hd : decode cc pc = .ok (.getfield 41, 3)) (kk : V p l e R s m args below meth c D G bs nL Q cells slots S (pc + 3) lv (.int (mI S 320 a) :: st)) : V p l e R s m args below meth c D G bs nL Q cells slots S (pc) lv (.ref a :: st) := v_get C ha (by decide) rfl inlX5 (k := 0) (by decide) wd557 rfl rfl hd kk
theorem g0_50 {p : Program} {l : Launch} {e : Env} {R : Room} {s : State} {m : MethodId} {args : Array Value} {below : List Frame} {meth : Method} {c : Code} {D : va_G} {G : Nat → ClassId} {bs nL cells slots pc : Nat} {cc : ByteArray} {Q : State → Prop} {S : Mem} {lv : List (Option Value)} {st : List Value} (C : Cx p s m args meth c D G bs cc nL RX0) {a : Nat} (ha : is S a 0) (hd : decode cc pc = .ok (.getfield 50, 3)) (kk : V p l e R s m args below meth c D G bs nL Q cells slots S (pc + 3) lv (va_rf (mO S 1 a) :: st)) : V p l e R s m args below meth c D G bs nL Q cells slots S (pc) lv (.ref a :: st) := v_get C ha (by decide) rfl inlX0 (k := 1) (by decide) wd570 rfl rfl hd kk
theorem r0_50 {p : Program} {l : Launch} {e : Env} {R : Room} {s : State} {m : MethodId} {args : Array Value} {below : List Frame} {meth : Method} {c : Code} {D : va_G} {G : Nat → ClassId} {bs nL cells slots pc : Nat} {cc : ByteArray} {Q : State → Prop} {S : Mem} {lv : List (Option Value)} {st : List Value} (C : Cx p s m args meth c D G bs cc nL RX0) {a : Nat} (ha : is S a 0) {b : Nat} (hb : mO S 1 a = some b) (hd : decode cc pc = .ok (.getfield 50, 3)) (kk : V p l e R s m args below meth c D G bs nL Q cells slots S (pc + 3) lv (.ref b :: st)) : V p l e R s m args below meth c D G bs nL Q cells slots S (pc) lv (.ref a :: st) := g0_50 C ha hd (by rw [hb]; exact kk)
theorem p0_50 {p : Program} {l : Launch} {e : Env} {R : Room} {s : State} {m : MethodId} {args : Array Value} {below : List Frame} {meth : Method} {c : Code} {D : va_G} {G : Nat → ClassId} {bs nL cells slots pc : Nat} {cc : ByteArray} {Q : State → Prop} {S : Mem} {lv : List (Option Value)} {st : List Value} (C : Cx p s m args meth c D G bs cc nL RX0) {a : Nat} (ha : is S a 0) {v : Option Nat} (hd : decode cc pc = .ok (.putfield 50, 3)) (kk : V p l e R s m args below meth c D G bs nL Q cells slots (sO S 1 a v) (pc + 3) lv (st)) : V p l e R s m args below meth c D G bs nL Q cells slots S (pc) lv (va_rf v :: .ref a :: st) := v_put (S' := sO S 1 a v) C ha (by decide) rfl inlX0 tyX0_ok nmX0 (k := 1) (by decide) wd570 rfl (Or.inl rfl) (tyX0_ok 1 (by decide)) (by cases v <;> rfl) (by cases v <;> rfl) (by decide) rfl (cell_sO (G := G) (S := S) (k := 1) v ha.2 (by decide) rfl) hd kk
theorem g0_53 {p : Program} {l : Launch} {e : Env} {R : Room} {s : State} {m : MethodId} {args : Array Value} {below : List Frame} {meth : Method} {c : Code} {D : va_G} {G : Nat → ClassId} {bs nL cells slots pc : Nat} {cc : ByteArray} {Q : State → Prop} {S : Mem} {lv : List (Option Value)} {st : List Value} (C : Cx p s m args meth c D G bs cc nL RX0) {a : Nat} (ha : is S a 0) (hd : decode cc pc = .ok (.getfield 53, 3)) (kk : V p l e R s m args below meth c D G bs nL Q cells slots S (pc + 3) lv (.int (mI S 0 a) :: st)) : V p l e R s m args below meth c D G bs nL Q cells slots S (pc) lv (.ref a :: st) := v_get C ha (by decide) rfl inlX0 (k := 0) (by decide) wd571 rfl rfl hd kk
theorem p0_53 {p : Program} {l : Launch} {e : Env} {R : Room} {s : State} {m : MethodId} {args : Array Value} {below : List Frame} {meth : Method} {c : Code} {D : va_G} {G : Nat → ClassId} {bs nL cells slots pc : Nat} {cc : ByteArray} {Q : State → Prop} {S : Mem} {lv : List (Option Value)} {st : List Value} (C : Cx p s m args meth c D G bs cc nL RX0) {a : Nat} (ha : is S a 0) {v : Int32} (hd : decode cc pc = .ok (.putfield 53, 3)) (kk : V p l e R s m args below meth c D G bs nL Q cells slots (sI S 0 a v) (pc + 3) lv (st)) : V p l e R s m args below meth c D G bs nL Q cells slots S (pc) lv (.int v :: .ref a :: st) := v_put (S' := sI S 0 a v) C ha (by decide) rfl inlX0 tyX0_ok nmX0 (k := 0) (by decide) wd571 rfl (Or.inl rfl) (tyX0_ok 0 (by decide)) rfl rfl (by decide) rfl (cell_sI (G := G) (S := S) (k := 0) v ha.2 (by decide) rfl) hd kk
theorem g0_54 {p : Program} {l : Launch} {e : Env} {R : Room} {s : State} {m : MethodId} {args : Array Value} {below : List Frame} {meth : Method} {c : Code} {D : va_G} {G : Nat → ClassId} {bs nL cells slots pc : Nat} {cc : ByteArray} {Q : State → Prop} {S : Mem} {lv : List (Option Value)} {st : List Value} (C : Cx p s m args meth c D G bs cc nL RX0) {a : Nat} (ha : is S a 0) (hd : decode cc pc = .ok (.getfield 54, 3)) (kk : V p l e R s m args below meth c D G bs nL Q cells slots S (pc + 3) lv (.int (mI S 2 a) :: st)) : V p l e R s m args below meth c D G bs nL Q cells slots S (pc) lv (.ref a :: st) := v_get C ha (by decide) rfl inlX0 (k := 2) (by decide) wd572 rfl rfl hd kk
theorem p0_54 {p : Program} {l : Launch} {e : Env} {R : Room} {s : State} {m : MethodId} {args : Array Value} {below : List Frame} {meth : Method} {c : Code} {D : va_G} {G : Nat → ClassId} {bs nL cells slots pc : Nat} {cc : ByteArray} {Q : State → Prop} {S : Mem} {lv : List (Option Value)} {st : List Value} (C : Cx p s m args meth c D G bs cc nL RX0) {a : Nat} (ha : is S a 0) {v : Int32} (hd : decode cc pc = .ok (.putfield 54, 3)) (kk : V p l e R s m args below meth c D G bs nL Q cells slots (sI S 2 a v) (pc + 3) lv (st)) : V p l e R s m args below meth c D G bs nL Q cells slots S (pc) lv (.int v :: .ref a :: st) := v_put (S' := sI S 2 a v) C ha (by decide) rfl inlX0 tyX0_ok nmX0 (k := 2) (by decide) wd572 rfl (Or.inl rfl) (tyX0_ok 2 (by decide)) rfl rfl (by decide) rfl (cell_sI (G := G) (S := S) (k := 2) v ha.2 (by decide) rfl) hd kk
theorem g0_57 {p : Program} {l : Launch} {e : Env} {R : Room} {s : State} {m : MethodId} {args : Array Value} {below : List Frame} {meth : Method} {c : Code} {D : va_G} {G : Nat → ClassId} {bs nL cells slots pc : Nat} {cc : ByteArray} {Q : State → Prop} {S : Mem} {lv : List (Option Value)} {st : List Value} (C : Cx p s m args meth c D G bs cc nL RX0) {a : Nat} (ha : is S a 0) (hd : decode cc pc = .ok (.getfield 57, 3)) (kk : V p l e R s m args below meth c D G bs nL Q cells slots S (pc + 3) lv (.int (mI S 3 a) :: st)) : V p l e R s m args below meth c D G bs nL Q cells slots S (pc) lv (.ref a :: st) := v_get C ha (by decide) rfl inlX0 (k := 3) (by decide) wd573 rfl rfl hd kk
theorem p0_57 {p : Program} {l : Launch} {e : Env} {R : Room} {s : State} {m : MethodId} {args : Array Value} {below : List Frame} {meth : Method} {c : Code} {D : va_G} {G : Nat → ClassId} {bs nL cells slots pc : Nat} {cc : ByteArray} {Q : State → Prop} {S : Mem} {lv : List (Option Value)} {st : List Value} (C : Cx p s m args meth c D G bs cc nL RX0) {a : Nat} (ha : is S a 0) {v : Int32} (hd : decode cc pc = .ok (.putfield 57, 3)) (kk : V p l e R s m args below meth c D G bs nL Q cells slots (sI S 3 a v) (pc + 3) lv (st)) : V p l e R s m args below meth c D G bs nL Q cells slots S (pc) lv (.int v :: .ref a :: st) := v_put (S' := sI S 3 a v) C ha (by decide) rfl inlX0 tyX0_ok nmX0 (k := 3) (by decide) wd573 rfl (Or.inl rfl) (tyX0_ok 3 (by decide)) rfl rfl (by decide) rfl (cell_sI (G := G) (S := S) (k := 3) v ha.2 (by decide) rfl) hd kk
theorem g9_154 {p : Program} {l : Launch} {e : Env} {R : Room} {s : State} {m : MethodId} {args : Array Value} {below : List Frame} {meth : Method} {c : Code} {D : va_G} {G : Nat → ClassId} {bs nL cells slots pc : Nat} {cc : ByteArray} {Q : State → Prop} {S : Mem} {lv : List (Option Value)} {st : List Value} (C : Cx p s m args meth c D G bs cc nL RX9) {a : Nat} (ha : is S a 0) (hd : decode cc pc = .ok (.getfield 154, 3)) (kk : V p l e R s m args below meth c D G bs nL Q cells slots S (pc + 3) lv (.int (mI S 2 a) :: st)) : V p l e R s m args below meth c D G bs nL Q cells slots S (pc) lv (.ref a :: st) := v_get C ha (by decide) rfl inlX0 (k := 2) (by decide) wd613 rfl rfl hd kk
theorem p9_154 {p : Program} {l : Launch} {e : Env} {R : Room} {s : State} {m : MethodId} {args : Array Value} {below : List Frame} {meth : Method} {c : Code} {D : va_G} {G : Nat → ClassId} {bs nL cells slots pc : Nat} {cc : ByteArray} {Q : State → Prop} {S : Mem} {lv : List (Option Value)} {st : List Value} (C : Cx p s m args meth c D G bs cc nL RX9) {a : Nat} (ha : is S a 0) {v : Int32} (hd : decode cc pc = .ok (.putfield 154, 3)) (kk : V p l e R s m args below meth c D G bs nL Q cells slots (sI S 2 a v) (pc + 3) lv (st)) : V p l e R s m args below meth c D G bs nL Q cells slots S (pc) lv (.int v :: .ref a :: st) := v_put (S' := sI S 2 a v) C ha (by decide) rfl inlX0 tyX0_ok nmX0 (k := 2) (by decide) wd613 rfl (Or.inl rfl) (tyX0_ok 2 (by decide)) rfl rfl (by decide) rfl (cell_sI (G := G) (S := S) (k := 2) v ha.2 (by decide) rfl) hd kk
theorem g1_154 {p : Program} {l : Launch} {e : Env} {R : Room} {s : State} {m : MethodId} {args : Array Value} {below : List Frame} {meth : Method} {c : Code} {D : va_G} {G : Nat → ClassId} {bs nL cells slots pc : Nat} {cc : ByteArray} {Q : State → Prop} {S : Mem} {lv : List (Option Value)} {st : List Value} (C : Cx p s m args meth c D G bs cc nL RX1) {a : Nat} (ha : is S a 0) (hd : decode cc pc = .ok (.getfield 154, 3)) (kk : V p l e R s m args below meth c D G bs nL Q cells slots S (pc + 3) lv (va_rf (mO S 1 a) :: st)) : V p l e R s m args below meth c D G bs nL Q cells slots S (pc) lv (.ref a :: st) := v_get C ha (by decide) rfl inlX0 (k := 1) (by decide) wd650 rfl rfl hd kk
theorem r1_154 {p : Program} {l : Launch} {e : Env} {R : Room} {s : State} {m : MethodId} {args : Array Value} {below : List Frame} {meth : Method} {c : Code} {D : va_G} {G : Nat → ClassId} {bs nL cells slots pc : Nat} {cc : ByteArray} {Q : State → Prop} {S : Mem} {lv : List (Option Value)} {st : List Value} (C : Cx p s m args meth c D G bs cc nL RX1) {a : Nat} (ha : is S a 0) {b : Nat} (hb : mO S 1 a = some b) (hd : decode cc pc = .ok (.getfield 154, 3)) (kk : V p l e R s m args below meth c D G bs nL Q cells slots S (pc + 3) lv (.ref b :: st)) : V p l e R s m args below meth c D G bs nL Q cells slots S (pc) lv (.ref a :: st) := g1_154 C ha hd (by rw [hb]; exact kk)
theorem p1_154 {p : Program} {l : Launch} {e : Env} {R : Room} {s : State} {m : MethodId} {args : Array Value} {below : List Frame} {meth : Method} {c : Code} {D : va_G} {G : Nat → ClassId} {bs nL cells slots pc : Nat} {cc : ByteArray} {Q : State → Prop} {S : Mem} {lv : List (Option Value)} {st : List Value} (C : Cx p s m args meth c D G bs cc nL RX1) {a : Nat} (ha : is S a 0) {v : Option Nat} (hd : decode cc pc = .ok (.putfield 154, 3)) (kk : V p l e R s m args below meth c D G bs nL Q cells slots (sO S 1 a v) (pc + 3) lv (st)) : V p l e R s m args below meth c D G bs nL Q cells slots S (pc) lv (va_rf v :: .ref a :: st) := v_put (S' := sO S 1 a v) C ha (by decide) rfl inlX0 tyX0_ok nmX0 (k := 1) (by decide) wd650 rfl (Or.inl rfl) (tyX0_ok 1 (by decide)) (by cases v <;> rfl) (by cases v <;> rfl) (by decide) rfl (cell_sO (G := G) (S := S) (k := 1) v ha.2 (by decide) rfl) hd kk
theorem g1_158 {p : Program} {l : Launch} {e : Env} {R : Room} {s : State} {m : MethodId} {args : Array Value} {below : List Frame} {meth : Method} {c : Code} {D : va_G} {G : Nat → ClassId} {bs nL cells slots pc : Nat} {cc : ByteArray} {Q : State → Prop} {S : Mem} {lv : List (Option Value)} {st : List Value} (C : Cx p s m args meth c D G bs cc nL RX1) {a : Nat} (ha : is S a 5) (hd : decode cc pc = .ok (.getfield 158, 3)) (kk : V p l e R s m args below meth c D G bs nL Q cells slots S (pc + 3) lv (.int (mI S 323 a) :: st)) : V p l e R s m args below meth c D G bs nL Q cells slots S (pc) lv (.ref a :: st) := v_get C ha (by decide) rfl inlX5 (k := 3) (by decide) wd651 rfl rfl hd kk
theorem g1_161 {p : Program} {l : Launch} {e : Env} {R : Room} {s : State} {m : MethodId} {args : Array Value} {below : List Frame} {meth : Method} {c : Code} {D : va_G} {G : Nat → ClassId} {bs nL cells slots pc : Nat} {cc : ByteArray} {Q : State → Prop} {S : Mem} {lv : List (Option Value)} {st : List Value} (C : Cx p s m args meth c D G bs cc nL RX1) {a : Nat} (ha : is S a 5) (hd : decode cc pc = .ok (.getfield 161, 3)) (kk : V p l e R s m args below meth c D G bs nL Q cells slots S (pc + 3) lv (.int (mI S 322 a) :: st)) : V p l e R s m args below meth c D G bs nL Q cells slots S (pc) lv (.ref a :: st) := v_get C ha (by decide) rfl inlX5 (k := 2) (by decide) wd652 rfl rfl hd kk
theorem g1_164 {p : Program} {l : Launch} {e : Env} {R : Room} {s : State} {m : MethodId} {args : Array Value} {below : List Frame} {meth : Method} {c : Code} {D : va_G} {G : Nat → ClassId} {bs nL cells slots pc : Nat} {cc : ByteArray} {Q : State → Prop} {S : Mem} {lv : List (Option Value)} {st : List Value} (C : Cx p s m args meth c D G bs cc nL RX1) {a : Nat} (ha : is S a 5) (hd : decode cc pc = .ok (.getfield 164, 3)) (kk : V p l e R s m args below meth c D G bs nL Q cells slots S (pc + 3) lv (.int (mI S 328 a) :: st)) : V p l e R s m args below meth c D G bs nL Q cells slots S (pc) lv (.ref a :: st) := v_get C ha (by decide) rfl inlX5 (k := 8) (by decide) wd653 rfl rfl hd kk
theorem p1_164 {p : Program} {l : Launch} {e : Env} {R : Room} {s : State} {m : MethodId} {args : Array Value} {below : List Frame} {meth : Method} {c : Code} {D : va_G} {G : Nat → ClassId} {bs nL cells slots pc : Nat} {cc : ByteArray} {Q : State → Prop} {S : Mem} {lv : List (Option Value)} {st : List Value} (C : Cx p s m args meth c D G bs cc nL RX1) {a : Nat} (ha : is S a 5) {v : Int32} (hd : decode cc pc = .ok (.putfield 164, 3)) (kk : V p l e R s m args below meth c D G bs nL Q cells slots (sI S 328 a v) (pc + 3) lv (st)) : V p l e R s m args below meth c D G bs nL Q cells slots S (pc) lv (.int v :: .ref a :: st) := v_put (S' := sI S 328 a v) C ha (by decide) rfl inlX5 tyX5_ok nmX5 (k := 8) (by decide) wd653 rfl (Or.inl rfl) (tyX5_ok 8 (by decide)) rfl rfl (by decide) rfl (cell_sI (G := G) (S := S) (k := 8) v ha.2 (by decide) rfl) hd kk
theorem g1_167 {p : Program} {l : Launch} {e : Env} {R : Room} {s : State} {m : MethodId} {args : Array Value} {below : List Frame} {meth : Method} {c : Code} {D : va_G} {G : Nat → ClassId} {bs nL cells slots pc : Nat} {cc : ByteArray} {Q : State → Prop} {S : Mem} {lv : List (Option Value)} {st : List Value} (C : Cx p s m args meth c D G bs cc nL RX1) {a : Nat} (ha : is S a 0) (hd : decode cc pc = .ok (.getfield 167, 3)) (kk : V p l e R s m args below meth c D G bs nL Q cells slots S (pc + 3) lv (.int (mI S 3 a) :: st)) : V p l e R s m args below meth c D G bs nL Q cells slots S (pc) lv (.ref a :: st) := v_get C ha (by decide) rfl inlX0 (k := 3) (by decide) wd654 rfl rfl hd kk
theorem p1_167 {p : Program} {l : Launch} {e : Env} {R : Room} {s : State} {m : MethodId} {args : Array Value} {below : List Frame} {meth : Method} {c : Code} {D : va_G} {G : Nat → ClassId} {bs nL cells slots pc : Nat} {cc : ByteArray} {Q : State → Prop} {S : Mem} {lv : List (Option Value)} {st : List Value} (C : Cx p s m args meth c D G bs cc nL RX1) {a : Nat} (ha : is S a 0) {v : Int32} (hd : decode cc pc = .ok (.putfield 167, 3)) (kk : V p l e R s m args below meth c D G bs nL Q cells slots (sI S 3 a v) (pc + 3) lv (st)) : V p l e R s m args below meth c D G bs nL Q cells slots S (pc) lv (.int v :: .ref a :: st) := v_put (S' := sI S 3 a v) C ha (by decide) rfl inlX0 tyX0_ok nmX0 (k := 3) (by decide) wd654 rfl (Or.inl rfl) (tyX0_ok 3 (by decide)) rfl rfl (by decide) rfl (cell_sI (G := G) (S := S) (k := 3) v ha.2 (by decide) rfl) hd kk
theorem g1_170 {p : Program} {l : Launch} {e : Env} {R : Room} {s : State} {m : MethodId} {args : Array Value} {below : List Frame} {meth : Method} {c : Code} {D : va_G} {G : Nat → ClassId} {bs nL cells slots pc : Nat} {cc : ByteArray} {Q : State → Prop} {S : Mem} {lv : List (Option Value)} {st : List Value} (C : Cx p s m args meth c D G bs cc nL RX1) {a : Nat} (ha : is S a 5) (hd : decode cc pc = .ok (.getfield 170, 3)) (kk : V p l e R s m args below meth c D G bs nL Q cells slots S (pc + 3) lv (.int (mI S 320 a) :: st)) : V p l e R s m args below meth c D G bs nL Q cells slots S (pc) lv (.ref a :: st) := v_get C ha (by decide) rfl inlX5 (k := 0) (by decide) wd680 rfl rfl hd kk
theorem g1_120 {p : Program} {l : Launch} {e : Env} {R : Room} {s : State} {m : MethodId} {args : Array Value} {below : List Frame} {meth : Method} {c : Code} {D : va_G} {G : Nat → ClassId} {bs nL cells slots pc : Nat} {cc : ByteArray} {Q : State → Prop} {S : Mem} {lv : List (Option Value)} {st : List Value} (C : Cx p s m args meth c D G bs cc nL RX1) {a : Nat} (ha : is S a 5) (hd : decode cc pc = .ok (.getfield 120, 3)) (kk : V p l e R s m args below meth c D G bs nL Q cells slots S (pc + 3) lv (.int (mI S 324 a) :: st)) : V p l e R s m args below meth c D G bs nL Q cells slots S (pc) lv (.ref a :: st) := v_get C ha (by decide) rfl inlX5 (k := 4) (by decide) wd685 rfl rfl hd kk
theorem g6_22 {p : Program} {l : Launch} {e : Env} {R : Room} {s : State} {m : MethodId} {args : Array Value} {below : List Frame} {meth : Method} {c : Code} {D : va_G} {G : Nat → ClassId} {bs nL cells slots pc : Nat} {cc : ByteArray} {Q : State → Prop} {S : Mem} {lv : List (Option Value)} {st : List Value} (C : Cx p s m args meth c D G bs cc nL RX6) {a : Nat} (ha : is S a 7) (hd : decode cc pc = .ok (.getfield 22, 3)) (kk : V p l e R s m args below meth c D G bs nL Q cells slots S (pc + 3) lv (.int (mI S 449 a) :: st)) : V p l e R s m args below meth c D G bs nL Q cells slots S (pc) lv (.ref a :: st) := v_get C ha (by decide) rfl inlX7 (k := 1) (by decide) wd720 rfl rfl hd kk
theorem p6_22 {p : Program} {l : Launch} {e : Env} {R : Room} {s : State} {m : MethodId} {args : Array Value} {below : List Frame} {meth : Method} {c : Code} {D : va_G} {G : Nat → ClassId} {bs nL cells slots pc : Nat} {cc : ByteArray} {Q : State → Prop} {S : Mem} {lv : List (Option Value)} {st : List Value} (C : Cx p s m args meth c D G bs cc nL RX6) {a : Nat} (ha : is S a 7) {v : Int32} (hd : decode cc pc = .ok (.putfield 22, 3)) (kk : V p l e R s m args below meth c D G bs nL Q cells slots (sI S 449 a v) (pc + 3) lv (st)) : V p l e R s m args below meth c D G bs nL Q cells slots S (pc) lv (.int v :: .ref a :: st) := v_put (S' := sI S 449 a v) C ha (by decide) rfl inlX7 tyX7_ok nmX7 (k := 1) (by decide) wd720 rfl (Or.inl rfl) (tyX7_ok 1 (by decide)) rfl rfl (by decide) rfl (cell_sI (G := G) (S := S) (k := 1) v ha.2 (by decide) rfl) hd kk
theorem g6_26 {p : Program} {l : Launch} {e : Env} {R : Room} {s : State} {m : MethodId} {args : Array Value} {below : List Frame} {meth : Method} {c : Code} {D : va_G} {G : Nat → ClassId} {bs nL cells slots pc : Nat} {cc : ByteArray} {Q : State → Prop} {S : Mem} {lv : List (Option Value)} {st : List Value} (C : Cx p s m args meth c D G bs cc nL RX6) {a : Nat} (ha : is S a 6) (hd : decode cc pc = .ok (.getfield 26, 3)) (kk : V p l e R s m args below meth c D G bs nL Q cells slots S (pc + 3) lv (.int (mI S 386 a) :: st)) : V p l e R s m args below meth c D G bs nL Q cells slots S (pc) lv (.ref a :: st) := v_get C ha (by decide) rfl inlX6 (k := 2) (by decide) wd721 rfl rfl hd kk
theorem p6_26 {p : Program} {l : Launch} {e : Env} {R : Room} {s : State} {m : MethodId} {args : Array Value} {below : List Frame} {meth : Method} {c : Code} {D : va_G} {G : Nat → ClassId} {bs nL cells slots pc : Nat} {cc : ByteArray} {Q : State → Prop} {S : Mem} {lv : List (Option Value)} {st : List Value} (C : Cx p s m args meth c D G bs cc nL RX6) {a : Nat} (ha : is S a 6) {v : Int32} (hd : decode cc pc = .ok (.putfield 26, 3)) (kk : V p l e R s m args below meth c D G bs nL Q cells slots (sI S 386 a v) (pc + 3) lv (st)) : V p l e R s m args below meth c D G bs nL Q cells slots S (pc) lv (.int v :: .ref a :: st) := v_put (S' := sI S 386 a v) C ha (by decide) rfl inlX6 tyX6_ok nmX6 (k := 2) (by decide) wd721 rfl (Or.inl rfl) (tyX6_ok 2 (by decide)) rfl rfl (by decide) rfl (cell_sI (G := G) (S := S) (k := 2) v ha.2 (by decide) rfl) hd kk
theorem g6_29 {p : Program} {l : Launch} {e : Env} {R : Room} {s : State} {m : MethodId} {args : Array Value} {below : List Frame} {meth : Method} {c : Code} {D : va_G} {G : Nat → ClassId} {bs nL cells slots pc : Nat} {cc : ByteArray} {Q : State → Prop} {S : Mem} {lv : List (Option Value)} {st : List Value} (C : Cx p s m args meth c D G bs cc nL RX6) {a : Nat} (ha : is S a 6) (hd : decode cc pc = .ok (.getfield 29, 3)) (kk : V p l e R s m args below meth c D G bs nL Q cells slots S (pc + 3) lv (.int (mI S 388 a) :: st)) : V p l e R s m args below meth c D G bs nL Q cells slots S (pc) lv (.ref a :: st) := v_get C ha (by decide) rfl inlX6 (k := 4) (by decide) wd722 rfl rfl hd kk
theorem p6_29 {p : Program} {l : Launch} {e : Env} {R : Room} {s : State} {m : MethodId} {args : Array Value} {below : List Frame} {meth : Method} {c : Code} {D : va_G} {G : Nat → ClassId} {bs nL cells slots pc : Nat} {cc : ByteArray} {Q : State → Prop} {S : Mem} {lv : List (Option Value)} {st : List Value} (C : Cx p s m args meth c D G bs cc nL RX6) {a : Nat} (ha : is S a 6) {v : Int32} (hd : decode cc pc = .ok (.putfield 29, 3)) (kk : V p l e R s m args below meth c D G bs nL Q cells slots (sI S 388 a v) (pc + 3) lv (st)) : V p l e R s m args below meth c D G bs nL Q cells slots S (pc) lv (.int v :: .ref a :: st) := v_put (S' := sI S 388 a v) C ha (by decide) rfl inlX6 tyX6_ok nmX6 (k := 4) (by decide) wd722 rfl (Or.inl rfl) (tyX6_ok 4 (by decide)) rfl rfl (by decide) rfl (cell_sI (G := G) (S := S) (k := 4) v ha.2 (by decide) rfl) hd kk
theorem g6_32 {p : Program} {l : Launch} {e : Env} {R : Room} {s : State} {m : MethodId} {args : Array Value} {below : List Frame} {meth : Method} {c : Code} {D : va_G} {G : Nat → ClassId} {bs nL cells slots pc : Nat} {cc : ByteArray} {Q : State → Prop} {S : Mem} {lv : List (Option Value)} {st : List Value} (C : Cx p s m args meth c D G bs cc nL RX6) {a : Nat} (ha : is S a 6) (hd : decode cc pc = .ok (.getfield 32, 3)) (kk : V p l e R s m args below meth c D G bs nL Q cells slots S (pc + 3) lv (.int (mI S 389 a) :: st)) : V p l e R s m args below meth c D G bs nL Q cells slots S (pc) lv (.ref a :: st) := v_get C ha (by decide) rfl inlX6 (k := 5) (by decide) wd723 rfl rfl hd kk
theorem p6_32 {p : Program} {l : Launch} {e : Env} {R : Room} {s : State} {m : MethodId} {args : Array Value} {below : List Frame} {meth : Method} {c : Code} {D : va_G} {G : Nat → ClassId} {bs nL cells slots pc : Nat} {cc : ByteArray} {Q : State → Prop} {S : Mem} {lv : List (Option Value)} {st : List Value} (C : Cx p s m args meth c D G bs cc nL RX6) {a : Nat} (ha : is S a 6) {v : Int32} (hd : decode cc pc = .ok (.putfield 32, 3)) (kk : V p l e R s m args below meth c D G bs nL Q cells slots (sI S 389 a v) (pc + 3) lv (st)) : V p l e R s m args below meth c D G bs nL Q cells slots S (pc) lv (.int v :: .ref a :: st) := v_put (S' := sI S 389 a v) C ha (by decide) rfl inlX6 tyX6_ok nmX6 (k := 5) (by decide) wd723 rfl (Or.inl rfl) (tyX6_ok 5 (by decide)) rfl rfl (by decide) rfl (cell_sI (G := G) (S := S) (k := 5) v ha.2 (by decide) rfl) hd kk
theorem g6_39 {p : Program} {l : Launch} {e : Env} {R : Room} {s : State} {m : MethodId} {args : Array Value} {below : List Frame} {meth : Method} {c : Code} {D : va_G} {G : Nat → ClassId} {bs nL cells slots pc : Nat} {cc : ByteArray} {Q : State → Prop} {S : Mem} {lv : List (Option Value)} {st : List Value} (C : Cx p s m args meth c D G bs cc nL RX6) {a : Nat} (ha : is S a 6) (hd : decode cc pc = .ok (.getfield 39, 3)) (kk : V p l e R s m args below meth c D G bs nL Q cells slots S (pc + 3) lv (.long (mJ S 390 a) :: st)) : V p l e R s m args below meth c D G bs nL Q cells slots S (pc) lv (.ref a :: st) := v_get C ha (by decide) rfl inlX6 (k := 6) (by decide) wd724 rfl rfl hd kk
theorem p6_39 {p : Program} {l : Launch} {e : Env} {R : Room} {s : State} {m : MethodId} {args : Array Value} {below : List Frame} {meth : Method} {c : Code} {D : va_G} {G : Nat → ClassId} {bs nL cells slots pc : Nat} {cc : ByteArray} {Q : State → Prop} {S : Mem} {lv : List (Option Value)} {st : List Value} (C : Cx p s m args meth c D G bs cc nL RX6) {a : Nat} (ha : is S a 6) {v : Int64} (hd : decode cc pc = .ok (.putfield 39, 3)) (kk : V p l e R s m args below meth c D G bs nL Q cells slots (sJ S 390 a v) (pc + 3) lv (st)) : V p l e R s m args below meth c D G bs nL Q cells slots S (pc) lv (.long v :: .ref a :: st) := v_put (S' := sJ S 390 a v) C ha (by decide) rfl inlX6 tyX6_ok nmX6 (k := 6) (by decide) wd724 rfl (Or.inl rfl) (tyX6_ok 6 (by decide)) rfl rfl (by decide) rfl (cell_sJ (G := G) (S := S) (k := 6) v ha.2 (by decide) rfl) hd kk
theorem g6_52 {p : Program} {l : Launch} {e : Env} {R : Room} {s : State} {m : MethodId} {args : Array Value} {below : List Frame} {meth : Method} {c : Code} {D : va_G} {G : Nat → ClassId} {bs nL cells slots pc : Nat} {cc : ByteArray} {Q : State → Prop} {S : Mem} {lv : List (Option Value)} {st : List Value} (C : Cx p s m args meth c D G bs cc nL RX6) {a : Nat} (ha : is S a 0) (hd : decode cc pc = .ok (.getfield 52, 3)) (kk : V p l e R s m args below meth c D G bs nL Q cells slots S (pc + 3) lv (va_rf (mO S 1 a) :: st)) : V p l e R s m args below meth c D G bs nL Q cells slots S (pc) lv (.ref a :: st) := v_get C ha (by decide) rfl inlX0 (k := 1) (by decide) wd729 rfl rfl hd kk
theorem r6_52 {p : Program} {l : Launch} {e : Env} {R : Room} {s : State} {m : MethodId} {args : Array Value} {below : List Frame} {meth : Method} {c : Code} {D : va_G} {G : Nat → ClassId} {bs nL cells slots pc : Nat} {cc : ByteArray} {Q : State → Prop} {S : Mem} {lv : List (Option Value)} {st : List Value} (C : Cx p s m args meth c D G bs cc nL RX6) {a : Nat} (ha : is S a 0) {b : Nat} (hb : mO S 1 a = some b) (hd : decode cc pc = .ok (.getfield 52, 3)) (kk : V p l e R s m args below meth c D G bs nL Q cells slots S (pc + 3) lv (.ref b :: st)) : V p l e R s m args below meth c D G bs nL Q cells slots S (pc) lv (.ref a :: st) := g6_52 C ha hd (by rw [hb]; exact kk)
theorem p6_52 {p : Program} {l : Launch} {e : Env} {R : Room} {s : State} {m : MethodId} {args : Array Value} {below : List Frame} {meth : Method} {c : Code} {D : va_G} {G : Nat → ClassId} {bs nL cells slots pc : Nat} {cc : ByteArray} {Q : State → Prop} {S : Mem} {lv : List (Option Value)} {st : List Value} (C : Cx p s m args meth c D G bs cc nL RX6) {a : Nat} (ha : is S a 0) {v : Option Nat} (hd : decode cc pc = .ok (.putfield 52, 3)) (kk : V p l e R s m args below meth c D G bs nL Q cells slots (sO S 1 a v) (pc + 3) lv (st)) : V p l e R s m args below meth c D G bs nL Q cells slots S (pc) lv (va_rf v :: .ref a :: st) := v_put (S' := sO S 1 a v) C ha (by decide) rfl inlX0 tyX0_ok nmX0 (k := 1) (by decide) wd729 rfl (Or.inl rfl) (tyX0_ok 1 (by decide)) (by cases v <;> rfl) (by cases v <;> rfl) (by decide) rfl (cell_sO (G := G) (S := S) (k := 1) v ha.2 (by decide) rfl) hd kk
theorem g6_58 {p : Program} {l : Launch} {e : Env} {R : Room} {s : State} {m : MethodId} {args : Array Value} {below : List Frame} {meth : Method} {c : Code} {D : va_G} {G : Nat → ClassId} {bs nL cells slots pc : Nat} {cc : ByteArray} {Q : State → Prop} {S : Mem} {lv : List (Option Value)} {st : List Value} (C : Cx p s m args meth c D G bs cc nL RX6) {a : Nat} (ha : is S a 0) (hd : decode cc pc = .ok (.getfield 58, 3)) (kk : V p l e R s m args below meth c D G bs nL Q cells slots S (pc + 3) lv (.int (mI S 2 a) :: st)) : V p l e R s m args below meth c D G bs nL Q cells slots S (pc) lv (.ref a :: st) := v_get C ha (by decide) rfl inlX0 (k := 2) (by decide) wd730 rfl rfl hd kk
theorem p6_58 {p : Program} {l : Launch} {e : Env} {R : Room} {s : State} {m : MethodId} {args : Array Value} {below : List Frame} {meth : Method} {c : Code} {D : va_G} {G : Nat → ClassId} {bs nL cells slots pc : Nat} {cc : ByteArray} {Q : State → Prop} {S : Mem} {lv : List (Option Value)} {st : List Value} (C : Cx p s m args meth c D G bs cc nL RX6) {a : Nat} (ha : is S a 0) {v : Int32} (hd : decode cc pc = .ok (.putfield 58, 3)) (kk : V p l e R s m args below meth c D G bs nL Q cells slots (sI S 2 a v) (pc + 3) lv (st)) : V p l e R s m args below meth c D G bs nL Q cells slots S (pc) lv (.int v :: .ref a :: st) := v_put (S' := sI S 2 a v) C ha (by decide) rfl inlX0 tyX0_ok nmX0 (k := 2) (by decide) wd730 rfl (Or.inl rfl) (tyX0_ok 2 (by decide)) rfl rfl (by decide) rfl (cell_sI (G := G) (S := S) (k := 2) v ha.2 (by decide) rfl) hd kk
theorem g6_65 {p : Program} {l : Launch} {e : Env} {R : Room} {s : State} {m : MethodId} {args : Array Value} {below : List Frame} {meth : Method} {c : Code} {D : va_G} {G : Nat → ClassId} {bs nL cells slots pc : Nat} {cc : ByteArray} {Q : State → Prop} {S : Mem} {lv : List (Option Value)} {st : List Value} (C : Cx p s m args meth c D G bs cc nL RX6) {a : Nat} (ha : is S a 5) (hd : decode cc pc = .ok (.getfield 65, 3)) (kk : V p l e R s m args below meth c D G bs nL Q cells slots S (pc + 3) lv (.int (mI S 322 a) :: st)) : V p l e R s m args below meth c D G bs nL Q cells slots S (pc) lv (.ref a :: st) := v_get C ha (by decide) rfl inlX5 (k := 2) (by decide) wd731 rfl rfl hd kk
theorem g6_78 {p : Program} {l : Launch} {e : Env} {R : Room} {s : State} {m : MethodId} {args : Array Value} {below : List Frame} {meth : Method} {c : Code} {D : va_G} {G : Nat → ClassId} {bs nL cells slots pc : Nat} {cc : ByteArray} {Q : State → Prop} {S : Mem} {lv : List (Option Value)} {st : List Value} (C : Cx p s m args meth c D G bs cc nL RX6) {a : Nat} (ha : is S a 2) (hd : decode cc pc = .ok (.getfield 78, 3)) (kk : V p l e R s m args below meth c D G bs nL Q cells slots S (pc + 3) lv (.int (mI S 128 a) :: st)) : V p l e R s m args below meth c D G bs nL Q cells slots S (pc) lv (.ref a :: st) := v_get C ha (by decide) rfl inlX2 (k := 0) (by decide) wd740 rfl rfl hd kk
theorem g6_83 {p : Program} {l : Launch} {e : Env} {R : Room} {s : State} {m : MethodId} {args : Array Value} {below : List Frame} {meth : Method} {c : Code} {D : va_G} {G : Nat → ClassId} {bs nL cells slots pc : Nat} {cc : ByteArray} {Q : State → Prop} {S : Mem} {lv : List (Option Value)} {st : List Value} (C : Cx p s m args meth c D G bs cc nL RX6) {a : Nat} (ha : is S a 2) (hd : decode cc pc = .ok (.getfield 83, 3)) (kk : V p l e R s m args below meth c D G bs nL Q cells slots S (pc + 3) lv (.int (mI S 129 a) :: st)) : V p l e R s m args below meth c D G bs nL Q cells slots S (pc) lv (.ref a :: st) := v_get C ha (by decide) rfl inlX2 (k := 1) (by decide) wd741 rfl rfl hd kk
theorem g6_43 {p : Program} {l : Launch} {e : Env} {R : Room} {s : State} {m : MethodId} {args : Array Value} {below : List Frame} {meth : Method} {c : Code} {D : va_G} {G : Nat → ClassId} {bs nL cells slots pc : Nat} {cc : ByteArray} {Q : State → Prop} {S : Mem} {lv : List (Option Value)} {st : List Value} (C : Cx p s m args meth c D G bs cc nL RX6) {a : Nat} (ha : is S a 6) (hd : decode cc pc = .ok (.getfield 43, 3)) (kk : V p l e R s m args below meth c D G bs nL Q cells slots S (pc + 3) lv (.int (mI S 387 a) :: st)) : V p l e R s m args below meth c D G bs nL Q cells slots S (pc) lv (.ref a :: st) := v_get C ha (by decide) rfl inlX6 (k := 3) (by decide) wd762 rfl rfl hd kk
theorem p6_43 {p : Program} {l : Launch} {e : Env} {R : Room} {s : State} {m : MethodId} {args : Array Value} {below : List Frame} {meth : Method} {c : Code} {D : va_G} {G : Nat → ClassId} {bs nL cells slots pc : Nat} {cc : ByteArray} {Q : State → Prop} {S : Mem} {lv : List (Option Value)} {st : List Value} (C : Cx p s m args meth c D G bs cc nL RX6) {a : Nat} (ha : is S a 6) {v : Int32} (hd : decode cc pc = .ok (.putfield 43, 3)) (kk : V p l e R s m args below meth c D G bs nL Q cells slots (sI S 387 a v) (pc + 3) lv (st)) : V p l e R s m args below meth c D G bs nL Q cells slots S (pc) lv (.int v :: .ref a :: st) := v_put (S' := sI S 387 a v) C ha (by decide) rfl inlX6 tyX6_ok nmX6 (k := 3) (by decide) wd762 rfl (Or.inl rfl) (tyX6_ok 3 (by decide)) rfl rfl (by decide) rfl (cell_sI (G := G) (S := S) (k := 3) v ha.2 (by decide) rfl) hd kk
theorem g6_130 {p : Program} {l : Launch} {e : Env} {R : Room} {s : State} {m : MethodId} {args : Array Value} {below : List Frame} {meth : Method} {c : Code} {D : va_G} {G : Nat → ClassId} {bs nL cells slots pc : Nat} {cc : ByteArray} {Q : State → Prop} {S : Mem} {lv : List (Option Value)} {st : List Value} (C : Cx p s m args meth c D G bs cc nL RX6) {a : Nat} (ha : is S a 5) (hd : decode cc pc = .ok (.getfield 130, 3)) (kk : V p l e R s m args below meth c D G bs nL Q cells slots S (pc + 3) lv (.int (mI S 320 a) :: st)) : V p l e R s m args below meth c D G bs nL Q cells slots S (pc) lv (.ref a :: st) := v_get C ha (by decide) rfl inlX5 (k := 0) (by decide) wd780 rfl rfl hd kk
theorem g6_110 {p : Program} {l : Launch} {e : Env} {R : Room} {s : State} {m : MethodId} {args : Array Value} {below : List Frame} {meth : Method} {c : Code} {D : va_G} {G : Nat → ClassId} {bs nL cells slots pc : Nat} {cc : ByteArray} {Q : State → Prop} {S : Mem} {lv : List (Option Value)} {st : List Value} (C : Cx p s m args meth c D G bs cc nL RX6) {a : Nat} (ha : is S a 5) (hd : decode cc pc = .ok (.getfield 110, 3)) (kk : V p l e R s m args below meth c D G bs nL Q cells slots S (pc + 3) lv (.int (mI S 328 a) :: st)) : V p l e R s m args below meth c D G bs nL Q cells slots S (pc) lv (.ref a :: st) := v_get C ha (by decide) rfl inlX5 (k := 8) (by decide) wd787 rfl rfl hd kk
theorem p6_110 {p : Program} {l : Launch} {e : Env} {R : Room} {s : State} {m : MethodId} {args : Array Value} {below : List Frame} {meth : Method} {c : Code} {D : va_G} {G : Nat → ClassId} {bs nL cells slots pc : Nat} {cc : ByteArray} {Q : State → Prop} {S : Mem} {lv : List (Option Value)} {st : List Value} (C : Cx p s m args meth c D G bs cc nL RX6) {a : Nat} (ha : is S a 5) {v : Int32} (hd : decode cc pc = .ok (.putfield 110, 3)) (kk : V p l e R s m args below meth c D G bs nL Q cells slots (sI S 328 a v) (pc + 3) lv (st)) : V p l e R s m args below meth c D G bs nL Q cells slots S (pc) lv (.int v :: .ref a :: st) := v_put (S' := sI S 328 a v) C ha (by decide) rfl inlX5 tyX5_ok nmX5 (k := 8) (by decide) wd787 rfl (Or.inl rfl) (tyX5_ok 8 (by decide)) rfl rfl (by decide) rfl (cell_sI (G := G) (S := S) (k := 8) v ha.2 (by decide) rfl) hd kk
theorem g7_15 {p : Program} {l : Launch} {e : Env} {R : Room} {s : State} {m : MethodId} {args : Array Value} {below : List Frame} {meth : Method} {c : Code} {D : va_G} {G : Nat → ClassId} {bs nL cells slots pc : Nat} {cc : ByteArray} {Q : State → Prop} {S : Mem} {lv : List (Option Value)} {st : List Value} (C : Cx p s m args meth c D G bs cc nL RX7) {a : Nat} (ha : is S a 7) (hd : decode cc pc = .ok (.getfield 15, 3)) (kk : V p l e R s m args below meth c D G bs nL Q cells slots S (pc + 3) lv (.int (mI S 449 a) :: st)) : V p l e R s m args below meth c D G bs nL Q cells slots S (pc) lv (.ref a :: st) := v_get C ha (by decide) rfl inlX7 (k := 1) (by decide) wd803 rfl rfl hd kk
theorem p7_15 {p : Program} {l : Launch} {e : Env} {R : Room} {s : State} {m : MethodId} {args : Array Value} {below : List Frame} {meth : Method} {c : Code} {D : va_G} {G : Nat → ClassId} {bs nL cells slots pc : Nat} {cc : ByteArray} {Q : State → Prop} {S : Mem} {lv : List (Option Value)} {st : List Value} (C : Cx p s m args meth c D G bs cc nL RX7) {a : Nat} (ha : is S a 7) {v : Int32} (hd : decode cc pc = .ok (.putfield 15, 3)) (kk : V p l e R s m args below meth c D G bs nL Q cells slots (sI S 449 a v) (pc + 3) lv (st)) : V p l e R s m args below meth c D G bs nL Q cells slots S (pc) lv (.int v :: .ref a :: st) := v_put (S' := sI S 449 a v) C ha (by decide) rfl inlX7 tyX7_ok nmX7 (k := 1) (by decide) wd803 rfl (Or.inl rfl) (tyX7_ok 1 (by decide)) rfl rfl (by decide) rfl (cell_sI (G := G) (S := S) (k := 1) v ha.2 (by decide) rfl) hd kk
theorem g6_94 {p : Program} {l : Launch} {e : Env} {R : Room} {s : State} {m : MethodId} {args : Array Value} {below : List Frame} {meth : Method} {c : Code} {D : va_G} {G : Nat → ClassId} {bs nL cells slots pc : Nat} {cc : ByteArray} {Q : State → Prop} {S : Mem} {lv : List (Option Value)} {st : List Value} (C : Cx p s m args meth c D G bs cc nL RX6) {a : Nat} (ha : is S a 5) (hd : decode cc pc = .ok (.getfield 94, 3)) (kk : V p l e R s m args below meth c D G bs nL Q cells slots S (pc + 3) lv (.int (mI S 321 a) :: st)) : V p l e R s m args below meth c D G bs nL Q cells slots S (pc) lv (.ref a :: st) := v_get C ha (by decide) rfl inlX5 (k := 1) (by decide) wd813 rfl rfl hd kk
theorem g6_101 {p : Program} {l : Launch} {e : Env} {R : Room} {s : State} {m : MethodId} {args : Array Value} {below : List Frame} {meth : Method} {c : Code} {D : va_G} {G : Nat → ClassId} {bs nL cells slots pc : Nat} {cc : ByteArray} {Q : State → Prop} {S : Mem} {lv : List (Option Value)} {st : List Value} (C : Cx p s m args meth c D G bs cc nL RX6) {a : Nat} (ha : is S a 2) (hd : decode cc pc = .ok (.getfield 101, 3)) (kk : V p l e R s m args below meth c D G bs nL Q cells slots S (pc + 3) lv (va_rf (mO S 130 a) :: st)) : V p l e R s m args below meth c D G bs nL Q cells slots S (pc) lv (.ref a :: st) := v_get C ha (by decide) rfl inlX2 (k := 2) (by decide) wd814 rfl rfl hd kk
theorem r6_101 {p : Program} {l : Launch} {e : Env} {R : Room} {s : State} {m : MethodId} {args : Array Value} {below : List Frame} {meth : Method} {c : Code} {D : va_G} {G : Nat → ClassId} {bs nL cells slots pc : Nat} {cc : ByteArray} {Q : State → Prop} {S : Mem} {lv : List (Option Value)} {st : List Value} (C : Cx p s m args meth c D G bs cc nL RX6) {a : Nat} (ha : is S a 2) {b : Nat} (hb : mO S 130 a = some b) (hd : decode cc pc = .ok (.getfield 101, 3)) (kk : V p l e R s m args below meth c D G bs nL Q cells slots S (pc + 3) lv (.ref b :: st)) : V p l e R s m args below meth c D G bs nL Q cells slots S (pc) lv (.ref a :: st) := g6_101 C ha hd (by rw [hb]; exact kk)
theorem g6_105 {p : Program} {l : Launch} {e : Env} {R : Room} {s : State} {m : MethodId} {args : Array Value} {below : List Frame} {meth : Method} {c : Code} {D : va_G} {G : Nat → ClassId} {bs nL cells slots pc : Nat} {cc : ByteArray} {Q : State → Prop} {S : Mem} {lv : List (Option Value)} {st : List Value} (C : Cx p s m args meth c D G bs cc nL RX6) {a : Nat} (ha : is S a 3) (hd : decode cc pc = .ok (.getfield 105, 3)) (kk : V p l e R s m args below meth c D G bs nL Q cells slots S (pc + 3) lv (.int (mI S 194 a) :: st)) : V p l e R s m args below meth c D G bs nL Q cells slots S (pc) lv (.ref a :: st) := v_get C ha (by decide) rfl inlX3 (k := 2) (by decide) wd815 rfl rfl hd kk
theorem p6_105 {p : Program} {l : Launch} {e : Env} {R : Room} {s : State} {m : MethodId} {args : Array Value} {below : List Frame} {meth : Method} {c : Code} {D : va_G} {G : Nat → ClassId} {bs nL cells slots pc : Nat} {cc : ByteArray} {Q : State → Prop} {S : Mem} {lv : List (Option Value)} {st : List Value} (C : Cx p s m args meth c D G bs cc nL RX6) {a : Nat} (ha : is S a 3) {v : Int32} (hd : decode cc pc = .ok (.putfield 105, 3)) (kk : V p l e R s m args below meth c D G bs nL Q cells slots (sI S 194 a v) (pc + 3) lv (st)) : V p l e R s m args below meth c D G bs nL Q cells slots S (pc) lv (.int v :: .ref a :: st) := v_put (S' := sI S 194 a v) C ha (by decide) rfl inlX3 tyX3_ok nmX3 (k := 2) (by decide) wd815 rfl (Or.inl rfl) (tyX3_ok 2 (by decide)) rfl rfl (by decide) rfl (cell_sI (G := G) (S := S) (k := 2) v ha.2 (by decide) rfl) hd kk
theorem g1_182 {p : Program} {l : Launch} {e : Env} {R : Room} {s : State} {m : MethodId} {args : Array Value} {below : List Frame} {meth : Method} {c : Code} {D : va_G} {G : Nat → ClassId} {bs nL cells slots pc : Nat} {cc : ByteArray} {Q : State → Prop} {S : Mem} {lv : List (Option Value)} {st : List Value} (C : Cx p s m args meth c D G bs cc nL RX1) {a : Nat} (ha : is S a 5) (hd : decode cc pc = .ok (.getfield 182, 3)) (kk : V p l e R s m args below meth c D G bs nL Q cells slots S (pc + 3) lv (.int (mI S 321 a) :: st)) : V p l e R s m args below meth c D G bs nL Q cells slots S (pc) lv (.ref a :: st) := v_get C ha (by decide) rfl inlX5 (k := 1) (by decide) wd820 rfl rfl hd kk
theorem g10_266 {p : Program} {l : Launch} {e : Env} {R : Room} {s : State} {m : MethodId} {args : Array Value} {below : List Frame} {meth : Method} {c : Code} {D : va_G} {G : Nat → ClassId} {bs nL cells slots pc : Nat} {cc : ByteArray} {Q : State → Prop} {S : Mem} {lv : List (Option Value)} {st : List Value} (C : Cx p s m args meth c D G bs cc nL RX10) {a : Nat} (ha : is S a 10) (hd : decode cc pc = .ok (.getfield 266, 3)) (kk : V p l e R s m args below meth c D G bs nL Q cells slots S (pc + 3) lv (.int (mI S 689 a) :: st)) : V p l e R s m args below meth c D G bs nL Q cells slots S (pc) lv (.ref a :: st) := v_get C ha (by decide) rfl inlX10 (k := 49) (by decide) wd826 rfl rfl hd kk
theorem p10_266 {p : Program} {l : Launch} {e : Env} {R : Room} {s : State} {m : MethodId} {args : Array Value} {below : List Frame} {meth : Method} {c : Code} {D : va_G} {G : Nat → ClassId} {bs nL cells slots pc : Nat} {cc : ByteArray} {Q : State → Prop} {S : Mem} {lv : List (Option Value)} {st : List Value} (C : Cx p s m args meth c D G bs cc nL RX10) {a : Nat} (ha : is S a 10) {v : Int32} (hd : decode cc pc = .ok (.putfield 266, 3)) (kk : V p l e R s m args below meth c D G bs nL Q cells slots (sI S 689 a v) (pc + 3) lv (st)) : V p l e R s m args below meth c D G bs nL Q cells slots S (pc) lv (.int v :: .ref a :: st) := v_put (S' := sI S 689 a v) C ha (by decide) rfl inlX10 tyX10_ok nmX10 (k := 49) (by decide) wd826 rfl (Or.inl rfl) (tyX10_ok 49 (by decide)) rfl rfl (by decide) rfl (cell_sI (G := G) (S := S) (k := 49) v ha.2 (by decide) rfl) hd kk
theorem g10_281 {p : Program} {l : Launch} {e : Env} {R : Room} {s : State} {m : MethodId} {args : Array Value} {below : List Frame} {meth : Method} {c : Code} {D : va_G} {G : Nat → ClassId} {bs nL cells slots pc : Nat} {cc : ByteArray} {Q : State → Prop} {S : Mem} {lv : List (Option Value)} {st : List Value} (C : Cx p s m args meth c D G bs cc nL RX10) {a : Nat} (ha : is S a 10) (hd : decode cc pc = .ok (.getfield 281, 3)) (kk : V p l e R s m args below meth c D G bs nL Q cells slots S (pc + 3) lv (.int (mI S 686 a) :: st)) : V p l e R s m args below meth c D G bs nL Q cells slots S (pc) lv (.ref a :: st) := v_get C ha (by decide) rfl inlX10 (k := 46) (by decide) wd827 rfl rfl hd kk
theorem p10_281 {p : Program} {l : Launch} {e : Env} {R : Room} {s : State} {m : MethodId} {args : Array Value} {below : List Frame} {meth : Method} {c : Code} {D : va_G} {G : Nat → ClassId} {bs nL cells slots pc : Nat} {cc : ByteArray} {Q : State → Prop} {S : Mem} {lv : List (Option Value)} {st : List Value} (C : Cx p s m args meth c D G bs cc nL RX10) {a : Nat} (ha : is S a 10) {v : Int32} (hd : decode cc pc = .ok (.putfield 281, 3)) (kk : V p l e R s m args below meth c D G bs nL Q cells slots (sI S 686 a v) (pc + 3) lv (st)) : V p l e R s m args below meth c D G bs nL Q cells slots S (pc) lv (.int v :: .ref a :: st) := v_put (S' := sI S 686 a v) C ha (by decide) rfl inlX10 tyX10_ok nmX10 (k := 46) (by decide) wd827 rfl (Or.inl rfl) (tyX10_ok 46 (by decide)) rfl rfl (by decide) rfl (cell_sI (G := G) (S := S) (k := 46) v ha.2 (by decide) rfl) hd kk
theorem g10_243 {p : Program} {l : Launch} {e : Env} {R : Room} {s : State} {m : MethodId} {args : Array Value} {below : List Frame} {meth : Method} {c : Code} {D : va_G} {G : Nat → ClassId} {bs nL cells slots pc : Nat} {cc : ByteArray} {Q : State → Prop} {S : Mem} {lv : List (Option Value)} {st : List Value} (C : Cx p s m args meth c D G bs cc nL RX10) {a : Nat} (ha : is S a 10) (hd : decode cc pc = .ok (.getfield 243, 3)) (kk : V p l e R s m args below meth c D G bs nL Q cells slots S (pc + 3) lv (.int (mI S 687 a) :: st)) : V p l e R s m args below meth c D G bs nL Q cells slots S (pc) lv (.ref a :: st) := v_get C ha (by decide) rfl inlX10 (k := 47) (by decide) wd828 rfl rfl hd kk
theorem p10_243 {p : Program} {l : Launch} {e : Env} {R : Room} {s : State} {m : MethodId} {args : Array Value} {below : List Frame} {meth : Method} {c : Code} {D : va_G} {G : Nat → ClassId} {bs nL cells slots pc : Nat} {cc : ByteArray} {Q : State → Prop} {S : Mem} {lv : List (Option Value)} {st : List Value} (C : Cx p s m args meth c D G bs cc nL RX10) {a : Nat} (ha : is S a 10) {v : Int32} (hd : decode cc pc = .ok (.putfield 243, 3)) (kk : V p l e R s m args below meth c D G bs nL Q cells slots (sI S 687 a v) (pc + 3) lv (st)) : V p l e R s m args below meth c D G bs nL Q cells slots S (pc) lv (.int v :: .ref a :: st) := v_put (S' := sI S 687 a v) C ha (by decide) rfl inlX10 tyX10_ok nmX10 (k := 47) (by decide) wd828 rfl (Or.inl rfl) (tyX10_ok 47 (by decide)) rfl rfl (by decide) rfl (cell_sI (G := G) (S := S) (k := 47) v ha.2 (by decide) rfl) hd kk
theorem g10_272 {p : Program} {l : Launch} {e : Env} {R : Room} {s : State} {m : MethodId} {args : Array Value} {below : List Frame} {meth : Method} {c : Code} {D : va_G} {G : Nat → ClassId} {bs nL cells slots pc : Nat} {cc : ByteArray} {Q : State → Prop} {S : Mem} {lv : List (Option Value)} {st : List Value} (C : Cx p s m args meth c D G bs cc nL RX10) {a : Nat} (ha : is S a 10) (hd : decode cc pc = .ok (.getfield 272, 3)) (kk : V p l e R s m args below meth c D G bs nL Q cells slots S (pc + 3) lv (.int (mI S 688 a) :: st)) : V p l e R s m args below meth c D G bs nL Q cells slots S (pc) lv (.ref a :: st) := v_get C ha (by decide) rfl inlX10 (k := 48) (by decide) wd829 rfl rfl hd kk
theorem p10_272 {p : Program} {l : Launch} {e : Env} {R : Room} {s : State} {m : MethodId} {args : Array Value} {below : List Frame} {meth : Method} {c : Code} {D : va_G} {G : Nat → ClassId} {bs nL cells slots pc : Nat} {cc : ByteArray} {Q : State → Prop} {S : Mem} {lv : List (Option Value)} {st : List Value} (C : Cx p s m args meth c D G bs cc nL RX10) {a : Nat} (ha : is S a 10) {v : Int32} (hd : decode cc pc = .ok (.putfield 272, 3)) (kk : V p l e R s m args below meth c D G bs nL Q cells slots (sI S 688 a v) (pc + 3) lv (st)) : V p l e R s m args below meth c D G bs nL Q cells slots S (pc) lv (.int v :: .ref a :: st) := v_put (S' := sI S 688 a v) C ha (by decide) rfl inlX10 tyX10_ok nmX10 (k := 48) (by decide) wd829 rfl (Or.inl rfl) (tyX10_ok 48 (by decide)) rfl rfl (by decide) rfl (cell_sI (G := G) (S := S) (k := 48) v ha.2 (by decide) rfl) hd kk
theorem g10_236 {p : Program} {l : Launch} {e : Env} {R : Room} {s : State} {m : MethodId} {args : Array Value} {below : List Frame} {meth : Method} {c : Code} {D : va_G} {G : Nat → ClassId} {bs nL cells slots pc : Nat} {cc : ByteArray} {Q : State → Prop} {S : Mem} {lv : List (Option Value)} {st : List Value} (C : Cx p s m args meth c D G bs cc nL RX10) {a : Nat} (ha : is S a 10) (hd : decode cc pc = .ok (.getfield 236, 3)) (kk : V p l e R s m args below meth c D G bs nL Q cells slots S (pc + 3) lv (.int (mI S 682 a) :: st)) : V p l e R s m args below meth c D G bs nL Q cells slots S (pc) lv (.ref a :: st) := v_get C ha (by decide) rfl inlX10 (k := 42) (by decide) wd830 rfl rfl hd kk
theorem p10_236 {p : Program} {l : Launch} {e : Env} {R : Room} {s : State} {m : MethodId} {args : Array Value} {below : List Frame} {meth : Method} {c : Code} {D : va_G} {G : Nat → ClassId} {bs nL cells slots pc : Nat} {cc : ByteArray} {Q : State → Prop} {S : Mem} {lv : List (Option Value)} {st : List Value} (C : Cx p s m args meth c D G bs cc nL RX10) {a : Nat} (ha : is S a 10) {v : Int32} (hd : decode cc pc = .ok (.putfield 236, 3)) (kk : V p l e R s m args below meth c D G bs nL Q cells slots (sI S 682 a v) (pc + 3) lv (st)) : V p l e R s m args below meth c D G bs nL Q cells slots S (pc) lv (.int v :: .ref a :: st) := v_put (S' := sI S 682 a v) C ha (by decide) rfl inlX10 tyX10_ok nmX10 (k := 42) (by decide) wd830 rfl (Or.inl rfl) (tyX10_ok 42 (by decide)) rfl rfl (by decide) rfl (cell_sI (G := G) (S := S) (k := 42) v ha.2 (by decide) rfl) hd kk
theorem g10_292 {p : Program} {l : Launch} {e : Env} {R : Room} {s : State} {m : MethodId} {args : Array Value} {below : List Frame} {meth : Method} {c : Code} {D : va_G} {G : Nat → ClassId} {bs nL cells slots pc : Nat} {cc : ByteArray} {Q : State → Prop} {S : Mem} {lv : List (Option Value)} {st : List Value} (C : Cx p s m args meth c D G bs cc nL RX10) {a : Nat} (ha : is S a 10) (hd : decode cc pc = .ok (.getfield 292, 3)) (kk : V p l e R s m args below meth c D G bs nL Q cells slots S (pc + 3) lv (.long (mJ S 684 a) :: st)) : V p l e R s m args below meth c D G bs nL Q cells slots S (pc) lv (.ref a :: st) := v_get C ha (by decide) rfl inlX10 (k := 44) (by decide) wd831 rfl rfl hd kk
theorem p10_292 {p : Program} {l : Launch} {e : Env} {R : Room} {s : State} {m : MethodId} {args : Array Value} {below : List Frame} {meth : Method} {c : Code} {D : va_G} {G : Nat → ClassId} {bs nL cells slots pc : Nat} {cc : ByteArray} {Q : State → Prop} {S : Mem} {lv : List (Option Value)} {st : List Value} (C : Cx p s m args meth c D G bs cc nL RX10) {a : Nat} (ha : is S a 10) {v : Int64} (hd : decode cc pc = .ok (.putfield 292, 3)) (kk : V p l e R s m args below meth c D G bs nL Q cells slots (sJ S 684 a v) (pc + 3) lv (st)) : V p l e R s m args below meth c D G bs nL Q cells slots S (pc) lv (.long v :: .ref a :: st) := v_put (S' := sJ S 684 a v) C ha (by decide) rfl inlX10 tyX10_ok nmX10 (k := 44) (by decide) wd831 rfl (Or.inl rfl) (tyX10_ok 44 (by decide)) rfl rfl (by decide) rfl (cell_sJ (G := G) (S := S) (k := 44) v ha.2 (by decide) rfl) hd kk
theorem g10_257 {p : Program} {l : Launch} {e : Env} {R : Room} {s : State} {m : MethodId} {args : Array Value} {below : List Frame} {meth : Method} {c : Code} {D : va_G} {G : Nat → ClassId} {bs nL cells slots pc : Nat} {cc : ByteArray} {Q : State → Prop} {S : Mem} {lv : List (Option Value)} {st : List Value} (C : Cx p s m args meth c D G bs cc nL RX10) {a : Nat} (ha : is S a 10) (hd : decode cc pc = .ok (.getfield 257, 3)) (kk : V p l e R s m args below meth c D G bs nL Q cells slots S (pc + 3) lv (.int (mI S 685 a) :: st)) : V p l e R s m args below meth c D G bs nL Q cells slots S (pc) lv (.ref a :: st) := v_get C ha (by decide) rfl inlX10 (k := 45) (by decide) wd832 rfl rfl hd kk
theorem p10_257 {p : Program} {l : Launch} {e : Env} {R : Room} {s : State} {m : MethodId} {args : Array Value} {below : List Frame} {meth : Method} {c : Code} {D : va_G} {G : Nat → ClassId} {bs nL cells slots pc : Nat} {cc : ByteArray} {Q : State → Prop} {S : Mem} {lv : List (Option Value)} {st : List Value} (C : Cx p s m args meth c D G bs cc nL RX10) {a : Nat} (ha : is S a 10) {v : Int32} (hd : decode cc pc = .ok (.putfield 257, 3)) (kk : V p l e R s m args below meth c D G bs nL Q cells slots (sI S 685 a v) (pc + 3) lv (st)) : V p l e R s m args below meth c D G bs nL Q cells slots S (pc) lv (.int v :: .ref a :: st) := v_put (S' := sI S 685 a v) C ha (by decide) rfl inlX10 tyX10_ok nmX10 (k := 45) (by decide) wd832 rfl (Or.inl rfl) (tyX10_ok 45 (by decide)) rfl rfl (by decide) rfl (cell_sI (G := G) (S := S) (k := 45) v ha.2 (by decide) rfl) hd kk
theorem g10_262 {p : Program} {l : Launch} {e : Env} {R : Room} {s : State} {m : MethodId} {args : Array Value} {below : List Frame} {meth : Method} {c : Code} {D : va_G} {G : Nat → ClassId} {bs nL cells slots pc : Nat} {cc : ByteArray} {Q : State → Prop} {S : Mem} {lv : List (Option Value)} {st : List Value} (C : Cx p s m args meth c D G bs cc nL RX10) {a : Nat} (ha : is S a 10) (hd : decode cc pc = .ok (.getfield 262, 3)) (kk : V p l e R s m args below meth c D G bs nL Q cells slots S (pc + 3) lv (.long (mJ S 683 a) :: st)) : V p l e R s m args below meth c D G bs nL Q cells slots S (pc) lv (.ref a :: st) := v_get C ha (by decide) rfl inlX10 (k := 43) (by decide) wd833 rfl rfl hd kk
theorem p10_262 {p : Program} {l : Launch} {e : Env} {R : Room} {s : State} {m : MethodId} {args : Array Value} {below : List Frame} {meth : Method} {c : Code} {D : va_G} {G : Nat → ClassId} {bs nL cells slots pc : Nat} {cc : ByteArray} {Q : State → Prop} {S : Mem} {lv : List (Option Value)} {st : List Value} (C : Cx p s m args meth c D G bs cc nL RX10) {a : Nat} (ha : is S a 10) {v : Int64} (hd : decode cc pc = .ok (.putfield 262, 3)) (kk : V p l e R s m args below meth c D G bs nL Q cells slots (sJ S 683 a v) (pc + 3) lv (st)) : V p l e R s m args below meth c D G bs nL Q cells slots S (pc) lv (.long v :: .ref a :: st) := v_put (S' := sJ S 683 a v) C ha (by decide) rfl inlX10 tyX10_ok nmX10 (k := 43) (by decide) wd833 rfl (Or.inl rfl) (tyX10_ok 43 (by decide)) rfl rfl (by decide) rfl (cell_sJ (G := G) (S := S) (k := 43) v ha.2 (by decide) rfl) hd kk
theorem g9_181 {p : Program} {l : Launch} {e : Env} {R : Room} {s : State} {m : MethodId} {args : Array Value} {below : List Frame} {meth : Method} {c : Code} {D : va_G} {G : Nat → ClassId} {bs nL cells slots pc : Nat} {cc : ByteArray} {Q : State → Prop} {S : Mem} {lv : List (Option Value)} {st : List Value} (C : Cx p s m args meth c D G bs cc nL RX9) {a : Nat} (ha : is S a 6) (hd : decode cc pc = .ok (.getfield 181, 3)) (kk : V p l e R s m args below meth c D G bs nL Q cells slots S (pc + 3) lv (va_rf (mO S 385 a) :: st)) : V p l e R s m args below meth c D G bs nL Q cells slots S (pc) lv (.ref a :: st) := v_get C ha (by decide) rfl inlX6 (k := 1) (by decide) wd895 rfl rfl hd kk
theorem r9_181 {p : Program} {l : Launch} {e : Env} {R : Room} {s : State} {m : MethodId} {args : Array Value} {below : List Frame} {meth : Method} {c : Code} {D : va_G} {G : Nat → ClassId} {bs nL cells slots pc : Nat} {cc : ByteArray} {Q : State → Prop} {S : Mem} {lv : List (Option Value)} {st : List Value} (C : Cx p s m args meth c D G bs cc nL RX9) {a : Nat} (ha : is S a 6) {b : Nat} (hb : mO S 385 a = some b) (hd : decode cc pc = .ok (.getfield 181, 3)) (kk : V p l e R s m args below meth c D G bs nL Q cells slots S (pc + 3) lv (.ref b :: st)) : V p l e R s m args below meth c D G bs nL Q cells slots S (pc) lv (.ref a :: st) := g9_181 C ha hd (by rw [hb]; exact kk)
theorem g9_185 {p : Program} {l : Launch} {e : Env} {R : Room} {s : State} {m : MethodId} {args : Array Value} {below : List Frame} {meth : Method} {c : Code} {D : va_G} {G : Nat → ClassId} {bs nL cells slots pc : Nat} {cc : ByteArray} {Q : State → Prop} {S : Mem} {lv : List (Option Value)} {st : List Value} (C : Cx p s m args meth c D G bs cc nL RX9) {a : Nat} (ha : is S a 7) (hd : decode cc pc = .ok (.getfield 185, 3)) (kk : V p l e R s m args below meth c D G bs nL Q cells slots S (pc + 3) lv (.int (mI S 449 a) :: st)) : V p l e R s m args below meth c D G bs nL Q cells slots S (pc) lv (.ref a :: st) := v_get C ha (by decide) rfl inlX7 (k := 1) (by decide) wd896 rfl rfl hd kk
theorem p9_185 {p : Program} {l : Launch} {e : Env} {R : Room} {s : State} {m : MethodId} {args : Array Value} {below : List Frame} {meth : Method} {c : Code} {D : va_G} {G : Nat → ClassId} {bs nL cells slots pc : Nat} {cc : ByteArray} {Q : State → Prop} {S : Mem} {lv : List (Option Value)} {st : List Value} (C : Cx p s m args meth c D G bs cc nL RX9) {a : Nat} (ha : is S a 7) {v : Int32} (hd : decode cc pc = .ok (.putfield 185, 3)) (kk : V p l e R s m args below meth c D G bs nL Q cells slots (sI S 449 a v) (pc + 3) lv (st)) : V p l e R s m args below meth c D G bs nL Q cells slots S (pc) lv (.int v :: .ref a :: st) := v_put (S' := sI S 449 a v) C ha (by decide) rfl inlX7 tyX7_ok nmX7 (k := 1) (by decide) wd896 rfl (Or.inl rfl) (tyX7_ok 1 (by decide)) rfl rfl (by decide) rfl (cell_sI (G := G) (S := S) (k := 1) v ha.2 (by decide) rfl) hd kk
theorem g1_196 {p : Program} {l : Launch} {e : Env} {R : Room} {s : State} {m : MethodId} {args : Array Value} {below : List Frame} {meth : Method} {c : Code} {D : va_G} {G : Nat → ClassId} {bs nL cells slots pc : Nat} {cc : ByteArray} {Q : State → Prop} {S : Mem} {lv : List (Option Value)} {st : List Value} (C : Cx p s m args meth c D G bs cc nL RX1) {a : Nat} (ha : is S a 0) (hd : decode cc pc = .ok (.getfield 196, 3)) (kk : V p l e R s m args below meth c D G bs nL Q cells slots S (pc + 3) lv (.int (mI S 2 a) :: st)) : V p l e R s m args below meth c D G bs nL Q cells slots S (pc) lv (.ref a :: st) := v_get C ha (by decide) rfl inlX0 (k := 2) (by decide) wd957 rfl rfl hd kk
theorem p1_196 {p : Program} {l : Launch} {e : Env} {R : Room} {s : State} {m : MethodId} {args : Array Value} {below : List Frame} {meth : Method} {c : Code} {D : va_G} {G : Nat → ClassId} {bs nL cells slots pc : Nat} {cc : ByteArray} {Q : State → Prop} {S : Mem} {lv : List (Option Value)} {st : List Value} (C : Cx p s m args meth c D G bs cc nL RX1) {a : Nat} (ha : is S a 0) {v : Int32} (hd : decode cc pc = .ok (.putfield 196, 3)) (kk : V p l e R s m args below meth c D G bs nL Q cells slots (sI S 2 a v) (pc + 3) lv (st)) : V p l e R s m args below meth c D G bs nL Q cells slots S (pc) lv (.int v :: .ref a :: st) := v_put (S' := sI S 2 a v) C ha (by decide) rfl inlX0 tyX0_ok nmX0 (k := 2) (by decide) wd957 rfl (Or.inl rfl) (tyX0_ok 2 (by decide)) rfl rfl (by decide) rfl (cell_sI (G := G) (S := S) (k := 2) v ha.2 (by decide) rfl) hd kk
theorem g1_199 {p : Program} {l : Launch} {e : Env} {R : Room} {s : State} {m : MethodId} {args : Array Value} {below : List Frame} {meth : Method} {c : Code} {D : va_G} {G : Nat → ClassId} {bs nL cells slots pc : Nat} {cc : ByteArray} {Q : State → Prop} {S : Mem} {lv : List (Option Value)} {st : List Value} (C : Cx p s m args meth c D G bs cc nL RX1) {a : Nat} (ha : is S a 0) (hd : decode cc pc = .ok (.getfield 199, 3)) (kk : V p l e R s m args below meth c D G bs nL Q cells slots S (pc + 3) lv (.int (mI S 0 a) :: st)) : V p l e R s m args below meth c D G bs nL Q cells slots S (pc) lv (.ref a :: st) := v_get C ha (by decide) rfl inlX0 (k := 0) (by decide) wd963 rfl rfl hd kk
theorem p1_199 {p : Program} {l : Launch} {e : Env} {R : Room} {s : State} {m : MethodId} {args : Array Value} {below : List Frame} {meth : Method} {c : Code} {D : va_G} {G : Nat → ClassId} {bs nL cells slots pc : Nat} {cc : ByteArray} {Q : State → Prop} {S : Mem} {lv : List (Option Value)} {st : List Value} (C : Cx p s m args meth c D G bs cc nL RX1) {a : Nat} (ha : is S a 0) {v : Int32} (hd : decode cc pc = .ok (.putfield 199, 3)) (kk : V p l e R s m args below meth c D G bs nL Q cells slots (sI S 0 a v) (pc + 3) lv (st)) : V p l e R s m args below meth c D G bs nL Q cells slots S (pc) lv (.int v :: .ref a :: st) := v_put (S' := sI S 0 a v) C ha (by decide) rfl inlX0 tyX0_ok nmX0 (k := 0) (by decide) wd963 rfl (Or.inl rfl) (tyX0_ok 0 (by decide)) rfl rfl (by decide) rfl (cell_sI (G := G) (S := S) (k := 0) v ha.2 (by decide) rfl) hd kk
end
section
/-! small facts: the memory read behind its updates; kinds that stay; numbers -/
/-- the first n places of an int array get one value -/
def sFill (S : Mem) (a n : Nat) (v : Int32) : Mem := (mL S, mK S, mN S, mI S, mO S, mJ S, (fun a' i => if a' = a ∧ i < n then v else mA S a' i), mP S, mQ S)
theorem mL_sI (S : Mem) (g a : Nat) (v : Int32) : mL (sI S g a v) = mL S := Eq.mpr rfl rfl
theorem mL_sO (S : Mem) (g a : Nat) (v : Option Nat) : mL (sO S g a v) = mL S := Eq.mpr rfl rfl
theorem mL_sJ (S : Mem) (g a : Nat) (v : Int64) : mL (sJ S g a v) = mL S := Eq.mpr rfl rfl
theorem mL_sA (S : Mem) (a i : Nat) (v : Int32) : mL (sA S a i v) = mL S := Eq.mpr rfl rfl
theorem mL_sP (S : Mem) (a i : Nat) (v : Option Nat) : mL (sP S a i v) = mL S := Eq.mpr rfl rfl
theorem mL_sQ (S : Mem) (a i : Nat) (v : Int64) : mL (sQ S a i v) = mL S := Eq.mpr rfl rfl
theorem mL_sNew (S : Mem) (a ci : Nat) : mL (sNew S a ci) = mL S ++ [a] := Eq.mpr rfl rfl
theorem mL_sArr (S : Mem) (a kd n : Nat) : mL (sArr S a kd n) = mL S ++ [a] := Eq.mpr rfl rfl
theorem mL_sFill (S : Mem) (a n : Nat) (v : Int32) : mL (sFill S a n v) = mL S := Eq.mpr rfl rfl
theorem mK_sI (S : Mem) (g a : Nat) (v : Int32) : mK (sI S g a v) = mK S := Eq.mpr rfl rfl
theorem mK_sO (S : Mem) (g a : Nat) (v : Option Nat) : mK (sO S g a v) = mK S := Eq.mpr rfl rfl
theorem mK_sJ (S : Mem) (g a : Nat) (v : Int64) : mK (sJ S g a v) = mK S := Eq.mpr rfl rfl
theorem mK_sA (S : Mem) (a i : Nat) (v : Int32) : mK (sA S a i v) = mK S := Eq.mpr rfl rfl
theorem mK_sP (S : Mem) (a i : Nat) (v : Option Nat) : mK (sP S a i v) = mK S := Eq.mpr rfl rfl
theorem mK_sQ (S : Mem) (a i : Nat) (v : Int64) : mK (sQ S a i v) = mK S := Eq.mpr rfl rfl
theorem mK_sNew (S : Mem) (a ci : Nat) (b : Nat) : mK (sNew S a ci) b = if b = a then ci else mK S b := Eq.mpr rfl rfl
theorem mK_sArr (S : Mem) (a kd n : Nat) (b : Nat) : mK (sArr S a kd n) b = if b = a then kd else mK S b := Eq.mpr rfl rfl
theorem mK_sFill (S : Mem) (a n : Nat) (v : Int32) : mK (sFill S a n v) = mK S := Eq.mpr rfl rfl
theorem mN_sI (S : Mem) (g a : Nat) (v : Int32) : mN (sI S g a v) = mN S := Eq.mpr rfl rfl
theorem mN_sO (S : Mem) (g a : Nat) (v : Option Nat) : mN (sO S g a v) = mN S := Eq.mpr rfl rfl
theorem mN_sJ (S : Mem) (g a : Nat) (v : Int64) : mN (sJ S g a v) = mN S := Eq.mpr rfl rfl
theorem mN_sA (S : Mem) (a i : Nat) (v : Int32) : mN (sA S a i v) = mN S := Eq.mpr rfl rfl
theorem mN_sP (S : Mem) (a i : Nat) (v : Option Nat) : mN (sP S a i v) = mN S := Eq.mpr rfl rfl
theorem mN_sQ (S : Mem) (a i : Nat) (v : Int64) : mN (sQ S a i v) = mN S := Eq.mpr rfl rfl
theorem mN_sNew (S : Mem) (a ci : Nat) : mN (sNew S a ci) = mN S := Eq.mpr rfl rfl
theorem mN_sArr (S : Mem) (a kd n : Nat) (b : Nat) : mN (sArr S a kd n) b = if b = a then n else mN S b := Eq.mpr rfl rfl
theorem mN_sFill (S : Mem) (a n : Nat) (v : Int32) : mN (sFill S a n v) = mN S := Eq.mpr rfl rfl
theorem mI_sI (S : Mem) (g a : Nat) (v : Int32) (g' a' : Nat) : mI (sI S g a v) g' a' = if g' = g ∧ a' = a then v else mI S g' a' := Eq.mpr rfl rfl
theorem mI_sO (S : Mem) (g a : Nat) (v : Option Nat) : mI (sO S g a v) = mI S := Eq.mpr rfl rfl
theorem mI_sJ (S : Mem) (g a : Nat) (v : Int64) : mI (sJ S g a v) = mI S := Eq.mpr rfl rfl
theorem mI_sA (S : Mem) (a i : Nat) (v : Int32) : mI (sA S a i v) = mI S := Eq.mpr rfl rfl
theorem mI_sP (S : Mem) (a i : Nat) (v : Option Nat) : mI (sP S a i v) = mI S := Eq.mpr rfl rfl
theorem mI_sQ (S : Mem) (a i : Nat) (v : Int64) : mI (sQ S a i v) = mI S := Eq.mpr rfl rfl
theorem mI_sNew (S : Mem) (a ci : Nat) (g b : Nat) : mI (sNew S a ci) g b = if b = a then 0 else mI S g b := Eq.mpr rfl rfl
theorem mI_sArr (S : Mem) (a kd n : Nat) : mI (sArr S a kd n) = mI S := Eq.mpr rfl rfl
theorem mI_sFill (S : Mem) (a n : Nat) (v : Int32) : mI (sFill S a n v) = mI S := Eq.mpr rfl rfl
theorem mO_sI (S : Mem) (g a : Nat) (v : Int32) : mO (sI S g a v) = mO S := Eq.mpr rfl rfl
theorem mO_sO (S : Mem) (g a : Nat) (v : Option Nat) (g' a' : Nat) : mO (sO S g a v) g' a' = if g' = g ∧ a' = a then v else mO S g' a' := Eq.mpr rfl rfl
theorem mO_sJ (S : Mem) (g a : Nat) (v : Int64) : mO (sJ S g a v) = mO S := Eq.mpr rfl rfl
theorem mO_sA (S : Mem) (a i : Nat) (v : Int32) : mO (sA S a i v) = mO S := Eq.mpr rfl rfl
theorem mO_sP (S : Mem) (a i : Nat) (v : Option Nat) : mO (sP S a i v) = mO S := Eq.mpr rfl rfl
theorem mO_sQ (S : Mem) (a i : Nat) (v : Int64) : mO (sQ S a i v) = mO S := Eq.mpr rfl rfl
theorem mO_sNew (S : Mem) (a ci : Nat) (g b : Nat) : mO (sNew S a ci) g b = if b = a then none else mO S g b := Eq.mpr rfl rfl
theorem mO_sArr (S : Mem) (a kd n : Nat) : mO (sArr S a kd n) = mO S := Eq.mpr rfl rfl
theorem mO_sFill (S : Mem) (a n : Nat) (v : Int32) : mO (sFill S a n v) = mO S := Eq.mpr rfl rfl
theorem mJ_sI (S : Mem) (g a : Nat) (v : Int32) : mJ (sI S g a v) = mJ S := Eq.mpr rfl rfl
theorem mJ_sO (S : Mem) (g a : Nat) (v : Option Nat) : mJ (sO S g a v) = mJ S := Eq.mpr rfl rfl
theorem mJ_sJ (S : Mem) (g a : Nat) (v : Int64) (g' a' : Nat) : mJ (sJ S g a v) g' a' = if g' = g ∧ a' = a then v else mJ S g' a' := Eq.mpr rfl rfl
theorem mJ_sA (S : Mem) (a i : Nat) (v : Int32) : mJ (sA S a i v) = mJ S := Eq.mpr rfl rfl
theorem mJ_sP (S : Mem) (a i : Nat) (v : Option Nat) : mJ (sP S a i v) = mJ S := Eq.mpr rfl rfl
theorem mJ_sQ (S : Mem) (a i : Nat) (v : Int64) : mJ (sQ S a i v) = mJ S := Eq.mpr rfl rfl
theorem mJ_sNew (S : Mem) (a ci : Nat) (g b : Nat) : mJ (sNew S a ci) g b = if b = a then 0 else mJ S g b := Eq.mpr rfl rfl
theorem mJ_sArr (S : Mem) (a kd n : Nat) : mJ (sArr S a kd n) = mJ S := Eq.mpr rfl rfl
theorem mJ_sFill (S : Mem) (a n : Nat) (v : Int32) : mJ (sFill S a n v) = mJ S := Eq.mpr rfl rfl
theorem mA_sI (S : Mem) (g a : Nat) (v : Int32) : mA (sI S g a v) = mA S := Eq.mpr rfl rfl
theorem mA_sO (S : Mem) (g a : Nat) (v : Option Nat) : mA (sO S g a v) = mA S := Eq.mpr rfl rfl
theorem mA_sJ (S : Mem) (g a : Nat) (v : Int64) : mA (sJ S g a v) = mA S := Eq.mpr rfl rfl
theorem mA_sA (S : Mem) (a i : Nat) (v : Int32) (a' i' : Nat) : mA (sA S a i v) a' i' = if a' = a ∧ i' = i then v else mA S a' i' := Eq.mpr rfl rfl
theorem mA_sP (S : Mem) (a i : Nat) (v : Option Nat) : mA (sP S a i v) = mA S := Eq.mpr rfl rfl
theorem mA_sQ (S : Mem) (a i : Nat) (v : Int64) : mA (sQ S a i v) = mA S := Eq.mpr rfl rfl
theorem mA_sNew (S : Mem) (a ci : Nat) : mA (sNew S a ci) = mA S := Eq.mpr rfl rfl
theorem mA_sArr (S : Mem) (a kd n : Nat) (b i : Nat) : mA (sArr S a kd n) b i = if b = a then 0 else mA S b i := Eq.mpr rfl rfl
theorem mA_sFill (S : Mem) (a n : Nat) (v : Int32) (a' i' : Nat) : mA (sFill S a n v) a' i' = if a' = a ∧ i' < n then v else mA S a' i' := Eq.mpr rfl rfl
theorem mP_sI (S : Mem) (g a : Nat) (v : Int32) : mP (sI S g a v) = mP S := Eq.mpr rfl rfl
theorem mP_sO (S : Mem) (g a : Nat) (v : Option Nat) : mP (sO S g a v) = mP S := Eq.mpr rfl rfl
theorem mP_sJ (S : Mem) (g a : Nat) (v : Int64) : mP (sJ S g a v) = mP S := Eq.mpr rfl rfl
theorem mP_sA (S : Mem) (a i : Nat) (v : Int32) : mP (sA S a i v) = mP S := Eq.mpr rfl rfl
theorem mP_sP (S : Mem) (a i : Nat) (v : Option Nat) (a' i' : Nat) : mP (sP S a i v) a' i' = if a' = a ∧ i' = i then v else mP S a' i' := Eq.mpr rfl rfl
theorem mP_sQ (S : Mem) (a i : Nat) (v : Int64) : mP (sQ S a i v) = mP S := Eq.mpr rfl rfl
theorem mP_sNew (S : Mem) (a ci : Nat) : mP (sNew S a ci) = mP S := Eq.mpr rfl rfl
theorem mP_sArr (S : Mem) (a kd n : Nat) (b i : Nat) : mP (sArr S a kd n) b i = if b = a then none else mP S b i := Eq.mpr rfl rfl
theorem mP_sFill (S : Mem) (a n : Nat) (v : Int32) : mP (sFill S a n v) = mP S := Eq.mpr rfl rfl
theorem mQ_sI (S : Mem) (g a : Nat) (v : Int32) : mQ (sI S g a v) = mQ S := Eq.mpr rfl rfl
theorem mQ_sO (S : Mem) (g a : Nat) (v : Option Nat) : mQ (sO S g a v) = mQ S := Eq.mpr rfl rfl
theorem mQ_sJ (S : Mem) (g a : Nat) (v : Int64) : mQ (sJ S g a v) = mQ S := Eq.mpr rfl rfl
theorem mQ_sA (S : Mem) (a i : Nat) (v : Int32) : mQ (sA S a i v) = mQ S := Eq.mpr rfl rfl
theorem mQ_sP (S : Mem) (a i : Nat) (v : Option Nat) : mQ (sP S a i v) = mQ S := Eq.mpr rfl rfl
theorem mQ_sQ (S : Mem) (a i : Nat) (v : Int64) (a' i' : Nat) : mQ (sQ S a i v) a' i' = if a' = a ∧ i' = i then v else mQ S a' i' := Eq.mpr rfl rfl
theorem mQ_sNew (S : Mem) (a ci : Nat) : mQ (sNew S a ci) = mQ S := Eq.mpr rfl rfl
theorem mQ_sArr (S : Mem) (a kd n : Nat) (b i : Nat) : mQ (sArr S a kd n) b i = if b = a then 0 else mQ S b i := Eq.mpr rfl rfl
theorem mQ_sFill (S : Mem) (a n : Nat) (v : Int32) : mQ (sFill S a n v) = mQ S := Eq.mpr rfl rfl
/-- what stays at an address -/
def agr (S S' : Mem) (a : Nat) : Prop := (∀ g, mI S' g a = mI S g a) ∧ (∀ g, mO S' g a = mO S g a) ∧ (∀ g, mJ S' g a = mJ S g a) ∧ (∀ i, mA S' a i = mA S a i) ∧ (∀ i, mP S' a i = mP S a i) ∧ (∀ i, mQ S' a i = mQ S a i)
/-- cells came, and of the old ones only those of X changed -/
def ext (S S' : Mem) (X : Nat → Prop) : Prop := (∀ a, a ∈ mL S → a ∈ mL S' ∧ mK S' a = mK S a ∧ mN S' a = mN S a) ∧ ∀ a, a ∈ mL S → ¬ X a → agr S S' a
theorem ext_rfl {S : Mem} {X : Nat → Prop} : ext S S X := ⟨fun _ h => ⟨h, rfl, rfl⟩, fun _ _ _ => ⟨fun _ => rfl, fun _ => rfl, fun _ => rfl, fun _ => rfl, fun _ => rfl, fun _ => rfl⟩⟩
theorem agr_tr {S S1 S2 : Mem} {a : Nat} (h1 : agr S S1 a) (h2 : agr S1 S2 a) : agr S S2 a := ⟨fun g => (h2.1 g).trans (h1.1 g), fun g => (h2.2.1 g).trans (h1.2.1 g), fun g => (h2.2.2.1 g).trans (h1.2.2.1 g), fun g => (h2.2.2.2.1 g).trans (h1.2.2.2.1 g), fun g => (h2.2.2.2.2.1 g).trans (h1.2.2.2.2.1 g), fun g => (h2.2.2.2.2.2 g).trans (h1.2.2.2.2.2 g)⟩
theorem ext_tr {S S1 S2 : Mem} {X Y : Nat → Prop} (h1 : ext S S1 X) (h2 : ext S1 S2 Y) (hXY : ∀ a, a ∈ mL S → Y a → X a) : ext S S2 X :=
  ⟨fun a h => ⟨(h2.1 a (h1.1 a h).1).1, (h2.1 a (h1.1 a h).1).2.1.trans (h1.1 a h).2.1, (h2.1 a (h1.1 a h).1).2.2.trans (h1.1 a h).2.2⟩, fun a h hX => agr_tr (h1.2 a h hX) (h2.2 a (h1.1 a h).1 (fun z => hX (hXY a h z)))⟩
theorem nm_ext {S S' : Mem} {X : Nat → Prop} {b : Nat} (h : ext S S' X) (hb : b ∉ mL S') : b ∉ mL S := fun z => hb (h.1 b z).1
theorem is_ext {S S' : Mem} {X : Nat → Prop} {a k : Nat} (h : ext S S' X) (ha : is S a k) : is S' a k := ⟨(h.1 a ha.1).1, (h.1 a ha.1).2.1.trans ha.2⟩
theorem isA_ext {S S' : Mem} {X : Nat → Prop} {a k n : Nat} (h : ext S S' X) (ha : isA S a k n) : isA S' a k n := ⟨(h.1 a ha.1).1, (h.1 a ha.1).2.1.trans ha.2.1, (h.1 a ha.1).2.2.trans ha.2.2⟩
theorem ext_sI {S0 S : Mem} {X : Nat → Prop} {g a : Nat} {v : Int32} (h : ext S0 S X) (hx : X a ∨ a ∉ mL S0) : ext S0 (sI S g a v) X :=
  ⟨h.1, fun b hb hX => agr_tr (h.2 b hb hX) (by
    have hne : b ≠ a := by rintro rfl; rcases hx with z | z <;> contradiction
    exact ⟨(fun g' => by rw [mI_sI, if_neg (fun z => hne z.2)]), (fun _ => rfl), (fun _ => rfl), (fun _ => rfl), (fun _ => rfl), (fun _ => rfl)⟩)⟩
theorem ext_sO {S0 S : Mem} {X : Nat → Prop} {g a : Nat} {v : Option Nat} (h : ext S0 S X) (hx : X a ∨ a ∉ mL S0) : ext S0 (sO S g a v) X :=
  ⟨h.1, fun b hb hX => agr_tr (h.2 b hb hX) (by
    have hne : b ≠ a := by rintro rfl; rcases hx with z | z <;> contradiction
    exact ⟨(fun _ => rfl), (fun g' => by rw [mO_sO, if_neg (fun z => hne z.2)]), (fun _ => rfl), (fun _ => rfl), (fun _ => rfl), (fun _ => rfl)⟩)⟩
theorem ext_sJ {S0 S : Mem} {X : Nat → Prop} {g a : Nat} {v : Int64} (h : ext S0 S X) (hx : X a ∨ a ∉ mL S0) : ext S0 (sJ S g a v) X :=
  ⟨h.1, fun b hb hX => agr_tr (h.2 b hb hX) (by
    have hne : b ≠ a := by rintro rfl; rcases hx with z | z <;> contradiction
    exact ⟨(fun _ => rfl), (fun _ => rfl), (fun g' => by rw [mJ_sJ, if_neg (fun z => hne z.2)]), (fun _ => rfl), (fun _ => rfl), (fun _ => rfl)⟩)⟩
theorem ext_sA {S0 S : Mem} {X : Nat → Prop} {a i : Nat} {v : Int32} (h : ext S0 S X) (hx : X a ∨ a ∉ mL S0) : ext S0 (sA S a i v) X :=
  ⟨h.1, fun b hb hX => agr_tr (h.2 b hb hX) (by
    have hne : b ≠ a := by rintro rfl; rcases hx with z | z <;> contradiction
    exact ⟨(fun _ => rfl), (fun _ => rfl), (fun _ => rfl), (fun i' => by rw [mA_sA, if_neg (fun z => hne z.1)]), (fun _ => rfl), (fun _ => rfl)⟩)⟩
theorem ext_sP {S0 S : Mem} {X : Nat → Prop} {a i : Nat} {v : Option Nat} (h : ext S0 S X) (hx : X a ∨ a ∉ mL S0) : ext S0 (sP S a i v) X :=
  ⟨h.1, fun b hb hX => agr_tr (h.2 b hb hX) (by
    have hne : b ≠ a := by rintro rfl; rcases hx with z | z <;> contradiction
    exact ⟨(fun _ => rfl), (fun _ => rfl), (fun _ => rfl), (fun _ => rfl), (fun i' => by rw [mP_sP, if_neg (fun z => hne z.1)]), (fun _ => rfl)⟩)⟩
theorem ext_sQ {S0 S : Mem} {X : Nat → Prop} {a i : Nat} {v : Int64} (h : ext S0 S X) (hx : X a ∨ a ∉ mL S0) : ext S0 (sQ S a i v) X :=
  ⟨h.1, fun b hb hX => agr_tr (h.2 b hb hX) (by
    have hne : b ≠ a := by rintro rfl; rcases hx with z | z <;> contradiction
    exact ⟨(fun _ => rfl), (fun _ => rfl), (fun _ => rfl), (fun _ => rfl), (fun _ => rfl), (fun i' => by rw [mQ_sQ, if_neg (fun z => hne z.1)])⟩)⟩
theorem ext_sFill {S0 S : Mem} {X : Nat → Prop} {a n : Nat} {v : Int32} (h : ext S0 S X) (hx : X a ∨ a ∉ mL S0) : ext S0 (sFill S a n v) X :=
  ⟨h.1, fun b hb hX => agr_tr (h.2 b hb hX) (by
    have hne : b ≠ a := by rintro rfl; rcases hx with z | z <;> contradiction
    exact ⟨(fun _ => rfl), (fun _ => rfl), (fun _ => rfl), (fun i' => by rw [mA_sFill, if_neg (fun z => hne z.1)]), (fun _ => rfl), (fun _ => rfl)⟩)⟩
theorem ext_sNew {S0 S : Mem} {X : Nat → Prop} {b ci : Nat} (h : ext S0 S X) (hn : b ∉ mL S) : ext S0 (sNew S b ci) X := by
  have hne : ∀ a, a ∈ mL S0 → a ≠ b := fun a ha => by rintro rfl; exact hn (h.1 a ha).1
  refine ⟨fun a ha => ⟨List.mem_append_left _ (h.1 a ha).1, ?_, (h.1 a ha).2.2⟩, fun a ha hX => agr_tr (h.2 a ha hX) ⟨fun g => ?_, fun g => ?_, fun g => ?_, fun _ => rfl, fun _ => rfl, fun _ => rfl⟩⟩
  · rw [mK_sNew, if_neg (hne a ha)]; exact (h.1 a ha).2.1
  · rw [mI_sNew, if_neg (hne a ha)]
  · rw [mO_sNew, if_neg (hne a ha)]
  · rw [mJ_sNew, if_neg (hne a ha)]
theorem ext_sArr {S0 S : Mem} {X : Nat → Prop} {b kd n : Nat} (h : ext S0 S X) (hn : b ∉ mL S) : ext S0 (sArr S b kd n) X := by
  have hne : ∀ a, a ∈ mL S0 → a ≠ b := fun a ha => by rintro rfl; exact hn (h.1 a ha).1
  refine ⟨fun a ha => ⟨List.mem_append_left _ (h.1 a ha).1, ?_, ?_⟩, fun a ha hX => agr_tr (h.2 a ha hX) ⟨fun _ => rfl, fun _ => rfl, fun _ => rfl, fun i => ?_, fun i => ?_, fun i => ?_⟩⟩
  · rw [mK_sArr, if_neg (hne a ha)]; exact (h.1 a ha).2.1
  · rw [mN_sArr, if_neg (hne a ha)]; exact (h.1 a ha).2.2
  · rw [mA_sArr, if_neg (hne a ha)]
  · rw [mP_sArr, if_neg (hne a ha)]
  · rw [mQ_sArr, if_neg (hne a ha)]
theorem V.gen {p : Program} {l : Launch} {e : Env} {R : Room} {s : State} {m : MethodId} {args : Array Value} {below : List Frame} {meth : Method} {c : Code} {D : va_G} {G : Nat → ClassId} {bs nL : Nat} {Q : State → Prop} {cells slots : Nat} {S : Mem} {pc : Nat} {lv : List (Option Value)} {st : List Value} (k : ∀ S', S' = S → V p l e R s m args below meth c D G bs nL Q cells slots S' pc lv st) : V p l e R s m args below meth c D G bs nL Q cells slots S pc lv st := k S rfl
theorem is_new {S : Mem} {a b ci k : Nat} (hb : b ∉ mL S) (h : is S a k) : is (sNew S b ci) a k := ⟨List.mem_append_left _ h.1, by rw [mK_sNew, if_neg (by rintro rfl; exact hb h.1)]; exact h.2⟩
theorem is_arr {S : Mem} {a b kd n k : Nat} (hb : b ∉ mL S) (h : is S a k) : is (sArr S b kd n) a k := ⟨List.mem_append_left _ h.1, by rw [mK_sArr, if_neg (by rintro rfl; exact hb h.1)]; exact h.2⟩
theorem isA_new {S : Mem} {a b ci k n : Nat} (hb : b ∉ mL S) (h : isA S a k n) : isA (sNew S b ci) a k n := ⟨List.mem_append_left _ h.1, by rw [mK_sNew, if_neg (by rintro rfl; exact hb h.1)]; exact h.2.1, h.2.2⟩
theorem isA_arr {S : Mem} {a b kd n k n' : Nat} (hb : b ∉ mL S) (h : isA S a k n') : isA (sArr S b kd n) a k n' := ⟨List.mem_append_left _ h.1, by rw [mK_sArr, if_neg (by rintro rfl; exact hb h.1)]; exact h.2.1, by rw [mN_sArr, if_neg (by rintro rfl; exact hb h.1)]; exact h.2.2⟩
theorem is_newS {S : Mem} {b ci : Nat} (_ : b ∉ mL S) : is (sNew S b ci) b ci := ⟨List.mem_append_right _ (List.mem_singleton.mpr rfl), by rw [mK_sNew, if_pos rfl]⟩
theorem isA_arrS {S : Mem} {b kd n : Nat} (_ : b ∉ mL S) : isA (sArr S b kd n) b kd n := ⟨List.mem_append_right _ (List.mem_singleton.mpr rfl), by rw [mK_sArr, if_pos rfl], by rw [mN_sArr, if_pos rfl]⟩
theorem nm_new {S : Mem} {b c ci : Nat} (h : c ∉ mL (sNew S b ci)) : c ∉ mL S := fun z => h (List.mem_append_left _ z)
theorem nm_arr {S : Mem} {b c kd n : Nat} (h : c ∉ mL (sArr S b kd n)) : c ∉ mL S := fun z => h (List.mem_append_left _ z)
theorem ne_of_is {S : Mem} {a b k : Nat} (hb : b ∉ mL S) (h : is S a k) : a ≠ b := by rintro rfl; exact hb h.1
theorem ne_of_isA {S : Mem} {a b k n : Nat} (hb : b ∉ mL S) (h : isA S a k n) : a ≠ b := by rintro rfl; exact hb h.1
/-- a boolean as the machine has it -/
def bI (x : Bool) : Int32 := if x then 1 else 0
def isB (a b : Int32) : Bool := decide (0 ≤ a) && decide (a < b)
theorem bI_f {x : Bool} (h : bI x = 0) : x = false := by cases x <;> simp_all [bI]
theorem bI_t {x : Bool} (h : ¬ bI x = 0) : x = true := by cases x <;> simp_all [bI]
theorem isB_t {a b : Int32} (h : isB a b = true) : 0 ≤ a ∧ a < b := by simpa [isB] using h
theorem isB_f {a b : Int32} (h : isB a b = false) : ¬ (0 ≤ a ∧ a < b) := by simpa [isB] using h
theorem i0_le {a : Int32} : 0 ≤ a ↔ 0 ≤ a.toInt := Int32.le_iff_toInt_le
theorem vp_in_b {a b : Int32} {n : Nat} (h : 0 ≤ a ∧ a < b) (hb : b.toInt = n) : vp_in a n := vp_in_iff.mpr ⟨Int32.le_iff_toInt_le.mp h.1, by rw [← hb]; exact Int32.lt_iff_toInt_lt.mp h.2⟩

theorem x_sI {S S' : Mem} {g a : Nat} {v : Int32} (e : S' = sI S g a v) : ext S S' (fun b => b = a) := by subst e; exact ext_sI ext_rfl (Or.inl rfl)
theorem x_sO {S S' : Mem} {g a : Nat} {v : Option Nat} (e : S' = sO S g a v) : ext S S' (fun b => b = a) := by subst e; exact ext_sO ext_rfl (Or.inl rfl)
theorem x_sJ {S S' : Mem} {g a : Nat} {v : Int64} (e : S' = sJ S g a v) : ext S S' (fun b => b = a) := by subst e; exact ext_sJ ext_rfl (Or.inl rfl)
theorem x_sA {S S' : Mem} {a i : Nat} {v : Int32} (e : S' = sA S a i v) : ext S S' (fun b => b = a) := by subst e; exact ext_sA ext_rfl (Or.inl rfl)
theorem x_sP {S S' : Mem} {a i : Nat} {v : Option Nat} (e : S' = sP S a i v) : ext S S' (fun b => b = a) := by subst e; exact ext_sP ext_rfl (Or.inl rfl)
theorem x_sQ {S S' : Mem} {a i : Nat} {v : Int64} (e : S' = sQ S a i v) : ext S S' (fun b => b = a) := by subst e; exact ext_sQ ext_rfl (Or.inl rfl)
theorem x_sFill {S S' : Mem} {a n : Nat} {v : Int32} (e : S' = sFill S a n v) : ext S S' (fun b => b = a) := by subst e; exact ext_sFill ext_rfl (Or.inl rfl)
theorem x_sNew {S S' : Mem} {a ci : Nat} (e : S' = sNew S a ci) (h : a ∉ mL S) : ext S S' (fun _ => False) := by subst e; exact ext_sNew ext_rfl h
theorem x_sArr {S S' : Mem} {a kd n : Nat} (e : S' = sArr S a kd n) (h : a ∉ mL S) : ext S S' (fun _ => False) := by subst e; exact ext_sArr ext_rfl h
theorem is_sNewE {S S' : Mem} {a ci : Nat} (e : S' = sNew S a ci) (h : a ∉ mL S) : is S' a ci := by subst e; exact is_newS h
theorem isA_sArrE {S S' : Mem} {a kd n : Nat} (e : S' = sArr S a kd n) (h : a ∉ mL S) : isA S' a kd n := by subst e; exact isA_arrS h
theorem nfX0 : ∀ j, j < (lay 0).length → defaultValue (tyX0 j) = vp_V (fl0 (lay 0)) j := by decide +kernel
theorem nfX1 : ∀ j, j < (lay 1).length → defaultValue (tyX1 j) = vp_V (fl0 (lay 1)) j := by decide +kernel
theorem nfX2 : ∀ j, j < (lay 2).length → defaultValue (tyX2 j) = vp_V (fl0 (lay 2)) j := by decide +kernel
theorem nfX3 : ∀ j, j < (lay 3).length → defaultValue (tyX3 j) = vp_V (fl0 (lay 3)) j := by decide +kernel
theorem nfX4 : ∀ j, j < (lay 4).length → defaultValue (tyX4 j) = vp_V (fl0 (lay 4)) j := by decide +kernel
theorem nfX5 : ∀ j, j < (lay 5).length → defaultValue (tyX5 j) = vp_V (fl0 (lay 5)) j := by decide +kernel
theorem nfX6 : ∀ j, j < (lay 6).length → defaultValue (tyX6 j) = vp_V (fl0 (lay 6)) j := by decide +kernel
theorem nfX7 : ∀ j, j < (lay 7).length → defaultValue (tyX7 j) = vp_V (fl0 (lay 7)) j := by decide +kernel
theorem nfX8 : ∀ j, j < (lay 8).length → defaultValue (tyX8 j) = vp_V (fl0 (lay 8)) j := by decide +kernel
theorem nfX9 : ∀ j, j < (lay 9).length → defaultValue (tyX9 j) = vp_V (fl0 (lay 9)) j := by decide +kernel
theorem nfX10 : ∀ j, j < (lay 10).length → defaultValue (tyX10 j) = vp_V (fl0 (lay 10)) j := by decide +kernel
end
section
theorem dX9_isBelow_0 : decode cX9_isBelow 0 = .ok (.iload_n 0, 1) := by decide +kernel
theorem dX9_isBelow_1 : decode cX9_isBelow 1 = .ok (.ifCond .lt 12, 3) := by decide +kernel
theorem dX9_isBelow_4 : decode cX9_isBelow 4 = .ok (.iload_n 0, 1) := by decide +kernel
theorem dX9_isBelow_5 : decode cX9_isBelow 5 = .ok (.iload_n 1, 1) := by decide +kernel
theorem dX9_isBelow_6 : decode cX9_isBelow 6 = .ok (.if_icmp .ge 7, 3) := by decide +kernel
theorem dX9_isBelow_9 : decode cX9_isBelow 9 = .ok (.iconst 1, 1) := by decide +kernel
theorem dX9_isBelow_10 : decode cX9_isBelow 10 = .ok (.goto 4, 3) := by decide +kernel
theorem dX9_isBelow_13 : decode cX9_isBelow 13 = .ok (.iconst 0, 1) := by decide +kernel
theorem dX9_isBelow_14 : decode cX9_isBelow 14 = .ok (.ireturn, 1) := by decide +kernel
set_option maxRecDepth 100000 in
set_option maxHeartbeats 4000000 in
theorem ct_X9_isBelow (l : Launch) (a b : Int32) : Ct l yX9_isBelow cX9_isBelow 2 (some .boolean) 0 0 0 0 (fun _ av => av = [.int a, .int b]) (fun S _ r S' => r = some (.int (bI (isB a b))) ∧ S' = S) := by
  refine ct_of (by decide) (fun S av h => by obtain rfl := h; exact Nat.le_of_ble_eq_true rfl) ?_
  intro p e s m args below meth c D G bs S av C hr hin hpre
  obtain rfl := hpre
  refine v_iload_n C dX9_isBelow_0 rfl ?_
  refine v_if_lt (tgt := 13) C dX9_isBelow_1 (by decide) (fun c_1 => ?_) (fun c_1 => ?_)
  · skip
    skip
    refine v_iconst (v := 0) C dX9_isBelow_13 (by decide) ?_
    refine v_zret C hr rfl (Nat.le_of_ble_eq_true rfl) (Nat.le_of_ble_eq_true rfl) dX9_isBelow_14 ?_
    refine ⟨?_, rfl⟩
    first
      | (rw [show isB a b = true from by simp only [isB, Bool.and_eq_true, decide_eq_true_eq]; exact ⟨Int32.not_lt.mp c_1, Int32.not_le.mp c_6⟩]; rfl)
      | (rw [show isB a b = false from by simp only [isB, Bool.and_eq_false_imp, decide_eq_true_eq, decide_eq_false_iff_not]; exact fun _ => Int32.not_lt.mpr c_6]; rfl)
      | (rw [show isB a b = false from by simp only [isB, Bool.and_eq_false_imp, decide_eq_true_eq, decide_eq_false_iff_not]; exact fun z => absurd c_1 (Int32.not_lt.mpr z)]; rfl)
  · skip
    refine v_iload_n C dX9_isBelow_4 rfl ?_
    refine v_iload_n C dX9_isBelow_5 rfl ?_
    refine v_icmp_ge (tgt := 13) C dX9_isBelow_6 (by decide) (fun c_6 => ?_) (fun c_6 => ?_)
    · skip
      refine v_iconst (v := 0) C dX9_isBelow_13 (by decide) ?_
      refine v_zret C hr rfl (Nat.le_of_ble_eq_true rfl) (Nat.le_of_ble_eq_true rfl) dX9_isBelow_14 ?_
      refine ⟨?_, rfl⟩
      first
        | (rw [show isB a b = true from by simp only [isB, Bool.and_eq_true, decide_eq_true_eq]; exact ⟨Int32.not_lt.mp c_1, Int32.not_le.mp c_6⟩]; rfl)
        | (rw [show isB a b = false from by simp only [isB, Bool.and_eq_false_imp, decide_eq_true_eq, decide_eq_false_iff_not]; exact fun _ => Int32.not_lt.mpr c_6]; rfl)
        | (rw [show isB a b = false from by simp only [isB, Bool.and_eq_false_imp, decide_eq_true_eq, decide_eq_false_iff_not]; exact fun z => absurd c_1 (Int32.not_lt.mpr z)]; rfl)
    · skip
      refine v_iconst (v := 1) C dX9_isBelow_9 (by decide) ?_
      refine v_goto (tgt := 14) C dX9_isBelow_10 (by decide) ?_
      refine v_zret C hr rfl (Nat.le_of_ble_eq_true rfl) (Nat.le_of_ble_eq_true rfl) dX9_isBelow_14 ?_
      refine ⟨?_, rfl⟩
      first
        | (rw [show isB a b = true from by simp only [isB, Bool.and_eq_true, decide_eq_true_eq]; exact ⟨Int32.not_lt.mp c_1, Int32.not_le.mp c_6⟩]; rfl)
        | (rw [show isB a b = false from by simp only [isB, Bool.and_eq_false_imp, decide_eq_true_eq, decide_eq_false_iff_not]; exact fun _ => Int32.not_lt.mpr c_6]; rfl)
        | (rw [show isB a b = false from by simp only [isB, Bool.and_eq_false_imp, decide_eq_true_eq, decide_eq_false_iff_not]; exact fun z => absurd c_1 (Int32.not_lt.mpr z)]; rfl)

theorem v_alenI {p : Program} {l : Launch} {e : Env} {R : Room} {s : State} {m : MethodId} {args : Array Value} {below : List Frame} {meth : Method} {c : Code} {D : va_G} {G : Nat → ClassId} {bs nL cells slots pc : Nat} {cc : ByteArray} {Q : State → Prop} {S : Mem} {lv : List (Option Value)} {st : List Value} {own : String} (C : Cx p s m args meth c D G bs cc nL own) {a n : Nat} (ha : isA S a 11 n) (hd : decode cc pc = .ok (.arraylength, 1)) (kk : V p l e R s m args below meth c D G bs nL Q cells slots S (pc + 1) lv (.int (nI n) :: st)) : V p l e R s m args below meth c D G bs nL Q cells slots S (pc) lv (.ref a :: st) := by
  intro H locs ls h1 h2 h3 h4
  obtain ⟨q, hq⟩ := va_pl_get (X := []) (f := cellF G S) ha.1
  rw [cell_I ha.2.1, ha.2.2] at hq
  exact va_alen C.1 C.2.1 C.2.2.2.2.2.1.1 h1 q 0 hq rfl rfl hd (kk H locs ls h1 h2 h3 h4)
theorem dJ7_fill_53178_0 : decode cJ7_fill_53178 0 = .ok (.iconst 0, 1) := by decide +kernel
theorem dJ7_fill_53178_1 : decode cJ7_fill_53178 1 = .ok (.istore_n 2, 1) := by decide +kernel
theorem dJ7_fill_53178_2 : decode cJ7_fill_53178 2 = .ok (.aload_n 0, 1) := by decide +kernel
theorem dJ7_fill_53178_3 : decode cJ7_fill_53178 3 = .ok (.arraylength, 1) := by decide +kernel
theorem dJ7_fill_53178_4 : decode cJ7_fill_53178 4 = .ok (.istore_n 3, 1) := by decide +kernel
theorem dJ7_fill_53178_5 : decode cJ7_fill_53178 5 = .ok (.iload_n 2, 1) := by decide +kernel
theorem dJ7_fill_53178_6 : decode cJ7_fill_53178 6 = .ok (.iload_n 3, 1) := by decide +kernel
theorem dJ7_fill_53178_7 : decode cJ7_fill_53178 7 = .ok (.if_icmp .ge 13, 3) := by decide +kernel
theorem dJ7_fill_53178_10 : decode cJ7_fill_53178 10 = .ok (.aload_n 0, 1) := by decide +kernel
theorem dJ7_fill_53178_11 : decode cJ7_fill_53178 11 = .ok (.iload_n 2, 1) := by decide +kernel
theorem dJ7_fill_53178_12 : decode cJ7_fill_53178 12 = .ok (.iload_n 1, 1) := by decide +kernel
theorem dJ7_fill_53178_13 : decode cJ7_fill_53178 13 = .ok (.iastore, 1) := by decide +kernel
theorem dJ7_fill_53178_14 : decode cJ7_fill_53178 14 = .ok (.iinc 2 1, 3) := by decide +kernel
theorem dJ7_fill_53178_17 : decode cJ7_fill_53178 17 = .ok (.goto (-12), 3) := by decide +kernel
theorem dJ7_fill_53178_20 : decode cJ7_fill_53178 20 = .ok (.return_, 1) := by decide +kernel
set_option maxRecDepth 100000 in
set_option maxHeartbeats 4000000 in
theorem ct_J7_fill_53178 (l : Launch) (a n : Nat) (v : Int32) : Ct l yJ7_fill_53178 cJ7_fill_53178 4 none 0 0 0 0 (fun S av => av = [.ref a, .int v] ∧ isA S a 11 n ∧ n < 2 ^ 31) (fun S _ r S' => r = none ∧ S' = sFill S a n v) := by
  refine ct_of (by decide) (fun S av h => by obtain ⟨rfl, ha, hn⟩ := h; exact Nat.le_of_ble_eq_true rfl) ?_
  intro p e s m args below meth c D G bs S av C hr hin hpre
  obtain ⟨rfl, ha, hn⟩ := hpre
  skip
  have hl : ∀ (k i : Nat), i + k = n → V p l e ({ frames := 0, cells := 0, slots := 0, locals := 0 } : Room) s m args below meth c D G bs 4 (MQ below (QcT D G bs S [.ref a, .int v] (fun S _ r S' => r = none ∧ S' = sFill S a n v)) args s 0 0 (fun q => bs ≤ q)) 0 0 (sFill S a i v) 5 [some (.ref a), some (.int v), some (.int (nI i)), some (.int (nI n))] [] := by
    intro k
    induction k with
    | zero =>
      intro i hi
      simp only [Nat.add_zero] at hi
      subst hi
      refine v_iload_n C dJ7_fill_53178_5 rfl ?_
      refine v_iload_n C dJ7_fill_53178_6 rfl ?_
      refine v_icmp_ge (tgt := 20) C dJ7_fill_53178_7 (by decide) (fun c_7 => ?_) (fun c_7 => ?_)
      · skip
        refine v_vret C hr (Nat.le_of_ble_eq_true rfl) (Nat.le_of_ble_eq_true rfl) dJ7_fill_53178_20 ?_
        exact ⟨rfl, rfl⟩
      · skip
        exact absurd (Int32.le_refl _) c_7
    | succ k ih =>
      intro i hi
      have hlt : i < n := by omega
      refine v_iload_n C dJ7_fill_53178_5 rfl ?_
      refine v_iload_n C dJ7_fill_53178_6 rfl ?_
      refine v_icmp_ge (tgt := 20) C dJ7_fill_53178_7 (by decide) (fun c_7 => ?_) (fun c_7 => ?_)
      · skip
        exact absurd c_7 (nI_ge hlt hn)
      · skip
        refine v_aload_n C dJ7_fill_53178_10 rfl ?_
        refine v_iload_n C dJ7_fill_53178_11 rfl ?_
        refine v_iload_n C dJ7_fill_53178_12 rfl ?_
        refine v_iast C ha (vp_in_nI hlt hn) dJ7_fill_53178_13 ?_
        refine V.gen (fun S_13 e_13 => ?_)
        have x_13 := x_sA e_13
        refine v_iinc C dJ7_fill_53178_14 rfl rfl (by decide) rfl ?_
        refine v_goto (tgt := 5) C dJ7_fill_53178_17 (by decide) ?_
        subst e_13
        rw [nI_clamp (by omega : i < 2 ^ 31)]
        rw [show nI i + Int32.ofInt 1 = nI (i + 1) from nI_1 i]
        rw [show sA (sFill S a i v) a i v = sFill S a (i + 1) v from by
          simp only [sA, sFill, mL, mK, mN, mI, mO, mJ, mA, mP, mQ, Prod.mk.injEq, true_and, and_true]
          funext x y
          simp only [up2]
          by_cases h1 : x = a <;> by_cases h2 : y = i <;> simp [h1, h2] <;> (try omega)
          all_goals (first | (by_cases h3 : y < i <;> simp [h3] <;> (try omega)) | skip)
          all_goals (try (intros; omega))]
        exact ih (i + 1) (by omega)
  refine v_iconst (v := 0) C dJ7_fill_53178_0 (by decide) ?_
  refine v_istore_n C dJ7_fill_53178_1 (by decide) rfl ?_
  refine v_aload_n C dJ7_fill_53178_2 rfl ?_
  refine v_alenI C ha dJ7_fill_53178_3 ?_
  refine v_istore_n C dJ7_fill_53178_4 (by decide) rfl ?_
  have := hl n 0 (by omega)
  rw [show sFill S a 0 v = S from by simp [sFill, mL, mK, mN, mI, mO, mJ, mA, mP, mQ]] at this
  exact this

/-- a new line at h: row r, places q -/
def nLine (S : Mem) (h r q : Nat) : Mem := sFill (sO (sArr (sO (sArr S r 11 20) 192 h (some r)) q 11 20) 193 h (some q)) q 20 (-1)
theorem dX3_init_0 : decode cX3_init 0 = .ok (.aload_n 0, 1) := by decide +kernel
theorem dX3_init_1 : decode cX3_init 1 = .ok (.invokespecial 3, 3) := by decide +kernel
theorem dX3_init_4 : decode cX3_init 4 = .ok (.aload_n 0, 1) := by decide +kernel
theorem dX3_init_5 : decode cX3_init 5 = .ok (.bipush 20, 2) := by decide +kernel
theorem dX3_init_7 : decode cX3_init 7 = .ok (.newarray .int, 2) := by decide +kernel
theorem dX3_init_9 : decode cX3_init 9 = .ok (.putfield 9, 3) := by decide +kernel
theorem dX3_init_12 : decode cX3_init 12 = .ok (.aload_n 0, 1) := by decide +kernel
theorem dX3_init_13 : decode cX3_init 13 = .ok (.bipush 20, 2) := by decide +kernel
theorem dX3_init_15 : decode cX3_init 15 = .ok (.newarray .int, 2) := by decide +kernel
theorem dX3_init_17 : decode cX3_init 17 = .ok (.putfield 15, 3) := by decide +kernel
theorem dX3_init_20 : decode cX3_init 20 = .ok (.aload_n 0, 1) := by decide +kernel
theorem dX3_init_21 : decode cX3_init 21 = .ok (.getfield 15, 3) := by decide +kernel
theorem dX3_init_24 : decode cX3_init 24 = .ok (.iconst (-1), 1) := by decide +kernel
theorem dX3_init_25 : decode cX3_init 25 = .ok (.invokestatic 18, 3) := by decide +kernel
theorem dX3_init_28 : decode cX3_init 28 = .ok (.return_, 1) := by decide +kernel
set_option maxRecDepth 100000 in
set_option maxHeartbeats 4000000 in
theorem ct_X3_init (l : Launch) (h : Nat) : Ct l yX3_init cX3_init 1 none 1 2 40 23 (fun S av => av = [.ref h] ∧ is S h 3) (fun S _ r0 S' => r0 = none ∧ ∃ r q, r ∉ mL S ∧ q ∉ mL S ∧ q ≠ r ∧ S' = nLine S h r q) := by
  refine ct_of (by decide) (fun S av h => by obtain ⟨rfl, hh⟩ := h; exact Nat.le_of_ble_eq_true rfl) ?_
  intro p e s m args below meth c D G bs S av C hr hin hpre
  obtain ⟨rfl, hh⟩ := hpre
  refine v_aload_n C dX3_init_0 rfl ?_
  refine v_objInit C wd51 wd11 wd12 dX3_init_1 (Nat.le_of_ble_eq_true rfl) (Nat.le_of_ble_eq_true rfl) ?_
  refine v_aload_n C dX3_init_4 rfl ?_
  refine v_bipush (v := 20) C dX3_init_5 (by decide) ?_
  refine v_newarr C (kd := 11) (N := 20) wd42 rfl (t0 := 0) rfl (by decide) (fun _ => cell_newI (Or.inl rfl)) (fun _ => vp_cell_i _ _ _) (by decide) (by decide) (Nat.le_of_ble_eq_true rfl) (Nat.le_of_ble_eq_true rfl) (Nat.le_of_ble_eq_true rfl) dX3_init_7 (fun r n_r => ?_)
  have z_hh_r := ne_of_is n_r hh
  refine V.gen (fun S_7 e_7 => ?_)
  have x_7 := x_sArr e_7 n_r
  have hh := is_ext x_7 hh
  have i_r := isA_sArrE (kd := 11) (n := 20) e_7 n_r
  refine p3_9 (v := some _) C hh (hin rfl) dX3_init_9 ?_
  refine V.gen (fun S_9 e_9 => ?_)
  have x_9 := x_sO e_9
  have hh := is_ext x_9 hh
  have i_r := isA_ext x_9 i_r
  refine v_aload_n C dX3_init_12 rfl ?_
  refine v_bipush (v := 20) C dX3_init_13 (by decide) ?_
  refine v_newarr C (kd := 11) (N := 20) wd42 rfl (t0 := 0) rfl (by decide) (fun _ => cell_newI (Or.inl rfl)) (fun _ => vp_cell_i _ _ _) (by decide) (by decide) (Nat.le_of_ble_eq_true rfl) (Nat.le_of_ble_eq_true rfl) (Nat.le_of_ble_eq_true rfl) dX3_init_15 (fun q n_q => ?_)
  have z_hh_q := ne_of_is n_q hh
  have z_i_r_q := ne_of_isA n_q i_r
  refine V.gen (fun S_15 e_15 => ?_)
  have x_15 := x_sArr e_15 n_q
  have hh := is_ext x_15 hh
  have i_r := isA_ext x_15 i_r
  have i_q := isA_sArrE (kd := 11) (n := 20) e_15 n_q
  refine p3_15 (v := some _) C hh (hin rfl) dX3_init_17 ?_
  refine V.gen (fun S_17 e_17 => ?_)
  have x_17 := x_sO e_17
  have hh := is_ext x_17 hh
  have i_r := isA_ext x_17 i_r
  have i_q := isA_ext x_17 i_q
  refine v_aload_n C dX3_init_20 rfl ?_
  refine r3_15 (b := q) C hh (by rw [e_17]; simp [mO_sO]) dX3_init_21 ?_
  refine v_iconst (v := -1) C dX3_init_24 (by decide) ?_
  refine v_callS (As := [_, _]) (n := 2) C (ct_J7_fill_53178 l q 20 (-1)) rfl ⟨wd54, wd55, wd56, wd57⟩ hy_J7_fill_53178 rfl ⟨Nat.le_of_ble_eq_true rfl, Nat.le_of_ble_eq_true rfl⟩ (Nat.le_of_ble_eq_true rfl) ⟨Nat.le_of_ble_eq_true rfl, Nat.le_of_ble_eq_true rfl⟩ dX3_init_25 ⟨rfl, i_q, by decide⟩ (fun r_25 S_25 h_25 => ?_)
  obtain ⟨rfl, e_25⟩ := h_25
  refine v_vret C hr (Nat.le_of_ble_eq_true rfl) (Nat.le_of_ble_eq_true rfl) dX3_init_28 ?_
  exact ⟨rfl, r, q, n_r, fun z => n_q (by rw [e_9, e_7]; exact List.mem_append_left _ z), z_i_r_q.symm, by rw [e_25, e_17, e_15, e_9, e_7]; rfl⟩

theorem ext_nLine {S0 S : Mem} {X : Nat → Prop} {h r q : Nat} (e : ext S0 S X) (n1 : r ∉ mL S) (n2 : q ∉ mL S) (n3 : q ≠ r) (hx : X h ∨ h ∉ mL S0) : ext S0 (nLine S h r q) X := by
  have e1 := ext_sArr (kd := 11) (n := 20) e n1
  have e2 := ext_sO (g := 192) (v := some r) e1 hx
  have nq : q ∉ mL (sO (sArr S r 11 20) 192 h (some r)) := fun z => by
    rcases List.mem_append.mp z with z | z
    · exact n2 z
    · exact n3 (List.mem_singleton.mp z)
  have e3 := ext_sArr (kd := 11) (n := 20) e2 nq
  have e4 := ext_sO (g := 193) (v := some q) e3 hx
  exact ext_sFill e4 (Or.inr (nm_ext e n2))
theorem nLine_at {S : Mem} {h r q : Nat} (hh : is S h 3) (n1 : r ∉ mL S) (n2 : q ∉ mL S) (n3 : q ≠ r) : is (nLine S h r q) h 3 ∧ isA (nLine S h r q) r 11 20 ∧ isA (nLine S h r q) q 11 20 := by
  have nq : q ∉ mL (sO (sArr S r 11 20) 192 h (some r)) := fun z => by
    rcases List.mem_append.mp z with z | z
    · exact n2 z
    · exact n3 (List.mem_singleton.mp z)
  exact ⟨is_arr (kd := 11) (n := 20) nq (is_arr (kd := 11) (n := 20) n1 hh), isA_arr (kd := 11) (n := 20) nq (isA_arrS (kd := 11) (n := 20) n1), isA_arrS (kd := 11) (n := 20) nq⟩
/-- a line's cells -/
def lineAt (S : Mem) (h r q : Nat) : Prop := is S h 3 ∧ mO S 192 h = some r ∧ isA S r 11 20 ∧ mO S 193 h = some q ∧ isA S q 11 20
theorem nLine_lineAt {S : Mem} {h r q : Nat} (hh : is S h 3) (n1 : r ∉ mL S) (n2 : q ∉ mL S) (n3 : q ≠ r) : lineAt (nLine S h r q) h r q :=
  ⟨(nLine_at hh n1 n2 n3).1, by simp [nLine, mO_sFill, mO_sO, mO_sArr], (nLine_at hh n1 n2 n3).2.1, by simp [nLine, mO_sFill, mO_sO], (nLine_at hh n1 n2 n3).2.2⟩
theorem lineAt_ext {S S' : Mem} {X : Nat → Prop} {h r q : Nat} (e : ext S S' X) (hx : ¬ X h) (l : lineAt S h r q) : lineAt S' h r q :=
  ⟨is_ext e l.1, by rw [(e.2 h l.1.1 hx).2.1]; exact l.2.1, isA_ext e l.2.2.1, by rw [(e.2 h l.1.1 hx).2.1]; exact l.2.2.2.1, isA_ext e l.2.2.2.2⟩
end
section
theorem ne_of_lineAt {S : Mem} {a b r q : Nat} (hb : b ∉ mL S) (h : lineAt S a r q) : a ≠ b := ne_of_is hb h.1
theorem lineAt_new {S : Mem} {a b ci r q : Nat} (hb : b ∉ mL S) (h : lineAt S a r q) : lineAt (sNew S b ci) a r q := lineAt_ext (X := fun _ => False) (ext_sNew ext_rfl hb) (fun z => z) h
theorem lineAt_arr {S : Mem} {a b kd n r q : Nat} (hb : b ∉ mL S) (h : lineAt S a r q) : lineAt (sArr S b kd n) a r q := lineAt_ext (X := fun _ => False) (ext_sArr ext_rfl hb) (fun z => z) h
theorem lineAt_sO {S : Mem} {g b a r q : Nat} {v : Option Nat} (hg : g ≠ 192 ∧ g ≠ 193) (h : lineAt S a r q) : lineAt (sO S g b v) a r q :=
  ⟨h.1, by rw [mO_sO, if_neg (fun z => hg.1 z.1.symm)]; exact h.2.1, h.2.2.1, by rw [mO_sO, if_neg (fun z => hg.2 z.1.symm)]; exact h.2.2.2.1, h.2.2.2.2⟩
def mergerAt (S : Mem) (h rw ft gl gr gq ml mr mq : Nat) : Prop := is S h 4 ∧ mO S 256 h = some rw ∧ isA S rw 15 7 ∧ mO S 257 h = some ft ∧ isA S ft 11 7 ∧ mO S 258 h = some gl ∧ lineAt S gl gr gq ∧ mO S 259 h = some ml ∧ lineAt S ml mr mq
theorem mergerAt_ext {S S' : Mem} {X : Nat → Prop} {h rw ft gl gr gq ml mr mq : Nat} (e : ext S S' X) (hx : ¬ X h) (hg : ¬ X gl) (hm : ¬ X ml) (k : mergerAt S h rw ft gl gr gq ml mr mq) : mergerAt S' h rw ft gl gr gq ml mr mq := by
  obtain ⟨k1, k2, k3, k4, k5, k6, k7, k8, k9⟩ := k
  have a := (e.2 h k1.1 hx).2.1
  exact ⟨is_ext e k1, by rw [a]; exact k2, isA_ext e k3, by rw [a]; exact k4, isA_ext e k5, by rw [a]; exact k6, lineAt_ext e hg k7, by rw [a]; exact k8, lineAt_ext e hm k9⟩
theorem dX0_init_0 : decode cX0_init 0 = .ok (.aload_n 0, 1) := by decide +kernel
theorem dX0_init_1 : decode cX0_init 1 = .ok (.invokespecial 3, 3) := by decide +kernel
theorem dX0_init_4 : decode cX0_init 4 = .ok (.return_, 1) := by decide +kernel
set_option maxRecDepth 100000 in
set_option maxHeartbeats 4000000 in
theorem ct_X0_init (l : Launch) (h : Nat) : Ct l yX0_init cX0_init 1 none 1 0 0 12 (fun S av => av = [.ref h] ∧ is S h 0) (fun S _ r0 S' => r0 = none ∧ S' = S) := by
  refine ct_of (by decide) (fun S av h => by obtain ⟨rfl, hh⟩ := h; exact Nat.le_of_ble_eq_true rfl) ?_
  intro p e s m args below meth c D G bs S av C hr hin hpre
  obtain ⟨rfl, hh⟩ := hpre
  refine v_aload_n C dX0_init_0 rfl ?_
  refine v_objInit C wd60 wd11 wd12 dX0_init_1 (Nat.le_of_ble_eq_true rfl) (Nat.le_of_ble_eq_true rfl) ?_
  refine v_vret C hr (Nat.le_of_ble_eq_true rfl) (Nat.le_of_ble_eq_true rfl) dX0_init_4 ?_
  exact ⟨rfl, rfl⟩

theorem x_nLine {S S' : Mem} {h r q : Nat} (e : S' = nLine S h r q) (n1 : r ∉ mL S) (n2 : q ∉ mL S) (n3 : q ≠ r) : ext S S' (fun a => a = h) := by subst e; exact ext_nLine ext_rfl n1 n2 n3 (Or.inl rfl)
theorem lineAt_nLineE {S S' : Mem} {h r q : Nat} (e : S' = nLine S h r q) (hh : is S h 3) (n1 : r ∉ mL S) (n2 : q ∉ mL S) (n3 : q ≠ r) : lineAt S' h r q := by subst e; exact nLine_lineAt hh n1 n2 n3
theorem mO_nLine {S : Mem} {h r q : Nat} (g a : Nat) (hg : g ≠ 192 ∧ g ≠ 193) : mO (nLine S h r q) g a = mO S g a := by
  simp only [nLine, mO_sFill, mO_sO, mO_sArr]
  rw [if_neg (fun z => hg.2 z.1), if_neg (fun z => hg.1 z.1)]
theorem mP_nLine {S : Mem} {h r q : Nat} (a i : Nat) (h1 : a ≠ r) (h2 : a ≠ q) : mP (nLine S h r q) a i = mP S a i := by
  simp only [nLine, mP_sFill, mP_sO, mP_sArr]
  rw [if_neg h2, if_neg h1]
theorem mI_nLine {S : Mem} {h r q : Nat} (g a : Nat) : mI (nLine S h r q) g a = mI S g a := Eq.mpr rfl rfl
theorem dX4_init_0 : decode cX4_init 0 = .ok (.aload_n 0, 1) := by decide +kernel
theorem dX4_init_1 : decode cX4_init 1 = .ok (.invokespecial 3, 3) := by decide +kernel
theorem dX4_init_4 : decode cX4_init 4 = .ok (.aload_n 0, 1) := by decide +kernel
theorem dX4_init_5 : decode cX4_init 5 = .ok (.bipush 7, 2) := by decide +kernel
theorem dX4_init_7 : decode cX4_init 7 = .ok (.anewarray 11, 3) := by decide +kernel
theorem dX4_init_10 : decode cX4_init 10 = .ok (.putfield 13, 3) := by decide +kernel
theorem dX4_init_13 : decode cX4_init 13 = .ok (.aload_n 0, 1) := by decide +kernel
theorem dX4_init_14 : decode cX4_init 14 = .ok (.bipush 7, 2) := by decide +kernel
theorem dX4_init_16 : decode cX4_init 16 = .ok (.newarray .int, 2) := by decide +kernel
theorem dX4_init_18 : decode cX4_init 18 = .ok (.putfield 17, 3) := by decide +kernel
theorem dX4_init_21 : decode cX4_init 21 = .ok (.aload_n 0, 1) := by decide +kernel
theorem dX4_init_22 : decode cX4_init 22 = .ok (.new 11, 3) := by decide +kernel
theorem dX4_init_25 : decode cX4_init 25 = .ok (.dup, 1) := by decide +kernel
theorem dX4_init_26 : decode cX4_init 26 = .ok (.invokespecial 21, 3) := by decide +kernel
theorem dX4_init_29 : decode cX4_init 29 = .ok (.putfield 22, 3) := by decide +kernel
theorem dX4_init_32 : decode cX4_init 32 = .ok (.aload_n 0, 1) := by decide +kernel
theorem dX4_init_33 : decode cX4_init 33 = .ok (.new 11, 3) := by decide +kernel
theorem dX4_init_36 : decode cX4_init 36 = .ok (.dup, 1) := by decide +kernel
theorem dX4_init_37 : decode cX4_init 37 = .ok (.invokespecial 21, 3) := by decide +kernel
theorem dX4_init_40 : decode cX4_init 40 = .ok (.putfield 26, 3) := by decide +kernel
theorem dX4_init_43 : decode cX4_init 43 = .ok (.return_, 1) := by decide +kernel
set_option maxRecDepth 100000 in
set_option maxHeartbeats 4000000 in
theorem ct_X4_init (l : Launch) (h : Nat) : Ct l yX4_init cX4_init 1 none 2 8 100 43 (fun S av => av = [.ref h] ∧ is S h 4) (fun S _ r0 S' => r0 = none ∧ ext S S' (fun a => a = h) ∧ ∃ rw ft gl gr gq ml mr mq, mergerAt S' h rw ft gl gr gq ml mr mq) := by
  refine ct_of (by decide) (fun S av h => by obtain ⟨rfl, hh⟩ := h; exact Nat.le_of_ble_eq_true rfl) ?_
  intro p e s m args below meth c D G bs S av C hr hin hpre
  obtain ⟨rfl, hh⟩ := hpre
  have E0 : ext S S (fun a => a = h) := ext_rfl
  refine v_aload_n C dX4_init_0 rfl ?_
  refine v_objInit C wd39 wd11 wd12 dX4_init_1 (Nat.le_of_ble_eq_true rfl) (Nat.le_of_ble_eq_true rfl) ?_
  refine v_aload_n C dX4_init_4 rfl ?_
  refine v_bipush (v := 7) C dX4_init_5 (by decide) ?_
  refine v_newrefs C (kd := 15) (N := 7) (t0 := 4) (by decide) (by decide +kernel) wd40 rfl (by decide) (by decide) (Nat.le_of_ble_eq_true rfl) (Nat.le_of_ble_eq_true rfl) (Nat.le_of_ble_eq_true rfl) dX4_init_7 (fun rw n_rw => ?_)
  have z_hh_rw := ne_of_is n_rw hh
  refine V.gen (fun S_7 e_7 => ?_)
  have w_rw := nm_ext E0 n_rw
  have x_7 := x_sArr e_7 n_rw
  have hh := is_ext x_7 hh
  have i_rw := isA_sArrE (kd := 15) (n := 7) e_7 n_rw
  have E_7 := ext_tr E0 x_7 (fun _ _ z => z.elim)
  refine p4_13 (v := some _) C hh (hin rfl) dX4_init_10 ?_
  refine V.gen (fun S_10 e_10 => ?_)
  have x_10 := x_sO e_10
  have hh := is_ext x_10 hh
  have i_rw := isA_ext x_10 i_rw
  have E_10 := ext_tr E_7 x_10 (fun _ _ z => z)
  refine v_aload_n C dX4_init_13 rfl ?_
  refine v_bipush (v := 7) C dX4_init_14 (by decide) ?_
  refine v_newarr C (kd := 11) (N := 7) wd42 rfl (t0 := 0) rfl (by decide) (fun _ => cell_newI (Or.inl rfl)) (fun _ => vp_cell_i _ _ _) (by decide) (by decide) (Nat.le_of_ble_eq_true rfl) (Nat.le_of_ble_eq_true rfl) (Nat.le_of_ble_eq_true rfl) dX4_init_16 (fun ft n_ft => ?_)
  have z_hh_ft := ne_of_is n_ft hh
  have z_i_rw_ft := ne_of_isA n_ft i_rw
  refine V.gen (fun S_16 e_16 => ?_)
  have w_ft := nm_ext E_10 n_ft
  have x_16 := x_sArr e_16 n_ft
  have hh := is_ext x_16 hh
  have i_rw := isA_ext x_16 i_rw
  have i_ft := isA_sArrE (kd := 11) (n := 7) e_16 n_ft
  have E_16 := ext_tr E_10 x_16 (fun _ _ z => z.elim)
  refine p4_17 (v := some _) C hh (hin rfl) dX4_init_18 ?_
  refine V.gen (fun S_18 e_18 => ?_)
  have x_18 := x_sO e_18
  have hh := is_ext x_18 hh
  have i_rw := isA_ext x_18 i_rw
  have i_ft := isA_ext x_18 i_ft
  have E_18 := ext_tr E_16 x_18 (fun _ _ z => z)
  refine v_aload_n C dX4_init_21 rfl ?_
  refine v_new C (ci := 3) (by decide) rfl inlX3 tyX3_ok wd40 wd44 wd45 nfX3 (Nat.le_of_ble_eq_true rfl) (Nat.le_of_ble_eq_true rfl) dX4_init_22 (fun gl n_gl => ?_)
  have z_hh_gl := ne_of_is n_gl hh
  have z_i_rw_gl := ne_of_isA n_gl i_rw
  have z_i_ft_gl := ne_of_isA n_gl i_ft
  refine V.gen (fun S_22 e_22 => ?_)
  have w_gl := nm_ext E_18 n_gl
  have x_22 := x_sNew e_22 n_gl
  have hh := is_ext x_22 hh
  have i_rw := isA_ext x_22 i_rw
  have i_ft := isA_ext x_22 i_ft
  have i_gl := is_sNewE (ci := 3) e_22 n_gl
  have E_22 := ext_tr E_18 x_22 (fun _ _ z => z.elim)
  refine v_dup C dX4_init_25 rfl ?_
  refine v_callI (As := []) (n := 0) C (ct_X3_init l gl) rfl ⟨wd48, wd49, wd45, wd50⟩ rfl hy_X3_init rfl ⟨Nat.le_of_ble_eq_true rfl, Nat.le_of_ble_eq_true rfl⟩ (Nat.le_of_ble_eq_true rfl) ⟨Nat.le_of_ble_eq_true rfl, Nat.le_of_ble_eq_true rfl⟩ dX4_init_26 ⟨rfl, i_gl⟩ (fun r_26 S_26 h_26 => ?_)
  obtain ⟨rfl, gr, gq, n_gr, n_gq, y_gl, e_26⟩ := h_26
  have x_26 := x_nLine e_26 n_gr n_gq y_gl
  have l_gl := lineAt_nLineE e_26 i_gl n_gr n_gq y_gl
  have hh := is_ext x_26 hh
  have i_rw := isA_ext x_26 i_rw
  have i_ft := isA_ext x_26 i_ft
  have i_gl := is_ext x_26 i_gl
  have E_26 := ext_tr E_22 x_26 (fun a ha z => absurd (z ▸ ha) w_gl)
  skip
  refine p4_22 (v := some _) C hh (hin rfl) dX4_init_29 ?_
  refine V.gen (fun S_29 e_29 => ?_)
  have x_29 := x_sO e_29
  have hh := is_ext x_29 hh
  have i_rw := isA_ext x_29 i_rw
  have i_ft := isA_ext x_29 i_ft
  have i_gl := is_ext x_29 i_gl
  have l_gl := lineAt_ext x_29 z_hh_gl.symm l_gl
  have E_29 := ext_tr E_26 x_29 (fun _ _ z => z)
  refine v_aload_n C dX4_init_32 rfl ?_
  refine v_new C (ci := 3) (by decide) rfl inlX3 tyX3_ok wd40 wd44 wd45 nfX3 (Nat.le_of_ble_eq_true rfl) (Nat.le_of_ble_eq_true rfl) dX4_init_33 (fun ml n_ml => ?_)
  have z_hh_ml := ne_of_is n_ml hh
  have z_i_rw_ml := ne_of_isA n_ml i_rw
  have z_i_ft_ml := ne_of_isA n_ml i_ft
  have z_i_gl_ml := ne_of_is n_ml i_gl
  refine V.gen (fun S_33 e_33 => ?_)
  have w_ml := nm_ext E_29 n_ml
  have x_33 := x_sNew e_33 n_ml
  have hh := is_ext x_33 hh
  have i_rw := isA_ext x_33 i_rw
  have i_ft := isA_ext x_33 i_ft
  have i_gl := is_ext x_33 i_gl
  have i_ml := is_sNewE (ci := 3) e_33 n_ml
  have l_gl := lineAt_ext x_33 (fun z => z) l_gl
  have E_33 := ext_tr E_29 x_33 (fun _ _ z => z.elim)
  refine v_dup C dX4_init_36 rfl ?_
  refine v_callI (As := []) (n := 0) C (ct_X3_init l ml) rfl ⟨wd48, wd49, wd45, wd50⟩ rfl hy_X3_init rfl ⟨Nat.le_of_ble_eq_true rfl, Nat.le_of_ble_eq_true rfl⟩ (Nat.le_of_ble_eq_true rfl) ⟨Nat.le_of_ble_eq_true rfl, Nat.le_of_ble_eq_true rfl⟩ dX4_init_37 ⟨rfl, i_ml⟩ (fun r_37 S_37 h_37 => ?_)
  obtain ⟨rfl, mr, mq, n_mr, n_mq, y_ml, e_37⟩ := h_37
  have x_37 := x_nLine e_37 n_mr n_mq y_ml
  have l_ml := lineAt_nLineE e_37 i_ml n_mr n_mq y_ml
  have hh := is_ext x_37 hh
  have i_rw := isA_ext x_37 i_rw
  have i_ft := isA_ext x_37 i_ft
  have i_gl := is_ext x_37 i_gl
  have i_ml := is_ext x_37 i_ml
  have E_37 := ext_tr E_33 x_37 (fun a ha z => absurd (z ▸ ha) w_ml)
  have l_gl := lineAt_ext x_37 z_i_gl_ml l_gl
  refine p4_26 (v := some _) C hh (hin rfl) dX4_init_40 ?_
  refine V.gen (fun S_40 e_40 => ?_)
  have x_40 := x_sO e_40
  have hh := is_ext x_40 hh
  have i_rw := isA_ext x_40 i_rw
  have i_ft := isA_ext x_40 i_ft
  have i_gl := is_ext x_40 i_gl
  have i_ml := is_ext x_40 i_ml
  have l_gl := lineAt_ext x_40 z_hh_gl.symm l_gl
  have l_ml := lineAt_ext x_40 z_hh_ml.symm l_ml
  have E_40 := ext_tr E_37 x_40 (fun _ _ z => z)
  refine v_vret C hr (Nat.le_of_ble_eq_true rfl) (Nat.le_of_ble_eq_true rfl) dX4_init_43 ?_
  refine ⟨rfl, E_40, rw, ft, gl, gr, gq, ml, mr, mq, hh, ?_, i_rw, ?_, i_ft, ?_, l_gl, ?_, l_ml⟩ <;> simp [mO_sO, mO_sArr, mO_sNew, mO_nLine, z_hh_gl, z_hh_ml, e_40, e_37, e_33, e_29, e_26, e_22, e_18, e_16, e_10, e_7]

theorem ne_kind {S : Mem} {a b k k' : Nat} (h1 : is S a k) (h2 : is S b k') (hk : k ≠ k') : a ≠ b := by rintro rfl; exact hk (h1.2.symm.trans h2.2)
theorem ne_kindA {S : Mem} {a b k k' n : Nat} (h1 : isA S a k n) (h2 : is S b k') (hk : k ≠ k') : a ≠ b := by rintro rfl; exact hk (h1.2.1.symm.trans h2.2)
def companyAt (S : Mem) (h ts fs mg ch rw ft gl gr gq ml mr mq : Nat) : Prop := is S h 1 ∧ mO S 64 h = some ts ∧ isA S ts 17 20 ∧ mO S 66 h = some fs ∧ isA S fs 14 12 ∧ mO S 68 h = some mg ∧ mergerAt S mg rw ft gl gr gq ml mr mq ∧ mO S 69 h = some ch ∧ is S ch 0
theorem companyAt_ext {S S' : Mem} {X : Nat → Prop} {h ts fs mg ch rw ft gl gr gq ml mr mq : Nat} (e : ext S S' X) (hx : ¬ X h) (h1 : ¬ X mg) (h2 : ¬ X gl) (h3 : ¬ X ml) (k : companyAt S h ts fs mg ch rw ft gl gr gq ml mr mq) : companyAt S' h ts fs mg ch rw ft gl gr gq ml mr mq := by
  obtain ⟨k1, k2, k3, k4, k5, k6, k7, k8, k9⟩ := k
  have a := (e.2 h k1.1 hx).2.1
  exact ⟨is_ext e k1, by rw [a]; exact k2, isA_ext e k3, by rw [a]; exact k4, isA_ext e k5, by rw [a]; exact k6, mergerAt_ext e h1 h2 h3 k7, by rw [a]; exact k8, is_ext e k9⟩
def stageAt (S : Mem) (h co tp cs : Nat) : Prop := is S h 6 ∧ mO S 384 h = some co ∧ mO S 385 h = some tp ∧ is S tp 7 ∧ mO S 448 tp = some cs ∧ isA S cs 12 1000
theorem stageAt_ext {S S' : Mem} {X : Nat → Prop} {h co tp cs : Nat} (e : ext S S' X) (hx : ¬ X h) (h1 : ¬ X tp) (k : stageAt S h co tp cs) : stageAt S' h co tp cs := by
  obtain ⟨k1, k2, k3, k4, k5, k6⟩ := k
  have a := (e.2 h k1.1 hx).2.1
  have b := (e.2 tp k4.1 h1).2.1
  exact ⟨is_ext e k1, by rw [a]; exact k2, by rw [a]; exact k3, is_ext e k4, by rw [b]; exact k5, isA_ext e k6⟩
theorem dX1_init_0 : decode cX1_init 0 = .ok (.aload_n 0, 1) := by decide +kernel
theorem dX1_init_1 : decode cX1_init 1 = .ok (.invokespecial 3, 3) := by decide +kernel
theorem dX1_init_4 : decode cX1_init 4 = .ok (.aload_n 0, 1) := by decide +kernel
theorem dX1_init_5 : decode cX1_init 5 = .ok (.bipush 20, 2) := by decide +kernel
theorem dX1_init_7 : decode cX1_init 7 = .ok (.anewarray 9, 3) := by decide +kernel
theorem dX1_init_10 : decode cX1_init 10 = .ok (.putfield 11, 3) := by decide +kernel
theorem dX1_init_13 : decode cX1_init 13 = .ok (.aload_n 0, 1) := by decide +kernel
theorem dX1_init_14 : decode cX1_init 14 = .ok (.bipush 12, 2) := by decide +kernel
theorem dX1_init_16 : decode cX1_init 16 = .ok (.anewarray 17, 3) := by decide +kernel
theorem dX1_init_19 : decode cX1_init 19 = .ok (.putfield 19, 3) := by decide +kernel
theorem dX1_init_22 : decode cX1_init 22 = .ok (.aload_n 0, 1) := by decide +kernel
theorem dX1_init_23 : decode cX1_init 23 = .ok (.new 23, 3) := by decide +kernel
theorem dX1_init_26 : decode cX1_init 26 = .ok (.dup, 1) := by decide +kernel
theorem dX1_init_27 : decode cX1_init 27 = .ok (.invokespecial 25, 3) := by decide +kernel
theorem dX1_init_30 : decode cX1_init 30 = .ok (.putfield 26, 3) := by decide +kernel
theorem dX1_init_33 : decode cX1_init 33 = .ok (.aload_n 0, 1) := by decide +kernel
theorem dX1_init_34 : decode cX1_init 34 = .ok (.new 30, 3) := by decide +kernel
theorem dX1_init_37 : decode cX1_init 37 = .ok (.dup, 1) := by decide +kernel
theorem dX1_init_38 : decode cX1_init 38 = .ok (.invokespecial 32, 3) := by decide +kernel
theorem dX1_init_41 : decode cX1_init 41 = .ok (.putfield 33, 3) := by decide +kernel
theorem dX1_init_44 : decode cX1_init 44 = .ok (.return_, 1) := by decide +kernel
set_option maxRecDepth 100000 in
set_option maxHeartbeats 4000000 in
theorem ct_X1_init (l : Launch) (h : Nat) : Ct l yX1_init cX1_init 1 none 3 12 147 63 (fun S av => av = [.ref h] ∧ is S h 1) (fun S _ r0 S' => r0 = none ∧ ext S S' (fun a => a = h) ∧ (∀ g, mI S' g h = mI S g h) ∧ ∃ ts fs mg ch rw ft gl gr gq ml mr mq, companyAt S' h ts fs mg ch rw ft gl gr gq ml mr mq ∧ (∀ i, mP S' ts i = none) ∧ ∀ i, mP S' fs i = none) := by
  refine ct_of (by decide) (fun S av h => by obtain ⟨rfl, hh⟩ := h; exact Nat.le_of_ble_eq_true rfl) ?_
  intro p e s m args below meth c D G bs S av C hr hin hpre
  obtain ⟨rfl, hh⟩ := hpre
  have E0 : ext S S (fun a => a = h) := ext_rfl
  refine v_aload_n C dX1_init_0 rfl ?_
  refine v_objInit C wd24 wd11 wd12 dX1_init_1 (Nat.le_of_ble_eq_true rfl) (Nat.le_of_ble_eq_true rfl) ?_
  refine v_aload_n C dX1_init_4 rfl ?_
  refine v_bipush (v := 20) C dX1_init_5 (by decide) ?_
  refine v_newrefs C (kd := 17) (N := 20) (t0 := 6) (by decide) (by decide +kernel) wd25 rfl (by decide) (by decide) (Nat.le_of_ble_eq_true rfl) (Nat.le_of_ble_eq_true rfl) (Nat.le_of_ble_eq_true rfl) dX1_init_7 (fun ts n_ts => ?_)
  have z_hh_ts := ne_of_is n_ts hh
  refine V.gen (fun S_7 e_7 => ?_)
  have w_ts := nm_ext E0 n_ts
  have x_7 := x_sArr e_7 n_ts
  have hh := is_ext x_7 hh
  have i_ts := isA_sArrE (kd := 17) (n := 20) e_7 n_ts
  have E_7 := ext_tr E0 x_7 (fun _ _ z => z.elim)
  refine p1_11 (v := some _) C hh (hin rfl) dX1_init_10 ?_
  refine V.gen (fun S_10 e_10 => ?_)
  have x_10 := x_sO e_10
  have hh := is_ext x_10 hh
  have i_ts := isA_ext x_10 i_ts
  have E_10 := ext_tr E_7 x_10 (fun _ _ z => z)
  refine v_aload_n C dX1_init_13 rfl ?_
  refine v_bipush (v := 12) C dX1_init_14 (by decide) ?_
  refine v_newrefs C (kd := 14) (N := 12) (t0 := 3) (by decide) (by decide +kernel) wd27 rfl (by decide) (by decide) (Nat.le_of_ble_eq_true rfl) (Nat.le_of_ble_eq_true rfl) (Nat.le_of_ble_eq_true rfl) dX1_init_16 (fun fs n_fs => ?_)
  have z_hh_fs := ne_of_is n_fs hh
  have z_i_ts_fs := ne_of_isA n_fs i_ts
  refine V.gen (fun S_16 e_16 => ?_)
  have w_fs := nm_ext E_10 n_fs
  have x_16 := x_sArr e_16 n_fs
  have hh := is_ext x_16 hh
  have i_ts := isA_ext x_16 i_ts
  have i_fs := isA_sArrE (kd := 14) (n := 12) e_16 n_fs
  have E_16 := ext_tr E_10 x_16 (fun _ _ z => z.elim)
  refine p1_19 (v := some _) C hh (hin rfl) dX1_init_19 ?_
  refine V.gen (fun S_19 e_19 => ?_)
  have x_19 := x_sO e_19
  have hh := is_ext x_19 hh
  have i_ts := isA_ext x_19 i_ts
  have i_fs := isA_ext x_19 i_fs
  have E_19 := ext_tr E_16 x_19 (fun _ _ z => z)
  refine v_aload_n C dX1_init_22 rfl ?_
  refine v_new C (ci := 4) (by decide) rfl inlX4 tyX4_ok wd29 wd30 wd31 nfX4 (Nat.le_of_ble_eq_true rfl) (Nat.le_of_ble_eq_true rfl) dX1_init_23 (fun mg n_mg => ?_)
  have z_hh_mg := ne_of_is n_mg hh
  have z_i_ts_mg := ne_of_isA n_mg i_ts
  have z_i_fs_mg := ne_of_isA n_mg i_fs
  refine V.gen (fun S_23 e_23 => ?_)
  have w_mg := nm_ext E_19 n_mg
  have x_23 := x_sNew e_23 n_mg
  have hh := is_ext x_23 hh
  have i_ts := isA_ext x_23 i_ts
  have i_fs := isA_ext x_23 i_fs
  have i_mg := is_sNewE (ci := 4) e_23 n_mg
  have E_23 := ext_tr E_19 x_23 (fun _ _ z => z.elim)
  refine v_dup C dX1_init_26 rfl ?_
  refine v_callIN (As := []) (n := 0) C (ct_X4_init l mg) rfl ⟨(by decide +kernel), wd37, wd31, wd38⟩ rfl hy_X4_init rfl ⟨Nat.le_of_ble_eq_true rfl, Nat.le_of_ble_eq_true rfl⟩ (Nat.le_of_ble_eq_true rfl) ⟨Nat.le_of_ble_eq_true rfl, Nat.le_of_ble_eq_true rfl⟩ dX1_init_27 ⟨rfl, i_mg⟩ (fun r_27 S_27 h_27 => ?_)
  obtain ⟨rfl, x_27, rw, ft, gl, gr, gq, ml, mr, mq, k_mg⟩ := h_27
  have a_27 := x_27.2 h hh.1 z_hh_mg
  have at_27 := x_27.2 ts i_ts.1 z_i_ts_mg
  have af_27 := x_27.2 fs i_fs.1 z_i_fs_mg
  have hh := is_ext x_27 hh
  have i_ts := isA_ext x_27 i_ts
  have i_fs := isA_ext x_27 i_fs
  have i_mg := is_ext x_27 i_mg
  have E_27 := ext_tr E_23 x_27 (fun a ha z => absurd (z ▸ ha) w_mg)
  have nh1 := ne_kind k_mg.1 hh (by decide)
  have nh2 := ne_kind k_mg.2.2.2.2.2.2.1.1 hh (by decide)
  have nh3 := ne_kind k_mg.2.2.2.2.2.2.2.2.1 hh (by decide)
  refine p1_26 (v := some _) C hh (hin rfl) dX1_init_30 ?_
  refine V.gen (fun S_30 e_30 => ?_)
  have x_30 := x_sO e_30
  have hh := is_ext x_30 hh
  have i_ts := isA_ext x_30 i_ts
  have i_fs := isA_ext x_30 i_fs
  have i_mg := is_ext x_30 i_mg
  have k_mg := mergerAt_ext x_30 nh1 nh2 nh3 k_mg
  have E_30 := ext_tr E_27 x_30 (fun _ _ z => z)
  refine v_aload_n C dX1_init_33 rfl ?_
  refine v_new C (ci := 0) (by decide) rfl inlX0 tyX0_ok wd33 wd34 wd35 nfX0 (Nat.le_of_ble_eq_true rfl) (Nat.le_of_ble_eq_true rfl) dX1_init_34 (fun ch n_ch => ?_)
  have z_hh_ch := ne_of_is n_ch hh
  have z_i_ts_ch := ne_of_isA n_ch i_ts
  have z_i_fs_ch := ne_of_isA n_ch i_fs
  have z_i_mg_ch := ne_of_is n_ch i_mg
  refine V.gen (fun S_34 e_34 => ?_)
  have w_ch := nm_ext E_30 n_ch
  have x_34 := x_sNew e_34 n_ch
  have hh := is_ext x_34 hh
  have i_ts := isA_ext x_34 i_ts
  have i_fs := isA_ext x_34 i_fs
  have i_mg := is_ext x_34 i_mg
  have i_ch := is_sNewE (ci := 0) e_34 n_ch
  have k_mg := mergerAt_ext x_34 (fun z => z) (fun z => z) (fun z => z) k_mg
  have E_34 := ext_tr E_30 x_34 (fun _ _ z => z.elim)
  refine v_dup C dX1_init_37 rfl ?_
  refine v_callIN (As := []) (n := 0) C (ct_X0_init l ch) rfl ⟨(by decide +kernel), wd58, wd35, wd59⟩ rfl hy_X0_init rfl ⟨Nat.le_of_ble_eq_true rfl, Nat.le_of_ble_eq_true rfl⟩ (Nat.le_of_ble_eq_true rfl) ⟨Nat.le_of_ble_eq_true rfl, Nat.le_of_ble_eq_true rfl⟩ dX1_init_38 ⟨rfl, i_ch⟩ (fun r_38 S_38 h_38 => ?_)
  obtain ⟨rfl, q_38⟩ := h_38
  obtain rfl := q_38.symm
  refine p1_33 (v := some _) C hh (hin rfl) dX1_init_41 ?_
  refine V.gen (fun S_41 e_41 => ?_)
  have x_41 := x_sO e_41
  have hh := is_ext x_41 hh
  have i_ts := isA_ext x_41 i_ts
  have i_fs := isA_ext x_41 i_fs
  have i_mg := is_ext x_41 i_mg
  have i_ch := is_ext x_41 i_ch
  have k_mg := mergerAt_ext x_41 nh1 nh2 nh3 k_mg
  have E_41 := ext_tr E_34 x_41 (fun _ _ z => z)
  refine v_vret C hr (Nat.le_of_ble_eq_true rfl) (Nat.le_of_ble_eq_true rfl) dX1_init_44 ?_
  refine ⟨rfl, E_41, fun g => ?_, ts, fs, mg, ch, rw, ft, gl, gr, gq, ml, mr, mq, ⟨hh, ?_, i_ts, ?_, i_fs, ?_, k_mg, ?_, i_ch⟩, fun i => ?_, fun i => ?_⟩ <;> simp [mO_sO, mO_sArr, mO_sNew, mI_sO, mI_sArr, mI_sNew, mP_sO, mP_sArr, mP_sNew, mJ_sO, mJ_sArr, mJ_sNew, a_27.1, a_27.2.1, at_27.2.2.2.2.1, af_27.2.2.2.2.1, z_hh_mg, z_hh_ch, z_i_ts_fs, z_i_ts_mg, z_i_fs_mg, e_41, e_34, e_30, e_23, e_19, e_16, e_10, e_7]

theorem dX7_init_0 : decode cX7_init 0 = .ok (.aload_n 0, 1) := by decide +kernel
theorem dX7_init_1 : decode cX7_init 1 = .ok (.invokespecial 3, 3) := by decide +kernel
theorem dX7_init_4 : decode cX7_init 4 = .ok (.aload_n 0, 1) := by decide +kernel
theorem dX7_init_5 : decode cX7_init 5 = .ok (.sipush 1000, 3) := by decide +kernel
theorem dX7_init_8 : decode cX7_init 8 = .ok (.newarray .long, 2) := by decide +kernel
theorem dX7_init_10 : decode cX7_init 10 = .ok (.putfield 11, 3) := by decide +kernel
theorem dX7_init_13 : decode cX7_init 13 = .ok (.return_, 1) := by decide +kernel
set_option maxRecDepth 100000 in
set_option maxHeartbeats 4000000 in
theorem ct_X7_init (l : Launch) (h : Nat) : Ct l yX7_init cX7_init 1 none 1 1 1000 12 (fun S av => av = [.ref h] ∧ is S h 7) (fun S _ r0 S' => r0 = none ∧ ext S S' (fun a => a = h) ∧ (∀ g, mI S' g h = mI S g h) ∧ ∃ cs, is S' h 7 ∧ mO S' 448 h = some cs ∧ isA S' cs 12 1000) := by
  refine ct_of (by decide) (fun S av h => by obtain ⟨rfl, hh⟩ := h; exact Nat.le_of_ble_eq_true rfl) ?_
  intro p e s m args below meth c D G bs S av C hr hin hpre
  obtain ⟨rfl, hh⟩ := hpre
  have E0 : ext S S (fun a => a = h) := ext_rfl
  refine v_aload_n C dX7_init_0 rfl ?_
  refine v_objInit C wd72 wd11 wd12 dX7_init_1 (Nat.le_of_ble_eq_true rfl) (Nat.le_of_ble_eq_true rfl) ?_
  refine v_aload_n C dX7_init_4 rfl ?_
  refine v_sipush (v := 1000) C dX7_init_5 (by decide) ?_
  refine v_newarr C (kd := 12) (N := 1000) wd73 rfl (t0 := 1) rfl (by decide) (fun _ => cell_newJ) (fun _ => vp_cell_l _ _ _) (by decide) (by decide) (Nat.le_of_ble_eq_true rfl) (Nat.le_of_ble_eq_true rfl) (Nat.le_of_ble_eq_true rfl) dX7_init_8 (fun cs n_cs => ?_)
  have z_hh_cs := ne_of_is n_cs hh
  refine V.gen (fun S_8 e_8 => ?_)
  have w_cs := nm_ext E0 n_cs
  have x_8 := x_sArr e_8 n_cs
  have hh := is_ext x_8 hh
  have i_cs := isA_sArrE (kd := 12) (n := 1000) e_8 n_cs
  have E_8 := ext_tr E0 x_8 (fun _ _ z => z.elim)
  refine p7_11 (v := some _) C hh (hin rfl) dX7_init_10 ?_
  refine V.gen (fun S_10 e_10 => ?_)
  have x_10 := x_sO e_10
  have hh := is_ext x_10 hh
  have i_cs := isA_ext x_10 i_cs
  have E_10 := ext_tr E_8 x_10 (fun _ _ z => z)
  refine v_vret C hr (Nat.le_of_ble_eq_true rfl) (Nat.le_of_ble_eq_true rfl) dX7_init_13 ?_
  refine ⟨rfl, E_10, fun g => ?_, cs, hh, ?_, i_cs⟩ <;> simp [mO_sO, mO_sArr, mO_sNew, mI_sO, mI_sArr, mI_sNew, mP_sO, mP_sArr, mP_sNew, mJ_sO, mJ_sArr, mJ_sNew, e_10, e_8]

theorem dX6_init_0 : decode cX6_init 0 = .ok (.aload_n 0, 1) := by decide +kernel
theorem dX6_init_1 : decode cX6_init 1 = .ok (.invokespecial 3, 3) := by decide +kernel
theorem dX6_init_4 : decode cX6_init 4 = .ok (.aload_n 0, 1) := by decide +kernel
theorem dX6_init_5 : decode cX6_init 5 = .ok (.new 9, 3) := by decide +kernel
theorem dX6_init_8 : decode cX6_init 8 = .ok (.dup, 1) := by decide +kernel
theorem dX6_init_9 : decode cX6_init 9 = .ok (.invokespecial 11, 3) := by decide +kernel
theorem dX6_init_12 : decode cX6_init 12 = .ok (.putfield 12, 3) := by decide +kernel
theorem dX6_init_15 : decode cX6_init 15 = .ok (.aload_n 0, 1) := by decide +kernel
theorem dX6_init_16 : decode cX6_init 16 = .ok (.aload_n 1, 1) := by decide +kernel
theorem dX6_init_17 : decode cX6_init 17 = .ok (.putfield 18, 3) := by decide +kernel
theorem dX6_init_20 : decode cX6_init 20 = .ok (.return_, 1) := by decide +kernel
set_option maxRecDepth 100000 in
set_option maxHeartbeats 4000000 in
theorem ct_X6_init (l : Launch) (h co : Nat) : Ct l yX6_init cX6_init 2 none 2 2 1002 32 (fun S av => av = [.ref h, .ref co] ∧ is S h 6) (fun S _ r0 S' => r0 = none ∧ ext S S' (fun a => a = h) ∧ (∀ g, mI S' g h = mI S g h) ∧ (∀ g, mJ S' g h = mJ S g h) ∧ ∃ tp cs, stageAt S' h co tp cs ∧ mI S' 449 tp = 0) := by
  refine ct_of (by decide) (fun S av h => by obtain ⟨rfl, hh⟩ := h; exact Nat.le_of_ble_eq_true rfl) ?_
  intro p e s m args below meth c D G bs S av C hr hin hpre
  obtain ⟨rfl, hh⟩ := hpre
  have E0 : ext S S (fun a => a = h) := ext_rfl
  refine v_aload_n C dX6_init_0 rfl ?_
  refine v_objInit C wd64 wd11 wd12 dX6_init_1 (Nat.le_of_ble_eq_true rfl) (Nat.le_of_ble_eq_true rfl) ?_
  refine v_aload_n C dX6_init_4 rfl ?_
  refine v_new C (ci := 7) (by decide) rfl inlX7 tyX7_ok wd65 wd66 wd67 nfX7 (Nat.le_of_ble_eq_true rfl) (Nat.le_of_ble_eq_true rfl) dX6_init_5 (fun tp n_tp => ?_)
  have z_hh_tp := ne_of_is n_tp hh
  refine V.gen (fun S_5 e_5 => ?_)
  have w_tp := nm_ext E0 n_tp
  have x_5 := x_sNew e_5 n_tp
  have hh := is_ext x_5 hh
  have i_tp := is_sNewE (ci := 7) e_5 n_tp
  have E_5 := ext_tr E0 x_5 (fun _ _ z => z.elim)
  refine v_dup C dX6_init_8 rfl ?_
  refine v_callIN (As := []) (n := 0) C (ct_X7_init l tp) rfl ⟨(by decide +kernel), wd70, wd67, wd71⟩ rfl hy_X7_init rfl ⟨Nat.le_of_ble_eq_true rfl, Nat.le_of_ble_eq_true rfl⟩ (Nat.le_of_ble_eq_true rfl) ⟨Nat.le_of_ble_eq_true rfl, Nat.le_of_ble_eq_true rfl⟩ dX6_init_9 ⟨rfl, i_tp⟩ (fun r_9 S_9 h_9 => ?_)
  obtain ⟨rfl, x_9, t_9, cs, -, k1, i_cs⟩ := h_9
  have a_9 := x_9.2 h hh.1 z_hh_tp
  have hh := is_ext x_9 hh
  have i_tp := is_ext x_9 i_tp
  have E_9 := ext_tr E_5 x_9 (fun a ha z => absurd (z ▸ ha) w_tp)
  skip
  refine p6_12 (v := some _) C hh (hin rfl) dX6_init_12 ?_
  refine V.gen (fun S_12 e_12 => ?_)
  have x_12 := x_sO e_12
  have hh := is_ext x_12 hh
  have i_tp := is_ext x_12 i_tp
  have i_cs := isA_ext x_12 i_cs
  have E_12 := ext_tr E_9 x_12 (fun _ _ z => z)
  refine v_aload_n C dX6_init_15 rfl ?_
  refine v_aload_n C dX6_init_16 rfl ?_
  refine p6_18 (v := some _) C hh (hin rfl) dX6_init_17 ?_
  refine V.gen (fun S_17 e_17 => ?_)
  have x_17 := x_sO e_17
  have hh := is_ext x_17 hh
  have i_tp := is_ext x_17 i_tp
  have i_cs := isA_ext x_17 i_cs
  have E_17 := ext_tr E_12 x_17 (fun _ _ z => z)
  refine v_vret C hr (Nat.le_of_ble_eq_true rfl) (Nat.le_of_ble_eq_true rfl) dX6_init_20 ?_
  refine ⟨rfl, E_17, fun g => ?_, fun g => ?_, tp, cs, ⟨hh, ?_, ?_, i_tp, ?_, i_cs⟩, ?_⟩ <;> simp [mO_sO, mO_sArr, mO_sNew, mI_sO, mI_sArr, mI_sNew, mP_sO, mP_sArr, mP_sNew, mJ_sO, mJ_sArr, mJ_sNew, a_9.1, a_9.2.1, a_9.2.2.1, t_9, k1, z_hh_tp, z_hh_tp.symm, e_17, e_12, e_5]

/-- the class's object, its cells by name -/
def pcAt (S : Mem) (h co ts fs mg ch rw ft gl gr gq ml mr mq sg tp cs : Nat) : Prop := is S h 9 ∧ mO S 576 h = some co ∧ companyAt S co ts fs mg ch rw ft gl gr gq ml mr mq ∧ mO S 577 h = some sg ∧ stageAt S sg co tp cs
/-- nothing has been done with it -/
def pcNew (S : Mem) (h co ts fs sg tp : Nat) : Prop := mO S 578 h = none ∧ mI S 65 co = 0 ∧ mI S 67 co = 0 ∧ (∀ i, mP S ts i = none) ∧ (∀ i, mP S fs i = none) ∧ (∀ g, 385 < g → g < 390 → mI S g sg = 0) ∧ mJ S 390 sg = 0 ∧ mI S 449 tp = 0
theorem dX9_init_0 : decode cX9_init 0 = .ok (.aload_n 0, 1) := by decide +kernel
theorem dX9_init_1 : decode cX9_init 1 = .ok (.invokespecial 1, 3) := by decide +kernel
theorem dX9_init_4 : decode cX9_init 4 = .ok (.aload_n 0, 1) := by decide +kernel
theorem dX9_init_5 : decode cX9_init 5 = .ok (.new 7, 3) := by decide +kernel
theorem dX9_init_8 : decode cX9_init 8 = .ok (.dup, 1) := by decide +kernel
theorem dX9_init_9 : decode cX9_init 9 = .ok (.invokespecial 9, 3) := by decide +kernel
theorem dX9_init_12 : decode cX9_init 12 = .ok (.putfield 10, 3) := by decide +kernel
theorem dX9_init_15 : decode cX9_init 15 = .ok (.aload_n 0, 1) := by decide +kernel
theorem dX9_init_16 : decode cX9_init 16 = .ok (.new 16, 3) := by decide +kernel
theorem dX9_init_19 : decode cX9_init 19 = .ok (.dup, 1) := by decide +kernel
theorem dX9_init_20 : decode cX9_init 20 = .ok (.aload_n 0, 1) := by decide +kernel
theorem dX9_init_21 : decode cX9_init 21 = .ok (.getfield 10, 3) := by decide +kernel
theorem dX9_init_24 : decode cX9_init 24 = .ok (.invokespecial 18, 3) := by decide +kernel
theorem dX9_init_27 : decode cX9_init 27 = .ok (.putfield 21, 3) := by decide +kernel
theorem dX9_init_30 : decode cX9_init 30 = .ok (.aload_n 0, 1) := by decide +kernel
theorem dX9_init_31 : decode cX9_init 31 = .ok (.aconst_null, 1) := by decide +kernel
theorem dX9_init_32 : decode cX9_init 32 = .ok (.putfield 25, 3) := by decide +kernel
theorem dX9_init_35 : decode cX9_init 35 = .ok (.return_, 1) := by decide +kernel
set_option maxRecDepth 100000 in
set_option maxHeartbeats 4000000 in
theorem ct_X9_init (l : Launch) (h : Nat) : Ct l yX9_init cX9_init 1 none 4 16 1162 83 (fun S av => av = [.ref h] ∧ is S h 9) (fun S _ r0 S' => r0 = none ∧ ext S S' (fun a => a = h) ∧ ∃ co ts fs mg ch rw ft gl gr gq ml mr mq sg tp cs, pcAt S' h co ts fs mg ch rw ft gl gr gq ml mr mq sg tp cs ∧ pcNew S' h co ts fs sg tp) := by
  refine ct_of (by decide) (fun S av h => by obtain ⟨rfl, hh⟩ := h; exact Nat.le_of_ble_eq_true rfl) ?_
  intro p e s m args below meth c D G bs S av C hr hin hpre
  obtain ⟨rfl, hh⟩ := hpre
  have E0 : ext S S (fun a => a = h) := ext_rfl
  refine v_aload_n C dX9_init_0 rfl ?_
  refine v_objInit C wd10 wd11 wd12 dX9_init_1 (Nat.le_of_ble_eq_true rfl) (Nat.le_of_ble_eq_true rfl) ?_
  refine v_aload_n C dX9_init_4 rfl ?_
  refine v_new C (ci := 1) (by decide) rfl inlX1 tyX1_ok wd13 wd14 wd15 nfX1 (Nat.le_of_ble_eq_true rfl) (Nat.le_of_ble_eq_true rfl) dX9_init_5 (fun co n_co => ?_)
  have z_hh_co := ne_of_is n_co hh
  refine V.gen (fun S_5 e_5 => ?_)
  have w_co := nm_ext E0 n_co
  have x_5 := x_sNew e_5 n_co
  have hh := is_ext x_5 hh
  have i_co := is_sNewE (ci := 1) e_5 n_co
  have E_5 := ext_tr E0 x_5 (fun _ _ z => z.elim)
  refine v_dup C dX9_init_8 rfl ?_
  refine v_callIN (As := []) (n := 0) C (ct_X1_init l co) rfl ⟨(by decide +kernel), wd22, wd15, wd23⟩ rfl hy_X1_init rfl ⟨Nat.le_of_ble_eq_true rfl, Nat.le_of_ble_eq_true rfl⟩ (Nat.le_of_ble_eq_true rfl) ⟨Nat.le_of_ble_eq_true rfl, Nat.le_of_ble_eq_true rfl⟩ dX9_init_9 ⟨rfl, i_co⟩ (fun r_9 S_9 h_9 => ?_)
  obtain ⟨rfl, x_9, t_9, ts, fs, mg, ch, rw, ft, gl, gr, gq, ml, mr, mq, k_co, k_ts, k_fs⟩ := h_9
  have a_9 := x_9.2 h hh.1 z_hh_co
  have hh := is_ext x_9 hh
  have i_co := is_ext x_9 i_co
  have E_9 := ext_tr E_5 x_9 (fun a ha z => absurd (z ▸ ha) w_co)
  have nh0 := ne_kind k_co.1 hh (by decide)
  have nh1 := ne_kind k_co.2.2.2.2.2.2.1.1 hh (by decide)
  have nh2 := ne_kind k_co.2.2.2.2.2.2.1.2.2.2.2.2.2.1.1 hh (by decide)
  have nh3 := ne_kind k_co.2.2.2.2.2.2.1.2.2.2.2.2.2.2.2.1 hh (by decide)
  refine p9_10 (v := some _) C hh (hin rfl) dX9_init_12 ?_
  refine V.gen (fun S_12 e_12 => ?_)
  have x_12 := x_sO e_12
  have hh := is_ext x_12 hh
  have i_co := is_ext x_12 i_co
  have k_co := companyAt_ext x_12 nh0 nh1 nh2 nh3 k_co
  have k_co_o := k_co
  have E_12 := ext_tr E_9 x_12 (fun _ _ z => z)
  refine v_aload_n C dX9_init_15 rfl ?_
  refine v_new C (ci := 6) (by decide) rfl inlX6 tyX6_ok wd17 wd18 wd19 nfX6 (Nat.le_of_ble_eq_true rfl) (Nat.le_of_ble_eq_true rfl) dX9_init_16 (fun sg n_sg => ?_)
  have z_hh_sg := ne_of_is n_sg hh
  have z_i_co_sg := ne_of_is n_sg i_co
  refine V.gen (fun S_16 e_16 => ?_)
  have w_sg := nm_ext E_12 n_sg
  have x_16 := x_sNew e_16 n_sg
  have hh := is_ext x_16 hh
  have i_co := is_ext x_16 i_co
  have i_sg := is_sNewE (ci := 6) e_16 n_sg
  have z_ts_sg := ne_of_isA n_sg k_co_o.2.2.1
  have z_fs_sg := ne_of_isA n_sg k_co_o.2.2.2.2.1
  have k_co := companyAt_ext x_16 (fun z => z) (fun z => z) (fun z => z) (fun z => z) k_co
  have E_16 := ext_tr E_12 x_16 (fun _ _ z => z.elim)
  refine v_dup C dX9_init_19 rfl ?_
  refine v_aload_n C dX9_init_20 rfl ?_
  refine r9_10 (b := co) C hh (by rw [e_16, mO_sNew, if_neg z_hh_sg, e_12]; simp [mO_sO]) dX9_init_21 ?_
  refine v_callI (As := [_]) (n := 1) C (ct_X6_init l sg co) rfl ⟨wd61, wd62, wd19, wd63⟩ rfl hy_X6_init rfl ⟨Nat.le_of_ble_eq_true rfl, Nat.le_of_ble_eq_true rfl⟩ (Nat.le_of_ble_eq_true rfl) ⟨Nat.le_of_ble_eq_true rfl, Nat.le_of_ble_eq_true rfl⟩ dX9_init_24 ⟨rfl, i_sg⟩ (fun r_24 S_24 h_24 => ?_)
  obtain ⟨rfl, x_24, t_24, j_24, tp, cs, k_sg, k_tp⟩ := h_24
  have a_24 := x_24.2 h hh.1 z_hh_sg
  have ac_24 := x_24.2 co i_co.1 z_i_co_sg
  have at_24 := x_24.2 ts k_co.2.2.1.1 (ne_kindA k_co.2.2.1 i_sg (by decide))
  have af_24 := x_24.2 fs k_co.2.2.2.2.1.1 (ne_kindA k_co.2.2.2.2.1 i_sg (by decide))
  have k_co := companyAt_ext x_24 (ne_kind k_co.1 i_sg (by decide)) (ne_kind k_co.2.2.2.2.2.2.1.1 i_sg (by decide)) (ne_kind k_co.2.2.2.2.2.2.1.2.2.2.2.2.2.1.1 i_sg (by decide)) (ne_kind k_co.2.2.2.2.2.2.1.2.2.2.2.2.2.2.2.1 i_sg (by decide)) k_co
  have hh := is_ext x_24 hh
  have i_co := is_ext x_24 i_co
  have i_sg := is_ext x_24 i_sg
  have E_24 := ext_tr E_16 x_24 (fun a ha z => absurd (z ▸ ha) w_sg)
  have mh0 := ne_kind k_sg.1 hh (by decide)
  have mh1 := ne_kind k_sg.2.2.2.1 hh (by decide)
  refine p9_21 (v := some _) C hh (hin rfl) dX9_init_27 ?_
  refine V.gen (fun S_27 e_27 => ?_)
  have x_27 := x_sO e_27
  have hh := is_ext x_27 hh
  have i_co := is_ext x_27 i_co
  have i_sg := is_ext x_27 i_sg
  have k_co := companyAt_ext x_27 nh0 nh1 nh2 nh3 k_co
  have k_sg := stageAt_ext x_27 mh0 mh1 k_sg
  have E_27 := ext_tr E_24 x_27 (fun _ _ z => z)
  refine v_aload_n C dX9_init_30 rfl ?_
  refine v_null C dX9_init_31 ?_
  refine p9_25 C hh dX9_init_32 ?_
  refine V.gen (fun S_32 e_32 => ?_)
  have x_32 := x_sO e_32
  have hh := is_ext x_32 hh
  have i_co := is_ext x_32 i_co
  have i_sg := is_ext x_32 i_sg
  have k_co := companyAt_ext x_32 nh0 nh1 nh2 nh3 k_co
  have k_sg := stageAt_ext x_32 mh0 mh1 k_sg
  have E_32 := ext_tr E_27 x_32 (fun _ _ z => z)
  refine v_vret C hr (Nat.le_of_ble_eq_true rfl) (Nat.le_of_ble_eq_true rfl) dX9_init_35 ?_
  refine ⟨rfl, E_32, co, ts, fs, mg, ch, rw, ft, gl, gr, gq, ml, mr, mq, sg, tp, cs, ⟨hh, ?_, k_co, ?_, k_sg⟩, ?_, ?_, ?_, fun i => ?_, fun i => ?_, fun g _ _ => ?_, ?_, ?_⟩ <;> simp [mO_sO, mO_sArr, mO_sNew, mI_sO, mI_sArr, mI_sNew, mP_sO, mP_sArr, mP_sNew, mJ_sO, mJ_sArr, mJ_sNew, a_9.1, a_9.2.1, a_24.1, a_24.2.1, ac_24.1, ac_24.2.1, at_24.2.2.2.2.1, af_24.2.2.2.2.1, t_9, t_24, j_24, k_ts, k_fs, k_tp, z_hh_co, z_hh_sg, z_hh_co.symm, z_hh_sg.symm, z_i_co_sg, z_ts_sg, z_fs_sg, e_32, e_27, e_16, e_12, e_5]
end
section
theorem bI_0 (x : Bool) : (bI x = 0) ↔ x = false := by cases x <;> simp [bI]
theorem isB_in {i b : Int32} {n : Nat} (h : ¬ bI (isB i b) = 0) (hb : b.toInt = n) : vp_in i n := vp_in_b (isB_t (bI_t h)) hb
/-- the trait at a number -/
def trAt (S : Mem) (ts : Nat) (i : Int32) : Option Nat := if isB i 20 = true then mP S ts i.toNatClampNeg else none
def fgAt (S : Mem) (fs : Nat) (i : Int32) : Option Nat := if isB i 12 = true then mP S fs i.toNatClampNeg else none
theorem trAt_0 {S : Mem} {ts : Nat} (h : ∀ i, mP S ts i = none) (i : Int32) : trAt S ts i = none := by unfold trAt; split <;> simp [h]
theorem fgAt_0 {S : Mem} {fs : Nat} (h : ∀ i, mP S fs i = none) (i : Int32) : fgAt S fs i = none := by unfold fgAt; split <;> simp [h]
theorem dX1_traitAt_0 : decode cX1_traitAt 0 = .ok (.iload_n 1, 1) := by decide +kernel
theorem dX1_traitAt_1 : decode cX1_traitAt 1 = .ok (.bipush 20, 2) := by decide +kernel
theorem dX1_traitAt_3 : decode cX1_traitAt 3 = .ok (.invokestatic 37, 3) := by decide +kernel
theorem dX1_traitAt_6 : decode cX1_traitAt 6 = .ok (.ifCond .eq 12, 3) := by decide +kernel
theorem dX1_traitAt_9 : decode cX1_traitAt 9 = .ok (.aload_n 0, 1) := by decide +kernel
theorem dX1_traitAt_10 : decode cX1_traitAt 10 = .ok (.getfield 11, 3) := by decide +kernel
theorem dX1_traitAt_13 : decode cX1_traitAt 13 = .ok (.iload_n 1, 1) := by decide +kernel
theorem dX1_traitAt_14 : decode cX1_traitAt 14 = .ok (.aaload, 1) := by decide +kernel
theorem dX1_traitAt_15 : decode cX1_traitAt 15 = .ok (.goto 4, 3) := by decide +kernel
theorem dX1_traitAt_18 : decode cX1_traitAt 18 = .ok (.aconst_null, 1) := by decide +kernel
theorem dX1_traitAt_19 : decode cX1_traitAt 19 = .ok (.areturn, 1) := by decide +kernel
set_option maxRecDepth 100000 in
set_option maxHeartbeats 4000000 in
theorem ct_X1_traitAt (l : Launch) (co ts : Nat) (i : Int32) : Ct l yX1_traitAt cX1_traitAt 2 (some (.object "PuppetCast$Trait")) 1 0 0 21 (fun S av => av = [.ref co, .int i] ∧ is S co 1 ∧ mO S 64 co = some ts ∧ isA S ts 17 20) (fun S _ r S' => r = some (va_rf (trAt S ts i)) ∧ S' = S) := by
  refine ct_of (by decide) (fun S av h => by obtain ⟨rfl, i_co, e_a, i_a⟩ := h; exact Nat.le_of_ble_eq_true rfl) ?_
  intro p e s m args below meth c D G bs S av C hr hin hpre
  obtain ⟨rfl, i_co, e_a, i_a⟩ := hpre
  refine v_iload_n C dX1_traitAt_0 rfl ?_
  refine v_bipush (v := 20) C dX1_traitAt_1 (by decide) ?_
  refine v_callSN (As := [_, _]) (n := 2) C (ct_X9_isBelow l _ _) rfl ⟨(by decide +kernel), wd141, wd2, wd142⟩ hy_X9_isBelow rfl ⟨Nat.le_of_ble_eq_true rfl, Nat.le_of_ble_eq_true rfl⟩ (Nat.le_of_ble_eq_true rfl) ⟨Nat.le_of_ble_eq_true rfl, Nat.le_of_ble_eq_true rfl⟩ dX1_traitAt_3 rfl (fun r_3 S_3 h_3 => ?_)
  obtain ⟨rfl, q_3⟩ := h_3
  obtain rfl := q_3.symm
  refine v_if_eq (tgt := 18) C dX1_traitAt_6 (by decide) (fun c_6 => ?_) (fun c_6 => ?_)
  · skip
    refine v_null C dX1_traitAt_18 ?_
    refine v_aret C hr (Nat.le_of_ble_eq_true rfl) (Nat.le_of_ble_eq_true rfl) dX1_traitAt_19 ?_
    refine ⟨?_, rfl⟩
    first
      | (rw [show trAt S ts i = none from by unfold trAt; rw [if_neg (by rw [bI_f c_6]; decide)]])
      | (rw [show trAt S ts i = mP S ts i.toNatClampNeg from by unfold trAt; rw [if_pos (bI_t c_6)]])
  · skip
    refine v_aload_n C dX1_traitAt_9 rfl ?_
    refine r1_11 (b := ts) C i_co e_a dX1_traitAt_10 ?_
    refine v_iload_n C dX1_traitAt_13 rfl ?_
    refine v_aald (t0 := 6) C i_a (by decide) rfl (isB_in c_6 rfl) dX1_traitAt_14 ?_
    refine v_goto (tgt := 19) C dX1_traitAt_15 (by decide) ?_
    refine v_aret C hr (Nat.le_of_ble_eq_true rfl) (Nat.le_of_ble_eq_true rfl) dX1_traitAt_19 ?_
    refine ⟨?_, rfl⟩
    first
      | (rw [show trAt S ts i = none from by unfold trAt; rw [if_neg (by rw [bI_f c_6]; decide)]])
      | (rw [show trAt S ts i = mP S ts i.toNatClampNeg from by unfold trAt; rw [if_pos (bI_t c_6)]])

theorem dX1_figureAt_0 : decode cX1_figureAt 0 = .ok (.iload_n 1, 1) := by decide +kernel
theorem dX1_figureAt_1 : decode cX1_figureAt 1 = .ok (.bipush 12, 2) := by decide +kernel
theorem dX1_figureAt_3 : decode cX1_figureAt 3 = .ok (.invokestatic 37, 3) := by decide +kernel
theorem dX1_figureAt_6 : decode cX1_figureAt 6 = .ok (.ifCond .eq 12, 3) := by decide +kernel
theorem dX1_figureAt_9 : decode cX1_figureAt 9 = .ok (.aload_n 0, 1) := by decide +kernel
theorem dX1_figureAt_10 : decode cX1_figureAt 10 = .ok (.getfield 19, 3) := by decide +kernel
theorem dX1_figureAt_13 : decode cX1_figureAt 13 = .ok (.iload_n 1, 1) := by decide +kernel
theorem dX1_figureAt_14 : decode cX1_figureAt 14 = .ok (.aaload, 1) := by decide +kernel
theorem dX1_figureAt_15 : decode cX1_figureAt 15 = .ok (.goto 4, 3) := by decide +kernel
theorem dX1_figureAt_18 : decode cX1_figureAt 18 = .ok (.aconst_null, 1) := by decide +kernel
theorem dX1_figureAt_19 : decode cX1_figureAt 19 = .ok (.areturn, 1) := by decide +kernel
set_option maxRecDepth 100000 in
set_option maxHeartbeats 4000000 in
theorem ct_X1_figureAt (l : Launch) (co fs : Nat) (i : Int32) : Ct l yX1_figureAt cX1_figureAt 2 (some (.object "PuppetCast$Figure")) 1 0 0 21 (fun S av => av = [.ref co, .int i] ∧ is S co 1 ∧ mO S 66 co = some fs ∧ isA S fs 14 12) (fun S _ r S' => r = some (va_rf (fgAt S fs i)) ∧ S' = S) := by
  refine ct_of (by decide) (fun S av h => by obtain ⟨rfl, i_co, e_a, i_a⟩ := h; exact Nat.le_of_ble_eq_true rfl) ?_
  intro p e s m args below meth c D G bs S av C hr hin hpre
  obtain ⟨rfl, i_co, e_a, i_a⟩ := hpre
  refine v_iload_n C dX1_figureAt_0 rfl ?_
  refine v_bipush (v := 12) C dX1_figureAt_1 (by decide) ?_
  refine v_callSN (As := [_, _]) (n := 2) C (ct_X9_isBelow l _ _) rfl ⟨(by decide +kernel), wd141, wd2, wd142⟩ hy_X9_isBelow rfl ⟨Nat.le_of_ble_eq_true rfl, Nat.le_of_ble_eq_true rfl⟩ (Nat.le_of_ble_eq_true rfl) ⟨Nat.le_of_ble_eq_true rfl, Nat.le_of_ble_eq_true rfl⟩ dX1_figureAt_3 rfl (fun r_3 S_3 h_3 => ?_)
  obtain ⟨rfl, q_3⟩ := h_3
  obtain rfl := q_3.symm
  refine v_if_eq (tgt := 18) C dX1_figureAt_6 (by decide) (fun c_6 => ?_) (fun c_6 => ?_)
  · skip
    refine v_null C dX1_figureAt_18 ?_
    refine v_aret C hr (Nat.le_of_ble_eq_true rfl) (Nat.le_of_ble_eq_true rfl) dX1_figureAt_19 ?_
    refine ⟨?_, rfl⟩
    first
      | (rw [show fgAt S fs i = none from by unfold fgAt; rw [if_neg (by rw [bI_f c_6]; decide)]])
      | (rw [show fgAt S fs i = mP S fs i.toNatClampNeg from by unfold fgAt; rw [if_pos (bI_t c_6)]])
  · skip
    refine v_aload_n C dX1_figureAt_9 rfl ?_
    refine r1_19 (b := fs) C i_co e_a dX1_figureAt_10 ?_
    refine v_iload_n C dX1_figureAt_13 rfl ?_
    refine v_aald (t0 := 3) C i_a (by decide) rfl (isB_in c_6 rfl) dX1_figureAt_14 ?_
    refine v_goto (tgt := 19) C dX1_figureAt_15 (by decide) ?_
    refine v_aret C hr (Nat.le_of_ble_eq_true rfl) (Nat.le_of_ble_eq_true rfl) dX1_figureAt_19 ?_
    refine ⟨?_, rfl⟩
    first
      | (rw [show fgAt S fs i = none from by unfold fgAt; rw [if_neg (by rw [bI_f c_6]; decide)]])
      | (rw [show fgAt S fs i = mP S fs i.toNatClampNeg from by unfold fgAt; rw [if_pos (bI_t c_6)]])

theorem dX9_isAct_0 : decode cX9_isAct 0 = .ok (.iload_n 0, 1) := by decide +kernel
theorem dX9_isAct_1 : decode cX9_isAct 1 = .ok (.bipush 12, 2) := by decide +kernel
theorem dX9_isAct_3 : decode cX9_isAct 3 = .ok (.invokestatic 44, 3) := by decide +kernel
theorem dX9_isAct_6 : decode cX9_isAct 6 = .ok (.ireturn, 1) := by decide +kernel
set_option maxRecDepth 100000 in
set_option maxHeartbeats 4000000 in
theorem ct_X9_isAct (l : Launch) (a : Int32) : Ct l yX9_isAct cX9_isAct 1 (some .boolean) 1 0 0 21 (fun _ av => av = [.int a]) (fun S _ r S' => r = some (.int (bI (isB a 12))) ∧ S' = S) := by
  refine ct_of (by decide) (fun S av h => by obtain rfl := h; exact Nat.le_of_ble_eq_true rfl) ?_
  intro p e s m args below meth c D G bs S av C hr hin hpre
  obtain rfl := hpre
  refine v_iload_n C dX9_isAct_0 rfl ?_
  refine v_bipush (v := 12) C dX9_isAct_1 (by decide) ?_
  refine v_callS (As := [_, _]) (n := 2) C (ct_X9_isBelow l _ _) rfl ⟨wd264, wd141, wd2, wd142⟩ hy_X9_isBelow rfl ⟨Nat.le_of_ble_eq_true rfl, Nat.le_of_ble_eq_true rfl⟩ (Nat.le_of_ble_eq_true rfl) ⟨Nat.le_of_ble_eq_true rfl, Nat.le_of_ble_eq_true rfl⟩ dX9_isAct_3 rfl (fun r_3 S_3 h_3 => ?_)
  obtain ⟨rfl, q_3⟩ := h_3
  obtain rfl := q_3.symm
  refine v_zret C hr (by cases (isB a 12) <;> rfl) (Nat.le_of_ble_eq_true rfl) (Nat.le_of_ble_eq_true rfl) dX9_isAct_6 ?_
  exact ⟨rfl, rfl⟩
end
section
/-! WHAT ALWAYS HOLDS OF THE CLASS'S CELLS: each reference leads where its type says; M: the reference's own cells; E: objects that are being made -/
/-- the reference fields: field, kind it leads to, length (0: an object), may be null -/
def FT : List (Nat × Nat × Nat × Bool) := [(1, 5, 0, true), (4, 5, 0, true), (5, 5, 0, true), (6, 3, 0, true), (64, 17, 20, false), (66, 14, 12, false), (68, 4, 0, false), (69, 0, 0, false), (130, 3, 0, false), (131, 11, 5, false), (133, 16, 12, false), (134, 13, 240, false), (136, 11, 240, false), (137, 11, 240, false), (139, 11, 12, false), (140, 12, 4, false), (192, 11, 20, false), (193, 11, 20, false), (256, 15, 7, false), (257, 11, 7, false), (258, 3, 0, false), (259, 3, 0, false), (325, 11, 8, false), (326, 11, 8, false), (327, 11, 8, false), (384, 1, 0, false), (385, 7, 0, false), (448, 12, 1000, false), (512, 3, 0, false), (513, 16, 12, false), (514, 16, 12, false), (576, 1, 0, false), (577, 6, 0, false), (578, 5, 0, true)]
/-- the arrays of references: kind, kind of what they hold -/
def ET : List (Nat × Nat) := [(14, 2), (15, 3), (16, 5), (17, 8)]
def fOK (M : Nat → Prop) (S : Mem) (q : Nat × Nat × Nat × Bool) (o : Option Nat) : Prop := (q.2.2.2 = true ∧ o = none) ∨ ∃ b, o = some b ∧ ((q.2.2.1 = 0 ∧ is S b q.2.1) ∨ (0 < q.2.2.1 ∧ isA S b q.2.1 q.2.2.1 ∧ ¬ M b))
def nOK (S : Mem) (k : Nat) (o : Option Nat) : Prop := o = none ∨ ∃ b, o = some b ∧ is S b k
def INV (M : Nat → Prop) (E : List Nat) (S : Mem) : Prop :=
  (∀ a, M a → a ∈ mL S ∧ 10 ≤ mK S a ∧ mK S a ≤ 13) ∧ (∀ q ∈ FT, ∀ a, a ∈ mL S → a ∉ E → mK S a = q.1 / 64 → fOK M S q (mO S q.1 a)) ∧ (∀ q ∈ ET, ∀ a, a ∈ mL S → mK S a = q.1 → ∀ i, nOK S q.2 (mP S a i)) ∧ (∀ a, a ∈ mL S → a ∉ E → mK S a = 3 → ∃ n, n ≤ 20 ∧ mI S 194 a = nI n) ∧ ∀ a, a ∈ mL S → a ∉ E → mK S a = 7 → ∃ n, n ≤ 200 ∧ mI S 449 a = nI n
/-- kinds and lengths stay, addresses too -/
def mono (S S' : Mem) : Prop := ∀ a, a ∈ mL S → a ∈ mL S' ∧ mK S' a = mK S a ∧ mN S' a = mN S a
theorem is_mono {S S' : Mem} {a k : Nat} (h : mono S S') (x : is S a k) : is S' a k := ⟨(h a x.1).1, (h a x.1).2.1.trans x.2⟩
theorem isA_mono {S S' : Mem} {a k n : Nat} (h : mono S S') (x : isA S a k n) : isA S' a k n := ⟨(h a x.1).1, (h a x.1).2.1.trans x.2.1, (h a x.1).2.2.trans x.2.2⟩
theorem nOK_mono {S S' : Mem} {k : Nat} {o : Option Nat} (h : mono S S') (x : nOK S k o) : nOK S' k o := x.imp id (fun ⟨b, e, i⟩ => ⟨b, e, is_mono h i⟩)
theorem nOK_ext {S S' : Mem} {X : Nat → Prop} {k : Nat} {o : Option Nat} (h : ext S S' X) (x : nOK S k o) : nOK S' k o := nOK_mono h.1 x
theorem fOK_mono {M : Nat → Prop} {S S' : Mem} {q : Nat × Nat × Nat × Bool} {o : Option Nat} (h : mono S S') (x : fOK M S q o) : fOK M S' q o :=
  x.imp id (fun ⟨b, e, i⟩ => ⟨b, e, i.imp (fun ⟨z, i⟩ => ⟨z, is_mono h i⟩) (fun ⟨z, i, m⟩ => ⟨z, isA_mono h i, m⟩)⟩)
theorem nOK_some {S : Mem} {k : Nat} {o : Option Nat} {b : Nat} (h : nOK S k o) (e : o = some b) : is S b k := by
  rcases h with h | ⟨c, h, i⟩
  · rw [h] at e; cases e
  · rw [h] at e; cases e; exact i
theorem nOK_none {S : Mem} {k : Nat} : nOK S k none := Or.inl rfl
theorem nOK_is {S : Mem} {k b : Nat} (h : is S b k) : nOK S k (some b) := Or.inr ⟨b, rfl, h⟩
/-- a store that touches no reference, and none of the two counted ints -/
theorem inv_num {M : Nat → Prop} {E : List Nat} {S S' : Mem} (h : INV M E S) (e1 : mL S' = mL S) (e2 : mK S' = mK S) (e3 : mN S' = mN S) (e4 : mO S' = mO S) (e5 : mP S' = mP S) (e6 : ∀ a, mI S' 194 a = mI S 194 a) (e7 : ∀ a, mI S' 449 a = mI S 449 a) : INV M E S' := by
  have hm : mono S S' := fun a ha => ⟨by rw [e1]; exact ha, by rw [e2], by rw [e3]⟩
  obtain ⟨h1, h2, h3, h4, h5⟩ := h
  refine ⟨fun a ha => by rw [e1, e2]; exact h1 a ha, fun q hq a ha hE hk => ?_, fun q hq a ha hk i => ?_, fun a ha hE hk => ?_, fun a ha hE hk => ?_⟩
  · rw [e1] at ha; rw [e2] at hk; rw [e4]; exact fOK_mono hm (h2 q hq a ha hE hk)
  · rw [e1] at ha; rw [e2] at hk; rw [e5]; exact nOK_mono hm (h3 q hq a ha hk i)
  · rw [e1] at ha; rw [e2] at hk; rw [e6]; exact h4 a ha hE hk
  · rw [e1] at ha; rw [e2] at hk; rw [e7]; exact h5 a ha hE hk
theorem inv_sA {M : Nat → Prop} {E : List Nat} {S S' : Mem} {a i : Nat} {v : Int32} (e : S' = sA S a i v) (h : INV M E S) : INV M E S' := by subst e; exact inv_num h (mL_sA ..) (mK_sA ..) (mN_sA ..) (mO_sA ..) (mP_sA ..) (fun _ => by rw [mI_sA]) (fun _ => by rw [mI_sA])
theorem inv_sFill {M : Nat → Prop} {E : List Nat} {S S' : Mem} {a n : Nat} {v : Int32} (e : S' = sFill S a n v) (h : INV M E S) : INV M E S' := by subst e; exact inv_num h (mL_sFill ..) (mK_sFill ..) (mN_sFill ..) (mO_sFill ..) (mP_sFill ..) (fun _ => by rw [mI_sFill]) (fun _ => by rw [mI_sFill])
theorem inv_sQ {M : Nat → Prop} {E : List Nat} {S S' : Mem} {a i : Nat} {v : Int64} (e : S' = sQ S a i v) (h : INV M E S) : INV M E S' := by subst e; exact inv_num h (mL_sQ ..) (mK_sQ ..) (mN_sQ ..) (mO_sQ ..) (mP_sQ ..) (fun _ => by rw [mI_sQ]) (fun _ => by rw [mI_sQ])
theorem inv_sJ {M : Nat → Prop} {E : List Nat} {S S' : Mem} {g a : Nat} {v : Int64} (e : S' = sJ S g a v) (h : INV M E S) : INV M E S' := by subst e; exact inv_num h (mL_sJ ..) (mK_sJ ..) (mN_sJ ..) (mO_sJ ..) (mP_sJ ..) (fun _ => by rw [mI_sJ]) (fun _ => by rw [mI_sJ])
theorem inv_sI {M : Nat → Prop} {E : List Nat} {S S' : Mem} {g a : Nat} {v : Int32} (e : S' = sI S g a v) (h : INV M E S) (h1 : g ≠ 194) (h2 : g ≠ 449) : INV M E S' := by
  subst e
  exact inv_num h (mL_sI ..) (mK_sI ..) (mN_sI ..) (mO_sI ..) (mP_sI ..) (fun _ => by rw [mI_sI, if_neg (fun z => h1 z.1.symm)]) (fun _ => by rw [mI_sI, if_neg (fun z => h2 z.1.symm)])
theorem inv_sIn {M : Nat → Prop} {E : List Nat} {S S' : Mem} {g a n : Nat} {v : Int32} (e : S' = sI S g a v) (h : INV M E S) (hv : v = nI n) (hn : (g = 194 → n ≤ 20) ∧ (g = 449 → n ≤ 200)) : INV M E S' := by
  have hm : mono S S' := fun b hb => by rw [e, mL_sI, mK_sI, mN_sI]; exact ⟨hb, rfl, rfl⟩
  obtain ⟨h1, h2, h3, h4, h5⟩ := h
  refine ⟨fun b hb => by rw [e, mL_sI, mK_sI]; exact h1 b hb, fun q hq b hb hE hk => ?_, fun q hq b hb hk i => ?_, fun b hb hE hk => ?_, fun b hb hE hk => ?_⟩
  · rw [e, mL_sI] at hb; rw [e, mK_sI] at hk; have := fOK_mono hm (h2 q hq b hb hE hk); rw [e, mO_sI]; rw [e] at this; exact this
  · rw [e, mL_sI] at hb; rw [e, mK_sI] at hk; have := nOK_mono hm (h3 q hq b hb hk i); rw [e, mP_sI]; rw [e] at this; exact this
  · rw [e, mL_sI] at hb; rw [e, mK_sI] at hk; rw [e, mI_sI]
    split
    · rename_i z; exact ⟨n, hn.1 z.1.symm, hv⟩
    · exact h4 b hb hE hk
  · rw [e, mL_sI] at hb; rw [e, mK_sI] at hk; rw [e, mI_sI]
    split
    · rename_i z; exact ⟨n, hn.2 z.1.symm, hv⟩
    · exact h5 b hb hE hk
theorem FT_u : ∀ q ∈ FT, ∀ q' ∈ FT, q.1 = q'.1 → q = q' := by decide +kernel
theorem inv_sO {M : Nat → Prop} {E : List Nat} {S S' : Mem} {g a : Nat} {v : Option Nat} (e : S' = sO S g a v) (h : INV M E S) (hv : a ∈ E ∨ ∃ q ∈ FT, q.1 = g ∧ fOK M S q v) : INV M E S' := by
  have hm : mono S S' := fun b hb => by rw [e, mL_sO, mK_sO, mN_sO]; exact ⟨hb, rfl, rfl⟩
  obtain ⟨h1, h2, h3, h4, h5⟩ := h
  refine ⟨fun b hb => by rw [e, mL_sO, mK_sO]; exact h1 b hb, fun q hq b hb hE hk => ?_, fun q hq b hb hk i => ?_, fun b hb hE hk => ?_, fun b hb hE hk => ?_⟩
  · rw [e, mL_sO] at hb; rw [e, mK_sO] at hk
    have := fOK_mono hm (h2 q hq b hb hE hk)
    rw [e, mO_sO]; rw [e] at this
    split
    · rename_i z
      rcases hv with hv | ⟨q', hq', e', hv⟩
      · rw [z.2] at hE; exact absurd hv hE
      · have : q' = q := FT_u q' hq' q hq (e'.trans z.1.symm)
        subst this
        have := fOK_mono hm hv
        rw [e] at this; exact this
    · exact this
  · rw [e, mL_sO] at hb; rw [e, mK_sO] at hk; have := nOK_mono hm (h3 q hq b hb hk i); rw [e, mP_sO]; rw [e] at this; exact this
  · rw [e, mL_sO] at hb; rw [e, mK_sO] at hk; rw [e, mI_sO]; exact h4 b hb hE hk
  · rw [e, mL_sO] at hb; rw [e, mK_sO] at hk; rw [e, mI_sO]; exact h5 b hb hE hk
theorem ET_u : ∀ q ∈ ET, ∀ q' ∈ ET, q.1 = q'.1 → q = q' := by decide +kernel
theorem inv_sP {M : Nat → Prop} {E : List Nat} {S S' : Mem} {a i kd k : Nat} {v : Option Nat} (e : S' = sP S a i v) (h : INV M E S) (ha : mK S a = kd) (hq : (kd, k) ∈ ET) (hv : nOK S k v) : INV M E S' := by
  have hm : mono S S' := fun b hb => by rw [e, mL_sP, mK_sP, mN_sP]; exact ⟨hb, rfl, rfl⟩
  obtain ⟨h1, h2, h3, h4, h5⟩ := h
  refine ⟨fun b hb => by rw [e, mL_sP, mK_sP]; exact h1 b hb, fun q hq b hb hE hk => ?_, fun q hq2 b hb hk j => ?_, fun b hb hE hk => ?_, fun b hb hE hk => ?_⟩
  · rw [e, mL_sP] at hb; rw [e, mK_sP] at hk; have := fOK_mono hm (h2 q hq b hb hE hk); rw [e, mO_sP]; rw [e] at this; exact this
  · rw [e, mL_sP] at hb; rw [e, mK_sP] at hk
    have h6 := nOK_mono hm (h3 q hq2 b hb hk j)
    have h7 := nOK_mono hm hv
    rw [e, mP_sP]; rw [e] at h6 h7
    split
    · rename_i z
      have : (kd, k) = q := ET_u _ hq _ hq2 (by rw [← hk, z.1]; exact ha.symm)
      subst this; exact h7
    · exact h6
  · rw [e, mL_sP] at hb; rw [e, mK_sP] at hk; rw [e, mI_sP]; exact h4 b hb hE hk
  · rw [e, mL_sP] at hb; rw [e, mK_sP] at hk; rw [e, mI_sP]; exact h5 b hb hE hk
theorem inv_sNew {M : Nat → Prop} {E : List Nat} {S S' : Mem} {a ci : Nat} (e : S' = sNew S a ci) (h : INV M E S) (hn : a ∉ mL S) (hc : ci < 11) : INV M (a :: E) S' := by
  have x := x_sNew e hn
  have hm : mono S S' := x.1
  have old : ∀ b, b ∈ mL S' → b ∉ a :: E → b ∈ mL S ∧ b ∉ E ∧ b ≠ a := fun b hb hE => by
    have h1 : b ≠ a := fun z => hE (by rw [z]; exact List.mem_cons_self)
    rw [e, mL_sNew] at hb
    rcases List.mem_append.mp hb with hb | hb
    · exact ⟨hb, fun z => hE (List.mem_cons_of_mem _ z), h1⟩
    · exact absurd (List.mem_singleton.mp hb) h1
  obtain ⟨h1, h2, h3, h4, h5⟩ := h
  refine ⟨fun b hb => ?_, fun q hq b hb hE hk => ?_, fun q hq b hb hk i => ?_, fun b hb hE hk => ?_, fun b hb hE hk => ?_⟩
  · obtain ⟨g1, g2, g3⟩ := h1 b hb
    have g := hm b g1
    exact ⟨g.1, by rw [g.2.1]; exact g2, by rw [g.2.1]; exact g3⟩
  · obtain ⟨g1, g2, g3⟩ := old b hb hE
    have g := x.2 b g1 (fun z => z)
    rw [g.2.1]
    exact fOK_mono hm (h2 q hq b g1 g2 (by rw [← (hm b g1).2.1]; exact hk))
  · by_cases hb2 : b = a
    · exfalso
      rw [hb2, e, mK_sNew, if_pos rfl] at hk
      have : 13 < q.1 := by
        have := (show ∀ q ∈ ET, 13 < q.1 by decide +kernel) q hq
        exact this
      omega
    · have g1 : b ∈ mL S := by
        rw [e, mL_sNew] at hb
        rcases List.mem_append.mp hb with hb | hb
        · exact hb
        · exact absurd (List.mem_singleton.mp hb) hb2
      have g := x.2 b g1 (fun z => z)
      rw [g.2.2.2.2.1]
      exact nOK_mono hm (h3 q hq b g1 (by rw [← (hm b g1).2.1]; exact hk) i)
  · obtain ⟨g1, g2, g3⟩ := old b hb hE
    rw [(x.2 b g1 (fun z => z)).1]
    exact h4 b g1 g2 (by rw [← (hm b g1).2.1]; exact hk)
  · obtain ⟨g1, g2, g3⟩ := old b hb hE
    rw [(x.2 b g1 (fun z => z)).1]
    exact h5 b g1 g2 (by rw [← (hm b g1).2.1]; exact hk)
theorem inv_sArr {M : Nat → Prop} {E : List Nat} {S S' : Mem} {a kd n : Nat} (e : S' = sArr S a kd n) (h : INV M E S) (hn : a ∉ mL S) (hk0 : 10 < kd) : INV M E S' := by
  have x := x_sArr e hn
  have hm : mono S S' := x.1
  have old : ∀ b, b ∈ mL S' → mK S' b < 11 → b ∈ mL S := fun b hb hk => by
    rw [e, mL_sArr] at hb
    rcases List.mem_append.mp hb with hb | hb
    · exact hb
    · rw [List.mem_singleton.mp hb, e, mK_sArr, if_pos rfl] at hk; omega
  have lt : ∀ q ∈ FT, q.1 / 64 < 11 := by decide +kernel
  obtain ⟨h1, h2, h3, h4, h5⟩ := h
  refine ⟨fun b hb => ?_, fun q hq b hb hE hk => ?_, fun q hq b hb hk i => ?_, fun b hb hE hk => ?_, fun b hb hE hk => ?_⟩
  · obtain ⟨g1, g2, g3⟩ := h1 b hb
    have g := hm b g1
    exact ⟨g.1, by rw [g.2.1]; exact g2, by rw [g.2.1]; exact g3⟩
  · have g1 := old b hb (by rw [hk]; exact lt q hq)
    rw [(x.2 b g1 (fun z => z)).2.1]
    exact fOK_mono hm (h2 q hq b g1 hE (by rw [← (hm b g1).2.1]; exact hk))
  · by_cases hb2 : b = a
    · rw [e, mP_sArr, if_pos hb2]; exact nOK_none
    · have g1 : b ∈ mL S := by
        rw [e, mL_sArr] at hb
        rcases List.mem_append.mp hb with hb | hb
        · exact hb
        · exact absurd (List.mem_singleton.mp hb) hb2
      rw [(x.2 b g1 (fun z => z)).2.2.2.2.1]
      exact nOK_mono hm (h3 q hq b g1 (by rw [← (hm b g1).2.1]; exact hk) i)
  · have g1 := old b hb (by rw [hk]; decide)
    rw [(x.2 b g1 (fun z => z)).1]
    exact h4 b g1 hE (by rw [← (hm b g1).2.1]; exact hk)
  · have g1 := old b hb (by rw [hk]; decide)
    rw [(x.2 b g1 (fun z => z)).1]
    exact h5 b g1 hE (by rw [← (hm b g1).2.1]; exact hk)
/-- an object is done -/
theorem inv_done {M : Nat → Prop} {E : List Nat} {S : Mem} {a ci : Nat} (h : INV M (a :: E) S) (ha : mK S a = ci) (hf : ∀ q ∈ FT, q.1 / 64 = ci → fOK M S q (mO S q.1 a)) (h3 : ci = 3 → ∃ n, n ≤ 20 ∧ mI S 194 a = nI n) (h7 : ci = 7 → ∃ n, n ≤ 200 ∧ mI S 449 a = nI n) : INV M E S := by
  obtain ⟨g1, g2, g3, g4, g5⟩ := h
  have nm : ∀ b, b ≠ a → b ∉ E → b ∉ a :: E := fun b hb hE z => by rcases List.mem_cons.mp z with z | z <;> contradiction
  refine ⟨g1, fun q hq b hb hE hk => ?_, g3, fun b hb hE hk => ?_, fun b hb hE hk => ?_⟩
  · by_cases hba : b = a
    · subst hba; exact hf q hq (hk.symm.trans ha)
    · exact g2 q hq b hb (nm b hba hE) hk
  · by_cases hba : b = a
    · subst hba; exact h3 (ha.symm.trans hk)
    · exact g4 b hb (nm b hba hE) hk
  · by_cases hba : b = a
    · subst hba; exact h7 (ha.symm.trans hk)
    · exact g5 b hb (nm b hba hE) hk
theorem inv_nM {M : Nat → Prop} {E : List Nat} {S : Mem} {a k : Nat} (h : INV M E S) (ha : is S a k) (hk : k < 10 ∨ 13 < k) : ¬ M a := fun z => by
  have := h.1 a z
  rw [ha.2] at this
  omega
theorem inv_nMA {M : Nat → Prop} {E : List Nat} {S : Mem} {a k n : Nat} (h : INV M E S) (ha : isA S a k n) (hk : k < 10 ∨ 13 < k) : ¬ M a := inv_nM h ⟨ha.1, ha.2.1⟩ hk
theorem inv_new {M : Nat → Prop} {E : List Nat} {S : Mem} {a : Nat} (h : INV M E S) (ha : a ∉ mL S) : ¬ M a := fun z => ha (h.1 a z).1
theorem inv_el {M : Nat → Prop} {E : List Nat} {S : Mem} {a kd n k : Nat} (h : INV M E S) (ha : isA S a kd n) (hq : (kd, k) ∈ ET) (i : Nat) : nOK S k (mP S a i) := h.2.2.1 (kd, k) hq a ha.1 ha.2.1 i
theorem T1 {M : Nat → Prop} {E : List Nat} {S : Mem} {a : Nat} (h : INV M E S) (ha : is S a 0) (hE : a ∉ E) : nOK S 5 (mO S 1 a) := by
  have z := h.2.1 (1, 5, 0, true) (List.mem_of_getElem? (i := 0) rfl) a ha.1 hE ha.2
  rcases z with ⟨_, z⟩ | ⟨b, e, z | z⟩
  · exact Or.inl z
  · exact Or.inr ⟨b, e, z.2⟩
  · exact absurd z.1 (by decide)
theorem F1 {M : Nat → Prop} {S : Mem} {o : Option Nat} (h : nOK S 5 o) : ∃ q ∈ FT, q.1 = 1 ∧ fOK M S q o := ⟨(1, 5, 0, true), List.mem_of_getElem? (i := 0) rfl, rfl, by rcases h with h | ⟨b, e, z⟩; exact Or.inl ⟨rfl, h⟩; exact Or.inr ⟨b, e, Or.inl ⟨rfl, z⟩⟩⟩
theorem T4 {M : Nat → Prop} {E : List Nat} {S : Mem} {a : Nat} (h : INV M E S) (ha : is S a 0) (hE : a ∉ E) : nOK S 5 (mO S 4 a) := by
  have z := h.2.1 (4, 5, 0, true) (List.mem_of_getElem? (i := 1) rfl) a ha.1 hE ha.2
  rcases z with ⟨_, z⟩ | ⟨b, e, z | z⟩
  · exact Or.inl z
  · exact Or.inr ⟨b, e, z.2⟩
  · exact absurd z.1 (by decide)
theorem F4 {M : Nat → Prop} {S : Mem} {o : Option Nat} (h : nOK S 5 o) : ∃ q ∈ FT, q.1 = 4 ∧ fOK M S q o := ⟨(4, 5, 0, true), List.mem_of_getElem? (i := 1) rfl, rfl, by rcases h with h | ⟨b, e, z⟩; exact Or.inl ⟨rfl, h⟩; exact Or.inr ⟨b, e, Or.inl ⟨rfl, z⟩⟩⟩
theorem T5 {M : Nat → Prop} {E : List Nat} {S : Mem} {a : Nat} (h : INV M E S) (ha : is S a 0) (hE : a ∉ E) : nOK S 5 (mO S 5 a) := by
  have z := h.2.1 (5, 5, 0, true) (List.mem_of_getElem? (i := 2) rfl) a ha.1 hE ha.2
  rcases z with ⟨_, z⟩ | ⟨b, e, z | z⟩
  · exact Or.inl z
  · exact Or.inr ⟨b, e, z.2⟩
  · exact absurd z.1 (by decide)
theorem F5 {M : Nat → Prop} {S : Mem} {o : Option Nat} (h : nOK S 5 o) : ∃ q ∈ FT, q.1 = 5 ∧ fOK M S q o := ⟨(5, 5, 0, true), List.mem_of_getElem? (i := 2) rfl, rfl, by rcases h with h | ⟨b, e, z⟩; exact Or.inl ⟨rfl, h⟩; exact Or.inr ⟨b, e, Or.inl ⟨rfl, z⟩⟩⟩
theorem T6 {M : Nat → Prop} {E : List Nat} {S : Mem} {a : Nat} (h : INV M E S) (ha : is S a 0) (hE : a ∉ E) : nOK S 3 (mO S 6 a) := by
  have z := h.2.1 (6, 3, 0, true) (List.mem_of_getElem? (i := 3) rfl) a ha.1 hE ha.2
  rcases z with ⟨_, z⟩ | ⟨b, e, z | z⟩
  · exact Or.inl z
  · exact Or.inr ⟨b, e, z.2⟩
  · exact absurd z.1 (by decide)
theorem F6 {M : Nat → Prop} {S : Mem} {o : Option Nat} (h : nOK S 3 o) : ∃ q ∈ FT, q.1 = 6 ∧ fOK M S q o := ⟨(6, 3, 0, true), List.mem_of_getElem? (i := 3) rfl, rfl, by rcases h with h | ⟨b, e, z⟩; exact Or.inl ⟨rfl, h⟩; exact Or.inr ⟨b, e, Or.inl ⟨rfl, z⟩⟩⟩
theorem T64 {M : Nat → Prop} {E : List Nat} {S : Mem} {a : Nat} (h : INV M E S) (ha : is S a 1) (hE : a ∉ E) : ∃ b, mO S 64 a = some b ∧ isA S b 17 20 ∧ ¬ M b := by
  have z := h.2.1 (64, 17, 20, false) (List.mem_of_getElem? (i := 4) rfl) a ha.1 hE ha.2
  rcases z with ⟨z, _⟩ | ⟨b, e, z | z⟩
  · cases z
  · exact absurd z.1 (by decide)
  · exact ⟨b, e, z.2⟩
theorem T66 {M : Nat → Prop} {E : List Nat} {S : Mem} {a : Nat} (h : INV M E S) (ha : is S a 1) (hE : a ∉ E) : ∃ b, mO S 66 a = some b ∧ isA S b 14 12 ∧ ¬ M b := by
  have z := h.2.1 (66, 14, 12, false) (List.mem_of_getElem? (i := 5) rfl) a ha.1 hE ha.2
  rcases z with ⟨z, _⟩ | ⟨b, e, z | z⟩
  · cases z
  · exact absurd z.1 (by decide)
  · exact ⟨b, e, z.2⟩
theorem T68 {M : Nat → Prop} {E : List Nat} {S : Mem} {a : Nat} (h : INV M E S) (ha : is S a 1) (hE : a ∉ E) : ∃ b, mO S 68 a = some b ∧ is S b 4 := by
  have z := h.2.1 (68, 4, 0, false) (List.mem_of_getElem? (i := 6) rfl) a ha.1 hE ha.2
  rcases z with ⟨z, _⟩ | ⟨b, e, z | z⟩
  · cases z
  · exact ⟨b, e, z.2⟩
  · exact absurd z.1 (by decide)
theorem T69 {M : Nat → Prop} {E : List Nat} {S : Mem} {a : Nat} (h : INV M E S) (ha : is S a 1) (hE : a ∉ E) : ∃ b, mO S 69 a = some b ∧ is S b 0 := by
  have z := h.2.1 (69, 0, 0, false) (List.mem_of_getElem? (i := 7) rfl) a ha.1 hE ha.2
  rcases z with ⟨z, _⟩ | ⟨b, e, z | z⟩
  · cases z
  · exact ⟨b, e, z.2⟩
  · exact absurd z.1 (by decide)
theorem T130 {M : Nat → Prop} {E : List Nat} {S : Mem} {a : Nat} (h : INV M E S) (ha : is S a 2) (hE : a ∉ E) : ∃ b, mO S 130 a = some b ∧ is S b 3 := by
  have z := h.2.1 (130, 3, 0, false) (List.mem_of_getElem? (i := 8) rfl) a ha.1 hE ha.2
  rcases z with ⟨z, _⟩ | ⟨b, e, z | z⟩
  · cases z
  · exact ⟨b, e, z.2⟩
  · exact absurd z.1 (by decide)
theorem T131 {M : Nat → Prop} {E : List Nat} {S : Mem} {a : Nat} (h : INV M E S) (ha : is S a 2) (hE : a ∉ E) : ∃ b, mO S 131 a = some b ∧ isA S b 11 5 ∧ ¬ M b := by
  have z := h.2.1 (131, 11, 5, false) (List.mem_of_getElem? (i := 9) rfl) a ha.1 hE ha.2
  rcases z with ⟨z, _⟩ | ⟨b, e, z | z⟩
  · cases z
  · exact absurd z.1 (by decide)
  · exact ⟨b, e, z.2⟩
theorem T133 {M : Nat → Prop} {E : List Nat} {S : Mem} {a : Nat} (h : INV M E S) (ha : is S a 2) (hE : a ∉ E) : ∃ b, mO S 133 a = some b ∧ isA S b 16 12 ∧ ¬ M b := by
  have z := h.2.1 (133, 16, 12, false) (List.mem_of_getElem? (i := 10) rfl) a ha.1 hE ha.2
  rcases z with ⟨z, _⟩ | ⟨b, e, z | z⟩
  · cases z
  · exact absurd z.1 (by decide)
  · exact ⟨b, e, z.2⟩
theorem T134 {M : Nat → Prop} {E : List Nat} {S : Mem} {a : Nat} (h : INV M E S) (ha : is S a 2) (hE : a ∉ E) : ∃ b, mO S 134 a = some b ∧ isA S b 13 240 ∧ ¬ M b := by
  have z := h.2.1 (134, 13, 240, false) (List.mem_of_getElem? (i := 11) rfl) a ha.1 hE ha.2
  rcases z with ⟨z, _⟩ | ⟨b, e, z | z⟩
  · cases z
  · exact absurd z.1 (by decide)
  · exact ⟨b, e, z.2⟩
theorem T136 {M : Nat → Prop} {E : List Nat} {S : Mem} {a : Nat} (h : INV M E S) (ha : is S a 2) (hE : a ∉ E) : ∃ b, mO S 136 a = some b ∧ isA S b 11 240 ∧ ¬ M b := by
  have z := h.2.1 (136, 11, 240, false) (List.mem_of_getElem? (i := 12) rfl) a ha.1 hE ha.2
  rcases z with ⟨z, _⟩ | ⟨b, e, z | z⟩
  · cases z
  · exact absurd z.1 (by decide)
  · exact ⟨b, e, z.2⟩
theorem T137 {M : Nat → Prop} {E : List Nat} {S : Mem} {a : Nat} (h : INV M E S) (ha : is S a 2) (hE : a ∉ E) : ∃ b, mO S 137 a = some b ∧ isA S b 11 240 ∧ ¬ M b := by
  have z := h.2.1 (137, 11, 240, false) (List.mem_of_getElem? (i := 13) rfl) a ha.1 hE ha.2
  rcases z with ⟨z, _⟩ | ⟨b, e, z | z⟩
  · cases z
  · exact absurd z.1 (by decide)
  · exact ⟨b, e, z.2⟩
theorem T139 {M : Nat → Prop} {E : List Nat} {S : Mem} {a : Nat} (h : INV M E S) (ha : is S a 2) (hE : a ∉ E) : ∃ b, mO S 139 a = some b ∧ isA S b 11 12 ∧ ¬ M b := by
  have z := h.2.1 (139, 11, 12, false) (List.mem_of_getElem? (i := 14) rfl) a ha.1 hE ha.2
  rcases z with ⟨z, _⟩ | ⟨b, e, z | z⟩
  · cases z
  · exact absurd z.1 (by decide)
  · exact ⟨b, e, z.2⟩
theorem T140 {M : Nat → Prop} {E : List Nat} {S : Mem} {a : Nat} (h : INV M E S) (ha : is S a 2) (hE : a ∉ E) : ∃ b, mO S 140 a = some b ∧ isA S b 12 4 ∧ ¬ M b := by
  have z := h.2.1 (140, 12, 4, false) (List.mem_of_getElem? (i := 15) rfl) a ha.1 hE ha.2
  rcases z with ⟨z, _⟩ | ⟨b, e, z | z⟩
  · cases z
  · exact absurd z.1 (by decide)
  · exact ⟨b, e, z.2⟩
theorem T192 {M : Nat → Prop} {E : List Nat} {S : Mem} {a : Nat} (h : INV M E S) (ha : is S a 3) (hE : a ∉ E) : ∃ b, mO S 192 a = some b ∧ isA S b 11 20 ∧ ¬ M b := by
  have z := h.2.1 (192, 11, 20, false) (List.mem_of_getElem? (i := 16) rfl) a ha.1 hE ha.2
  rcases z with ⟨z, _⟩ | ⟨b, e, z | z⟩
  · cases z
  · exact absurd z.1 (by decide)
  · exact ⟨b, e, z.2⟩
theorem T193 {M : Nat → Prop} {E : List Nat} {S : Mem} {a : Nat} (h : INV M E S) (ha : is S a 3) (hE : a ∉ E) : ∃ b, mO S 193 a = some b ∧ isA S b 11 20 ∧ ¬ M b := by
  have z := h.2.1 (193, 11, 20, false) (List.mem_of_getElem? (i := 17) rfl) a ha.1 hE ha.2
  rcases z with ⟨z, _⟩ | ⟨b, e, z | z⟩
  · cases z
  · exact absurd z.1 (by decide)
  · exact ⟨b, e, z.2⟩
theorem T256 {M : Nat → Prop} {E : List Nat} {S : Mem} {a : Nat} (h : INV M E S) (ha : is S a 4) (hE : a ∉ E) : ∃ b, mO S 256 a = some b ∧ isA S b 15 7 ∧ ¬ M b := by
  have z := h.2.1 (256, 15, 7, false) (List.mem_of_getElem? (i := 18) rfl) a ha.1 hE ha.2
  rcases z with ⟨z, _⟩ | ⟨b, e, z | z⟩
  · cases z
  · exact absurd z.1 (by decide)
  · exact ⟨b, e, z.2⟩
theorem T257 {M : Nat → Prop} {E : List Nat} {S : Mem} {a : Nat} (h : INV M E S) (ha : is S a 4) (hE : a ∉ E) : ∃ b, mO S 257 a = some b ∧ isA S b 11 7 ∧ ¬ M b := by
  have z := h.2.1 (257, 11, 7, false) (List.mem_of_getElem? (i := 19) rfl) a ha.1 hE ha.2
  rcases z with ⟨z, _⟩ | ⟨b, e, z | z⟩
  · cases z
  · exact absurd z.1 (by decide)
  · exact ⟨b, e, z.2⟩
theorem T258 {M : Nat → Prop} {E : List Nat} {S : Mem} {a : Nat} (h : INV M E S) (ha : is S a 4) (hE : a ∉ E) : ∃ b, mO S 258 a = some b ∧ is S b 3 := by
  have z := h.2.1 (258, 3, 0, false) (List.mem_of_getElem? (i := 20) rfl) a ha.1 hE ha.2
  rcases z with ⟨z, _⟩ | ⟨b, e, z | z⟩
  · cases z
  · exact ⟨b, e, z.2⟩
  · exact absurd z.1 (by decide)
theorem T259 {M : Nat → Prop} {E : List Nat} {S : Mem} {a : Nat} (h : INV M E S) (ha : is S a 4) (hE : a ∉ E) : ∃ b, mO S 259 a = some b ∧ is S b 3 := by
  have z := h.2.1 (259, 3, 0, false) (List.mem_of_getElem? (i := 21) rfl) a ha.1 hE ha.2
  rcases z with ⟨z, _⟩ | ⟨b, e, z | z⟩
  · cases z
  · exact ⟨b, e, z.2⟩
  · exact absurd z.1 (by decide)
theorem T325 {M : Nat → Prop} {E : List Nat} {S : Mem} {a : Nat} (h : INV M E S) (ha : is S a 5) (hE : a ∉ E) : ∃ b, mO S 325 a = some b ∧ isA S b 11 8 ∧ ¬ M b := by
  have z := h.2.1 (325, 11, 8, false) (List.mem_of_getElem? (i := 22) rfl) a ha.1 hE ha.2
  rcases z with ⟨z, _⟩ | ⟨b, e, z | z⟩
  · cases z
  · exact absurd z.1 (by decide)
  · exact ⟨b, e, z.2⟩
theorem T326 {M : Nat → Prop} {E : List Nat} {S : Mem} {a : Nat} (h : INV M E S) (ha : is S a 5) (hE : a ∉ E) : ∃ b, mO S 326 a = some b ∧ isA S b 11 8 ∧ ¬ M b := by
  have z := h.2.1 (326, 11, 8, false) (List.mem_of_getElem? (i := 23) rfl) a ha.1 hE ha.2
  rcases z with ⟨z, _⟩ | ⟨b, e, z | z⟩
  · cases z
  · exact absurd z.1 (by decide)
  · exact ⟨b, e, z.2⟩
theorem T327 {M : Nat → Prop} {E : List Nat} {S : Mem} {a : Nat} (h : INV M E S) (ha : is S a 5) (hE : a ∉ E) : ∃ b, mO S 327 a = some b ∧ isA S b 11 8 ∧ ¬ M b := by
  have z := h.2.1 (327, 11, 8, false) (List.mem_of_getElem? (i := 24) rfl) a ha.1 hE ha.2
  rcases z with ⟨z, _⟩ | ⟨b, e, z | z⟩
  · cases z
  · exact absurd z.1 (by decide)
  · exact ⟨b, e, z.2⟩
theorem T384 {M : Nat → Prop} {E : List Nat} {S : Mem} {a : Nat} (h : INV M E S) (ha : is S a 6) (hE : a ∉ E) : ∃ b, mO S 384 a = some b ∧ is S b 1 := by
  have z := h.2.1 (384, 1, 0, false) (List.mem_of_getElem? (i := 25) rfl) a ha.1 hE ha.2
  rcases z with ⟨z, _⟩ | ⟨b, e, z | z⟩
  · cases z
  · exact ⟨b, e, z.2⟩
  · exact absurd z.1 (by decide)
theorem T385 {M : Nat → Prop} {E : List Nat} {S : Mem} {a : Nat} (h : INV M E S) (ha : is S a 6) (hE : a ∉ E) : ∃ b, mO S 385 a = some b ∧ is S b 7 := by
  have z := h.2.1 (385, 7, 0, false) (List.mem_of_getElem? (i := 26) rfl) a ha.1 hE ha.2
  rcases z with ⟨z, _⟩ | ⟨b, e, z | z⟩
  · cases z
  · exact ⟨b, e, z.2⟩
  · exact absurd z.1 (by decide)
theorem T448 {M : Nat → Prop} {E : List Nat} {S : Mem} {a : Nat} (h : INV M E S) (ha : is S a 7) (hE : a ∉ E) : ∃ b, mO S 448 a = some b ∧ isA S b 12 1000 ∧ ¬ M b := by
  have z := h.2.1 (448, 12, 1000, false) (List.mem_of_getElem? (i := 27) rfl) a ha.1 hE ha.2
  rcases z with ⟨z, _⟩ | ⟨b, e, z | z⟩
  · cases z
  · exact absurd z.1 (by decide)
  · exact ⟨b, e, z.2⟩
theorem T512 {M : Nat → Prop} {E : List Nat} {S : Mem} {a : Nat} (h : INV M E S) (ha : is S a 8) (hE : a ∉ E) : ∃ b, mO S 512 a = some b ∧ is S b 3 := by
  have z := h.2.1 (512, 3, 0, false) (List.mem_of_getElem? (i := 28) rfl) a ha.1 hE ha.2
  rcases z with ⟨z, _⟩ | ⟨b, e, z | z⟩
  · cases z
  · exact ⟨b, e, z.2⟩
  · exact absurd z.1 (by decide)
theorem T513 {M : Nat → Prop} {E : List Nat} {S : Mem} {a : Nat} (h : INV M E S) (ha : is S a 8) (hE : a ∉ E) : ∃ b, mO S 513 a = some b ∧ isA S b 16 12 ∧ ¬ M b := by
  have z := h.2.1 (513, 16, 12, false) (List.mem_of_getElem? (i := 29) rfl) a ha.1 hE ha.2
  rcases z with ⟨z, _⟩ | ⟨b, e, z | z⟩
  · cases z
  · exact absurd z.1 (by decide)
  · exact ⟨b, e, z.2⟩
theorem T514 {M : Nat → Prop} {E : List Nat} {S : Mem} {a : Nat} (h : INV M E S) (ha : is S a 8) (hE : a ∉ E) : ∃ b, mO S 514 a = some b ∧ isA S b 16 12 ∧ ¬ M b := by
  have z := h.2.1 (514, 16, 12, false) (List.mem_of_getElem? (i := 30) rfl) a ha.1 hE ha.2
  rcases z with ⟨z, _⟩ | ⟨b, e, z | z⟩
  · cases z
  · exact absurd z.1 (by decide)
  · exact ⟨b, e, z.2⟩
theorem T576 {M : Nat → Prop} {E : List Nat} {S : Mem} {a : Nat} (h : INV M E S) (ha : is S a 9) (hE : a ∉ E) : ∃ b, mO S 576 a = some b ∧ is S b 1 := by
  have z := h.2.1 (576, 1, 0, false) (List.mem_of_getElem? (i := 31) rfl) a ha.1 hE ha.2
  rcases z with ⟨z, _⟩ | ⟨b, e, z | z⟩
  · cases z
  · exact ⟨b, e, z.2⟩
  · exact absurd z.1 (by decide)
theorem T577 {M : Nat → Prop} {E : List Nat} {S : Mem} {a : Nat} (h : INV M E S) (ha : is S a 9) (hE : a ∉ E) : ∃ b, mO S 577 a = some b ∧ is S b 6 := by
  have z := h.2.1 (577, 6, 0, false) (List.mem_of_getElem? (i := 32) rfl) a ha.1 hE ha.2
  rcases z with ⟨z, _⟩ | ⟨b, e, z | z⟩
  · cases z
  · exact ⟨b, e, z.2⟩
  · exact absurd z.1 (by decide)
theorem T578 {M : Nat → Prop} {E : List Nat} {S : Mem} {a : Nat} (h : INV M E S) (ha : is S a 9) (hE : a ∉ E) : nOK S 5 (mO S 578 a) := by
  have z := h.2.1 (578, 5, 0, true) (List.mem_of_getElem? (i := 33) rfl) a ha.1 hE ha.2
  rcases z with ⟨_, z⟩ | ⟨b, e, z | z⟩
  · exact Or.inl z
  · exact Or.inr ⟨b, e, z.2⟩
  · exact absurd z.1 (by decide)
theorem F578 {M : Nat → Prop} {S : Mem} {o : Option Nat} (h : nOK S 5 o) : ∃ q ∈ FT, q.1 = 578 ∧ fOK M S q o := ⟨(578, 5, 0, true), List.mem_of_getElem? (i := 33) rfl, rfl, by rcases h with h | ⟨b, e, z⟩; exact Or.inl ⟨rfl, h⟩; exact Or.inr ⟨b, e, Or.inl ⟨rfl, z⟩⟩⟩
end
section
theorem v_topq {p : Program} {l : Launch} {e : Env} {R : Room} {s : State} {m : MethodId} {args : Array Value} {below : List Frame} {meth : Method} {c : Code} {D : va_G} {G : Nat → ClassId} {bs nL : Nat} {Q : State → Prop} {cells slots : Nat} {S : Mem} {pc k : Nat} {lv : List (Option Value)} {st : List Value} {o : Option Nat} (h : nOK S k o) (kk : ∀ o', nOK S k o' → V p l e R s m args below meth c D G bs nL Q cells slots S pc lv (va_rf o' :: st)) : V p l e R s m args below meth c D G bs nL Q cells slots S pc lv (va_rf o :: st) := kk o h
theorem V.drop {p : Program} {l : Launch} {e : Env} {R : Room} {s : State} {m : MethodId} {args : Array Value} {below : List Frame} {meth : Method} {c : Code} {D : va_G} {G : Nat → ClassId} {bs nL : Nat} {Q : State → Prop} {cells slots : Nat} {S : Mem} {pc : Nat} {lv : List (Option Value)} {st : List Value} (j : Nat) (kk : V p l e R s m args below meth c D G bs nL Q cells slots S pc (lv.set j none) st) : V p l e R s m args below meth c D G bs nL Q cells slots S pc lv st := by
  intro H locs ls h1 h2 h3 h4
  refine kk H locs ls h1 h2 h3 ⟨h4.1, h4.2.1, fun q hq => h4.2.2 q ?_⟩
  obtain ⟨i, e1, hi⟩ := lvl_of _ _ _ hq
  obtain ⟨q1, q2⟩ := q
  simp only [Nat.zero_add] at e1
  subst e1
  by_cases hji : q1 = j
  · subst hji
    have hlt : q1 < lv.length := by
      have := (List.getElem?_eq_some_iff.mp hi).1
      simpa using this
    rw [List.getElem?_set_self hlt] at hi
    cases hi
  · rw [List.getElem?_set_ne (Ne.symm hji)] at hi
    exact lvl_mem0 hi
theorem bI_nar (x : Bool) : narrow .boolean (.int (bI x)) = .int (bI x) := by cases x <;> rfl
theorem xk_is {M : Nat → Prop} {E : List Nat} {S S1 : Mem} {X : Nat → Prop} {Ks : List Nat} {b k : Nat} (e : ext S S1 X) (i : is S1 b k) (iv : INV M E S1) (hk : k < 10 ∨ 13 < k) (hm : k ∈ Ks) : ∀ a, a ∈ mL S → a = b → ¬ M a ∧ mK S a ∈ Ks := fun a ha z => by
  subst z
  exact ⟨inv_nM iv i hk, by rw [← (e.1 a ha).2.1, i.2]; exact hm⟩
theorem xk_P {M : Nat → Prop} {E : List Nat} {S S1 : Mem} {X : Nat → Prop} {Ks : List Nat} {b k n : Nat} (e : ext S S1 X) (i : isA S1 b k n) (iv : INV M E S1) (hk : k < 10 ∨ 13 < k) (hm : k ∈ Ks) : ∀ a, a ∈ mL S → a = b → ¬ M a ∧ mK S a ∈ Ks := xk_is e ⟨i.1, i.2.1⟩ iv hk hm
theorem xk_A {M : Nat → Prop} {S S1 : Mem} {X : Nat → Prop} {Ks : List Nat} {b k n : Nat} (e : ext S S1 X) (i : isA S1 b k n) (nm : ¬ M b) (hm : k ∈ Ks) : ∀ a, a ∈ mL S → a = b → ¬ M a ∧ mK S a ∈ Ks := fun a ha z => by
  subst z
  exact ⟨nm, by rw [← (e.1 a ha).2.1, i.2.1]; exact hm⟩
theorem xk_call {M : Nat → Prop} {S S1 : Mem} {X : Nat → Prop} {Ks Ks' : List Nat} (e : ext S S1 X) (hs : ∀ k ∈ Ks', k ∈ Ks) : ∀ a, a ∈ mL S → (¬ M a ∧ mK S1 a ∈ Ks') → ¬ M a ∧ mK S a ∈ Ks := fun a ha z => ⟨z.1, hs _ (by rw [← (e.1 a ha).2.1]; exact z.2)⟩
theorem ct_mono {l : Launch} {y : MethodName} {cc : ByteArray} {maxL : Nat} {ret : Option FieldType} {f mc ms lo : Nat} {Pre : Mem → List Value → Prop} {Post Post' : Mem → List Value → Option Value → Mem → Prop} (h : Ct l y cc maxL ret f mc ms lo Pre Post) (hp : ∀ S av r S', Post S av r S' → Post' S av r S') : Ct l y cc maxL ret f mc ms lo Pre Post' := fun D G bs S av hpre p e ha hc hk s m args below hf h1 h2 h3 => by
  obtain ⟨t, o, g1, g2, g3, ⟨⟨r, S', e1, e2, e3⟩, e4⟩, g5⟩ := h D G bs S av hpre p e ha hc hk s m args below hf h1 h2 h3
  exact ⟨t, o, g1, g2, g3, ⟨⟨r, S', e1, hp _ _ _ _ e2, e3⟩, e4⟩, g5⟩
theorem sb_isBelow (l : Launch) (a b : Int32) : Ct l yX9_isBelow cX9_isBelow 2 (some .boolean) 0 0 0 0 (fun _ av => av = [.int a, .int b]) (fun S _ r S' => ∃ v, r = some (.int (bI v)) ∧ v = isB a b ∧ S' = S) := ct_mono (ct_X9_isBelow l a b) (fun _ _ _ _ h => ⟨_, h.1, rfl, h.2⟩)
theorem sb_isAct (l : Launch) (a : Int32) : Ct l yX9_isAct cX9_isAct 1 (some .boolean) 1 0 0 21 (fun _ av => av = [.int a]) (fun S _ r S' => ∃ v, r = some (.int (bI v)) ∧ v = isB a 12 ∧ S' = S) := ct_mono (ct_X9_isAct l a) (fun _ _ _ _ h => ⟨_, h.1, rfl, h.2⟩)
theorem bI_ne {x : Bool} {i b : Int32} {n : Nat} (p : x = isB i b) (h : ¬ bI x = 0) (hb : b.toInt = n) : vp_in i n := isB_in (by rw [← p]; exact h) hb
theorem dX5_kindAt_0 : decode cX5_kindAt 0 = .ok (.iload_n 1, 1) := by decide +kernel
theorem dX5_kindAt_1 : decode cX5_kindAt 1 = .ok (.bipush 8, 2) := by decide +kernel
theorem dX5_kindAt_3 : decode cX5_kindAt 3 = .ok (.invokestatic 41, 3) := by decide +kernel
theorem dX5_kindAt_6 : decode cX5_kindAt 6 = .ok (.ifCond .eq 12, 3) := by decide +kernel
theorem dX5_kindAt_9 : decode cX5_kindAt 9 = .ok (.aload_n 0, 1) := by decide +kernel
theorem dX5_kindAt_10 : decode cX5_kindAt 10 = .ok (.getfield 9, 3) := by decide +kernel
theorem dX5_kindAt_13 : decode cX5_kindAt 13 = .ok (.iload_n 1, 1) := by decide +kernel
theorem dX5_kindAt_14 : decode cX5_kindAt 14 = .ok (.iaload, 1) := by decide +kernel
theorem dX5_kindAt_15 : decode cX5_kindAt 15 = .ok (.goto 4, 3) := by decide +kernel
theorem dX5_kindAt_18 : decode cX5_kindAt 18 = .ok (.iconst (-1), 1) := by decide +kernel
theorem dX5_kindAt_19 : decode cX5_kindAt 19 = .ok (.ireturn, 1) := by decide +kernel
set_option maxRecDepth 100000 in
set_option maxHeartbeats 4000000 in
theorem st_X5_kindAt (l : Launch) (M : Nat → Prop) (h : Nat) (p0 : Int32) : Ct l yX5_kindAt cX5_kindAt 2 (some .int) 1 0 0 21 (fun S av => av = [.ref h, .int p0] ∧ INV M [] S ∧ is S h 5) (fun S _ r S' => ∃ v, r = some (.int v) ∧ S' = S) := by
  refine ct_of (by decide) (fun S av h => by obtain ⟨rfl, iv, i_this⟩ := h; exact Nat.le_of_ble_eq_true rfl) ?_
  intro p e s m args below meth c D G bs S av C hr hin hpre
  obtain ⟨rfl, iv, i_this⟩ := hpre
  refine v_iload_n C dX5_kindAt_0 rfl ?_
  refine v_bipush (v := 8) C dX5_kindAt_1 (by decide) ?_
  refine v_callSN (As := [_, _]) (n := 2) C (sb_isBelow l _ _) rfl ⟨(by decide +kernel), wd141, wd2, wd142⟩ hy_X9_isBelow rfl ⟨Nat.le_of_ble_eq_true rfl, Nat.le_of_ble_eq_true rfl⟩ (Nat.le_of_ble_eq_true rfl) ⟨Nat.le_of_ble_eq_true rfl, Nat.le_of_ble_eq_true rfl⟩ dX5_kindAt_3 rfl (fun r_3 S2_3 h_3 => ?_)
  obtain ⟨v3, rfl, p_v3, q_v3⟩ := h_3
  obtain rfl := q_v3.symm
  refine v_if_eq (tgt := 18) C dX5_kindAt_6 (by decide) (fun c_6 => ?_) (fun c_6 => ?_)
  · skip
    refine v_iconst (v := -1) C dX5_kindAt_18 (by decide) ?_
    refine v_iret C hr (Nat.le_of_ble_eq_true rfl) (Nat.le_of_ble_eq_true rfl) dX5_kindAt_19 ?_
    exact ⟨_, rfl, rfl⟩
  · skip
    refine v_aload_n C dX5_kindAt_9 rfl ?_
    obtain ⟨r10, e_r10, i_r10, m_r10⟩ := T325 iv i_this List.not_mem_nil
    refine r5_9 (b := r10) C i_this e_r10 dX5_kindAt_10 ?_
    refine v_iload_n C dX5_kindAt_13 rfl ?_
    refine v_iald C i_r10 (bI_ne p_v3 c_6 rfl) dX5_kindAt_14 ?_
    refine v_topi (fun v14 e_v14 => ?_)
    refine v_goto (tgt := 19) C dX5_kindAt_15 (by decide) ?_
    refine v_iret C hr (Nat.le_of_ble_eq_true rfl) (Nat.le_of_ble_eq_true rfl) dX5_kindAt_19 ?_
    exact ⟨_, rfl, rfl⟩
theorem dX5_firstAt_0 : decode cX5_firstAt 0 = .ok (.iload_n 1, 1) := by decide +kernel
theorem dX5_firstAt_1 : decode cX5_firstAt 1 = .ok (.bipush 8, 2) := by decide +kernel
theorem dX5_firstAt_3 : decode cX5_firstAt 3 = .ok (.invokestatic 41, 3) := by decide +kernel
theorem dX5_firstAt_6 : decode cX5_firstAt 6 = .ok (.ifCond .eq 12, 3) := by decide +kernel
theorem dX5_firstAt_9 : decode cX5_firstAt 9 = .ok (.aload_n 0, 1) := by decide +kernel
theorem dX5_firstAt_10 : decode cX5_firstAt 10 = .ok (.getfield 15, 3) := by decide +kernel
theorem dX5_firstAt_13 : decode cX5_firstAt 13 = .ok (.iload_n 1, 1) := by decide +kernel
theorem dX5_firstAt_14 : decode cX5_firstAt 14 = .ok (.iaload, 1) := by decide +kernel
theorem dX5_firstAt_15 : decode cX5_firstAt 15 = .ok (.goto 4, 3) := by decide +kernel
theorem dX5_firstAt_18 : decode cX5_firstAt 18 = .ok (.iconst (-1), 1) := by decide +kernel
theorem dX5_firstAt_19 : decode cX5_firstAt 19 = .ok (.ireturn, 1) := by decide +kernel
set_option maxRecDepth 100000 in
set_option maxHeartbeats 4000000 in
theorem st_X5_firstAt (l : Launch) (M : Nat → Prop) (h : Nat) (p0 : Int32) : Ct l yX5_firstAt cX5_firstAt 2 (some .int) 1 0 0 21 (fun S av => av = [.ref h, .int p0] ∧ INV M [] S ∧ is S h 5) (fun S _ r S' => ∃ v, r = some (.int v) ∧ S' = S) := by
  refine ct_of (by decide) (fun S av h => by obtain ⟨rfl, iv, i_this⟩ := h; exact Nat.le_of_ble_eq_true rfl) ?_
  intro p e s m args below meth c D G bs S av C hr hin hpre
  obtain ⟨rfl, iv, i_this⟩ := hpre
  refine v_iload_n C dX5_firstAt_0 rfl ?_
  refine v_bipush (v := 8) C dX5_firstAt_1 (by decide) ?_
  refine v_callSN (As := [_, _]) (n := 2) C (sb_isBelow l _ _) rfl ⟨(by decide +kernel), wd141, wd2, wd142⟩ hy_X9_isBelow rfl ⟨Nat.le_of_ble_eq_true rfl, Nat.le_of_ble_eq_true rfl⟩ (Nat.le_of_ble_eq_true rfl) ⟨Nat.le_of_ble_eq_true rfl, Nat.le_of_ble_eq_true rfl⟩ dX5_firstAt_3 rfl (fun r_3 S2_3 h_3 => ?_)
  obtain ⟨v3, rfl, p_v3, q_v3⟩ := h_3
  obtain rfl := q_v3.symm
  refine v_if_eq (tgt := 18) C dX5_firstAt_6 (by decide) (fun c_6 => ?_) (fun c_6 => ?_)
  · skip
    refine v_iconst (v := -1) C dX5_firstAt_18 (by decide) ?_
    refine v_iret C hr (Nat.le_of_ble_eq_true rfl) (Nat.le_of_ble_eq_true rfl) dX5_firstAt_19 ?_
    exact ⟨_, rfl, rfl⟩
  · skip
    refine v_aload_n C dX5_firstAt_9 rfl ?_
    obtain ⟨r10, e_r10, i_r10, m_r10⟩ := T326 iv i_this List.not_mem_nil
    refine r5_15 (b := r10) C i_this e_r10 dX5_firstAt_10 ?_
    refine v_iload_n C dX5_firstAt_13 rfl ?_
    refine v_iald C i_r10 (bI_ne p_v3 c_6 rfl) dX5_firstAt_14 ?_
    refine v_topi (fun v14 e_v14 => ?_)
    refine v_goto (tgt := 19) C dX5_firstAt_15 (by decide) ?_
    refine v_iret C hr (Nat.le_of_ble_eq_true rfl) (Nat.le_of_ble_eq_true rfl) dX5_firstAt_19 ?_
    exact ⟨_, rfl, rfl⟩
theorem dX5_secondAt_0 : decode cX5_secondAt 0 = .ok (.iload_n 1, 1) := by decide +kernel
theorem dX5_secondAt_1 : decode cX5_secondAt 1 = .ok (.bipush 8, 2) := by decide +kernel
theorem dX5_secondAt_3 : decode cX5_secondAt 3 = .ok (.invokestatic 41, 3) := by decide +kernel
theorem dX5_secondAt_6 : decode cX5_secondAt 6 = .ok (.ifCond .eq 12, 3) := by decide +kernel
theorem dX5_secondAt_9 : decode cX5_secondAt 9 = .ok (.aload_n 0, 1) := by decide +kernel
theorem dX5_secondAt_10 : decode cX5_secondAt 10 = .ok (.getfield 18, 3) := by decide +kernel
theorem dX5_secondAt_13 : decode cX5_secondAt 13 = .ok (.iload_n 1, 1) := by decide +kernel
theorem dX5_secondAt_14 : decode cX5_secondAt 14 = .ok (.iaload, 1) := by decide +kernel
theorem dX5_secondAt_15 : decode cX5_secondAt 15 = .ok (.goto 4, 3) := by decide +kernel
theorem dX5_secondAt_18 : decode cX5_secondAt 18 = .ok (.iconst (-1), 1) := by decide +kernel
theorem dX5_secondAt_19 : decode cX5_secondAt 19 = .ok (.ireturn, 1) := by decide +kernel
set_option maxRecDepth 100000 in
set_option maxHeartbeats 4000000 in
theorem st_X5_secondAt (l : Launch) (M : Nat → Prop) (h : Nat) (p0 : Int32) : Ct l yX5_secondAt cX5_secondAt 2 (some .int) 1 0 0 21 (fun S av => av = [.ref h, .int p0] ∧ INV M [] S ∧ is S h 5) (fun S _ r S' => ∃ v, r = some (.int v) ∧ S' = S) := by
  refine ct_of (by decide) (fun S av h => by obtain ⟨rfl, iv, i_this⟩ := h; exact Nat.le_of_ble_eq_true rfl) ?_
  intro p e s m args below meth c D G bs S av C hr hin hpre
  obtain ⟨rfl, iv, i_this⟩ := hpre
  refine v_iload_n C dX5_secondAt_0 rfl ?_
  refine v_bipush (v := 8) C dX5_secondAt_1 (by decide) ?_
  refine v_callSN (As := [_, _]) (n := 2) C (sb_isBelow l _ _) rfl ⟨(by decide +kernel), wd141, wd2, wd142⟩ hy_X9_isBelow rfl ⟨Nat.le_of_ble_eq_true rfl, Nat.le_of_ble_eq_true rfl⟩ (Nat.le_of_ble_eq_true rfl) ⟨Nat.le_of_ble_eq_true rfl, Nat.le_of_ble_eq_true rfl⟩ dX5_secondAt_3 rfl (fun r_3 S2_3 h_3 => ?_)
  obtain ⟨v3, rfl, p_v3, q_v3⟩ := h_3
  obtain rfl := q_v3.symm
  refine v_if_eq (tgt := 18) C dX5_secondAt_6 (by decide) (fun c_6 => ?_) (fun c_6 => ?_)
  · skip
    refine v_iconst (v := -1) C dX5_secondAt_18 (by decide) ?_
    refine v_iret C hr (Nat.le_of_ble_eq_true rfl) (Nat.le_of_ble_eq_true rfl) dX5_secondAt_19 ?_
    exact ⟨_, rfl, rfl⟩
  · skip
    refine v_aload_n C dX5_secondAt_9 rfl ?_
    obtain ⟨r10, e_r10, i_r10, m_r10⟩ := T327 iv i_this List.not_mem_nil
    refine r5_18 (b := r10) C i_this e_r10 dX5_secondAt_10 ?_
    refine v_iload_n C dX5_secondAt_13 rfl ?_
    refine v_iald C i_r10 (bI_ne p_v3 c_6 rfl) dX5_secondAt_14 ?_
    refine v_topi (fun v14 e_v14 => ?_)
    refine v_goto (tgt := 19) C dX5_secondAt_15 (by decide) ?_
    refine v_iret C hr (Nat.le_of_ble_eq_true rfl) (Nat.le_of_ble_eq_true rfl) dX5_secondAt_19 ?_
    exact ⟨_, rfl, rfl⟩
theorem dX3_placeOf_0 : decode cX3_placeOf 0 = .ok (.iload_n 1, 1) := by decide +kernel
theorem dX3_placeOf_1 : decode cX3_placeOf 1 = .ok (.bipush 20, 2) := by decide +kernel
theorem dX3_placeOf_3 : decode cX3_placeOf 3 = .ok (.invokestatic 28, 3) := by decide +kernel
theorem dX3_placeOf_6 : decode cX3_placeOf 6 = .ok (.ifCond .eq 12, 3) := by decide +kernel
theorem dX3_placeOf_9 : decode cX3_placeOf 9 = .ok (.aload_n 0, 1) := by decide +kernel
theorem dX3_placeOf_10 : decode cX3_placeOf 10 = .ok (.getfield 15, 3) := by decide +kernel
theorem dX3_placeOf_13 : decode cX3_placeOf 13 = .ok (.iload_n 1, 1) := by decide +kernel
theorem dX3_placeOf_14 : decode cX3_placeOf 14 = .ok (.iaload, 1) := by decide +kernel
theorem dX3_placeOf_15 : decode cX3_placeOf 15 = .ok (.goto 4, 3) := by decide +kernel
theorem dX3_placeOf_18 : decode cX3_placeOf 18 = .ok (.iconst (-1), 1) := by decide +kernel
theorem dX3_placeOf_19 : decode cX3_placeOf 19 = .ok (.ireturn, 1) := by decide +kernel
set_option maxRecDepth 100000 in
set_option maxHeartbeats 4000000 in
theorem st_X3_placeOf (l : Launch) (M : Nat → Prop) (h : Nat) (p0 : Int32) : Ct l yX3_placeOf cX3_placeOf 2 (some .int) 1 0 0 21 (fun S av => av = [.ref h, .int p0] ∧ INV M [] S ∧ is S h 3) (fun S _ r S' => ∃ v, r = some (.int v) ∧ S' = S) := by
  refine ct_of (by decide) (fun S av h => by obtain ⟨rfl, iv, i_this⟩ := h; exact Nat.le_of_ble_eq_true rfl) ?_
  intro p e s m args below meth c D G bs S av C hr hin hpre
  obtain ⟨rfl, iv, i_this⟩ := hpre
  refine v_iload_n C dX3_placeOf_0 rfl ?_
  refine v_bipush (v := 20) C dX3_placeOf_1 (by decide) ?_
  refine v_callSN (As := [_, _]) (n := 2) C (sb_isBelow l _ _) rfl ⟨(by decide +kernel), wd141, wd2, wd142⟩ hy_X9_isBelow rfl ⟨Nat.le_of_ble_eq_true rfl, Nat.le_of_ble_eq_true rfl⟩ (Nat.le_of_ble_eq_true rfl) ⟨Nat.le_of_ble_eq_true rfl, Nat.le_of_ble_eq_true rfl⟩ dX3_placeOf_3 rfl (fun r_3 S2_3 h_3 => ?_)
  obtain ⟨v3, rfl, p_v3, q_v3⟩ := h_3
  obtain rfl := q_v3.symm
  refine v_if_eq (tgt := 18) C dX3_placeOf_6 (by decide) (fun c_6 => ?_) (fun c_6 => ?_)
  · skip
    refine v_iconst (v := -1) C dX3_placeOf_18 (by decide) ?_
    refine v_iret C hr (Nat.le_of_ble_eq_true rfl) (Nat.le_of_ble_eq_true rfl) dX3_placeOf_19 ?_
    exact ⟨_, rfl, rfl⟩
  · skip
    refine v_aload_n C dX3_placeOf_9 rfl ?_
    obtain ⟨r10, e_r10, i_r10, m_r10⟩ := T193 iv i_this List.not_mem_nil
    refine r3_15 (b := r10) C i_this e_r10 dX3_placeOf_10 ?_
    refine v_iload_n C dX3_placeOf_13 rfl ?_
    refine v_iald C i_r10 (bI_ne p_v3 c_6 rfl) dX3_placeOf_14 ?_
    refine v_topi (fun v14 e_v14 => ?_)
    refine v_goto (tgt := 19) C dX3_placeOf_15 (by decide) ?_
    refine v_iret C hr (Nat.le_of_ble_eq_true rfl) (Nat.le_of_ble_eq_true rfl) dX3_placeOf_19 ?_
    exact ⟨_, rfl, rfl⟩
theorem dX8_bodyFor_0 : decode cX8_bodyFor 0 = .ok (.iload_n 1, 1) := by decide +kernel
theorem dX8_bodyFor_1 : decode cX8_bodyFor 1 = .ok (.bipush 12, 2) := by decide +kernel
theorem dX8_bodyFor_3 : decode cX8_bodyFor 3 = .ok (.invokestatic 27, 3) := by decide +kernel
theorem dX8_bodyFor_6 : decode cX8_bodyFor 6 = .ok (.ifCond .eq 12, 3) := by decide +kernel
theorem dX8_bodyFor_9 : decode cX8_bodyFor 9 = .ok (.aload_n 0, 1) := by decide +kernel
theorem dX8_bodyFor_10 : decode cX8_bodyFor 10 = .ok (.getfield 20, 3) := by decide +kernel
theorem dX8_bodyFor_13 : decode cX8_bodyFor 13 = .ok (.iload_n 1, 1) := by decide +kernel
theorem dX8_bodyFor_14 : decode cX8_bodyFor 14 = .ok (.aaload, 1) := by decide +kernel
theorem dX8_bodyFor_15 : decode cX8_bodyFor 15 = .ok (.goto 4, 3) := by decide +kernel
theorem dX8_bodyFor_18 : decode cX8_bodyFor 18 = .ok (.aconst_null, 1) := by decide +kernel
theorem dX8_bodyFor_19 : decode cX8_bodyFor 19 = .ok (.areturn, 1) := by decide +kernel
set_option maxRecDepth 100000 in
set_option maxHeartbeats 4000000 in
theorem st_X8_bodyFor (l : Launch) (M : Nat → Prop) (h : Nat) (p0 : Int32) : Ct l yX8_bodyFor cX8_bodyFor 2 (some (.object "PuppetCast$Part")) 1 0 0 21 (fun S av => av = [.ref h, .int p0] ∧ INV M [] S ∧ is S h 8) (fun S _ r S' => ∃ v, r = some (va_rf v) ∧ nOK S' 5 v ∧ S' = S) := by
  refine ct_of (by decide) (fun S av h => by obtain ⟨rfl, iv, i_this⟩ := h; exact Nat.le_of_ble_eq_true rfl) ?_
  intro p e s m args below meth c D G bs S av C hr hin hpre
  obtain ⟨rfl, iv, i_this⟩ := hpre
  refine v_iload_n C dX8_bodyFor_0 rfl ?_
  refine v_bipush (v := 12) C dX8_bodyFor_1 (by decide) ?_
  refine v_callSN (As := [_, _]) (n := 2) C (sb_isBelow l _ _) rfl ⟨(by decide +kernel), wd141, wd2, wd142⟩ hy_X9_isBelow rfl ⟨Nat.le_of_ble_eq_true rfl, Nat.le_of_ble_eq_true rfl⟩ (Nat.le_of_ble_eq_true rfl) ⟨Nat.le_of_ble_eq_true rfl, Nat.le_of_ble_eq_true rfl⟩ dX8_bodyFor_3 rfl (fun r_3 S2_3 h_3 => ?_)
  obtain ⟨v3, rfl, p_v3, q_v3⟩ := h_3
  obtain rfl := q_v3.symm
  refine v_if_eq (tgt := 18) C dX8_bodyFor_6 (by decide) (fun c_6 => ?_) (fun c_6 => ?_)
  · skip
    refine v_null C dX8_bodyFor_18 ?_
    refine v_aret C hr (Nat.le_of_ble_eq_true rfl) (Nat.le_of_ble_eq_true rfl) dX8_bodyFor_19 ?_
    exact ⟨_, rfl, nOK_none, rfl⟩
  · skip
    refine v_aload_n C dX8_bodyFor_9 rfl ?_
    obtain ⟨r10, e_r10, i_r10, m_r10⟩ := T513 iv i_this List.not_mem_nil
    refine r8_20 (b := r10) C i_this e_r10 dX8_bodyFor_10 ?_
    refine v_iload_n C dX8_bodyFor_13 rfl ?_
    have n_o14 := inv_el (k := 5) iv i_r10 (by decide)
    refine v_aald (t0 := 5) C i_r10 (by decide) rfl (bI_ne p_v3 c_6 rfl) dX8_bodyFor_14 ?_
    refine v_topq (n_o14 _) (fun o14 n_o14 => ?_)
    refine v_goto (tgt := 19) C dX8_bodyFor_15 (by decide) ?_
    refine v_aret C hr (Nat.le_of_ble_eq_true rfl) (Nat.le_of_ble_eq_true rfl) dX8_bodyFor_19 ?_
    exact ⟨_, rfl, n_o14, rfl⟩
theorem dX8_guardFor_0 : decode cX8_guardFor 0 = .ok (.iload_n 1, 1) := by decide +kernel
theorem dX8_guardFor_1 : decode cX8_guardFor 1 = .ok (.bipush 12, 2) := by decide +kernel
theorem dX8_guardFor_3 : decode cX8_guardFor 3 = .ok (.invokestatic 27, 3) := by decide +kernel
theorem dX8_guardFor_6 : decode cX8_guardFor 6 = .ok (.ifCond .eq 12, 3) := by decide +kernel
theorem dX8_guardFor_9 : decode cX8_guardFor 9 = .ok (.aload_n 0, 1) := by decide +kernel
theorem dX8_guardFor_10 : decode cX8_guardFor 10 = .ok (.getfield 24, 3) := by decide +kernel
theorem dX8_guardFor_13 : decode cX8_guardFor 13 = .ok (.iload_n 1, 1) := by decide +kernel
theorem dX8_guardFor_14 : decode cX8_guardFor 14 = .ok (.aaload, 1) := by decide +kernel
theorem dX8_guardFor_15 : decode cX8_guardFor 15 = .ok (.goto 4, 3) := by decide +kernel
theorem dX8_guardFor_18 : decode cX8_guardFor 18 = .ok (.aconst_null, 1) := by decide +kernel
theorem dX8_guardFor_19 : decode cX8_guardFor 19 = .ok (.areturn, 1) := by decide +kernel
set_option maxRecDepth 100000 in
set_option maxHeartbeats 4000000 in
theorem st_X8_guardFor (l : Launch) (M : Nat → Prop) (h : Nat) (p0 : Int32) : Ct l yX8_guardFor cX8_guardFor 2 (some (.object "PuppetCast$Part")) 1 0 0 21 (fun S av => av = [.ref h, .int p0] ∧ INV M [] S ∧ is S h 8) (fun S _ r S' => ∃ v, r = some (va_rf v) ∧ nOK S' 5 v ∧ S' = S) := by
  refine ct_of (by decide) (fun S av h => by obtain ⟨rfl, iv, i_this⟩ := h; exact Nat.le_of_ble_eq_true rfl) ?_
  intro p e s m args below meth c D G bs S av C hr hin hpre
  obtain ⟨rfl, iv, i_this⟩ := hpre
  refine v_iload_n C dX8_guardFor_0 rfl ?_
  refine v_bipush (v := 12) C dX8_guardFor_1 (by decide) ?_
  refine v_callSN (As := [_, _]) (n := 2) C (sb_isBelow l _ _) rfl ⟨(by decide +kernel), wd141, wd2, wd142⟩ hy_X9_isBelow rfl ⟨Nat.le_of_ble_eq_true rfl, Nat.le_of_ble_eq_true rfl⟩ (Nat.le_of_ble_eq_true rfl) ⟨Nat.le_of_ble_eq_true rfl, Nat.le_of_ble_eq_true rfl⟩ dX8_guardFor_3 rfl (fun r_3 S2_3 h_3 => ?_)
  obtain ⟨v3, rfl, p_v3, q_v3⟩ := h_3
  obtain rfl := q_v3.symm
  refine v_if_eq (tgt := 18) C dX8_guardFor_6 (by decide) (fun c_6 => ?_) (fun c_6 => ?_)
  · skip
    refine v_null C dX8_guardFor_18 ?_
    refine v_aret C hr (Nat.le_of_ble_eq_true rfl) (Nat.le_of_ble_eq_true rfl) dX8_guardFor_19 ?_
    exact ⟨_, rfl, nOK_none, rfl⟩
  · skip
    refine v_aload_n C dX8_guardFor_9 rfl ?_
    obtain ⟨r10, e_r10, i_r10, m_r10⟩ := T514 iv i_this List.not_mem_nil
    refine r8_24 (b := r10) C i_this e_r10 dX8_guardFor_10 ?_
    refine v_iload_n C dX8_guardFor_13 rfl ?_
    have n_o14 := inv_el (k := 5) iv i_r10 (by decide)
    refine v_aald (t0 := 5) C i_r10 (by decide) rfl (bI_ne p_v3 c_6 rfl) dX8_guardFor_14 ?_
    refine v_topq (n_o14 _) (fun o14 n_o14 => ?_)
    refine v_goto (tgt := 19) C dX8_guardFor_15 (by decide) ?_
    refine v_aret C hr (Nat.le_of_ble_eq_true rfl) (Nat.le_of_ble_eq_true rfl) dX8_guardFor_19 ?_
    exact ⟨_, rfl, n_o14, rfl⟩
theorem dX2_ownBody_0 : decode cX2_ownBody 0 = .ok (.iload_n 1, 1) := by decide +kernel
theorem dX2_ownBody_1 : decode cX2_ownBody 1 = .ok (.bipush 12, 2) := by decide +kernel
theorem dX2_ownBody_3 : decode cX2_ownBody 3 = .ok (.invokestatic 61, 3) := by decide +kernel
theorem dX2_ownBody_6 : decode cX2_ownBody 6 = .ok (.ifCond .eq 12, 3) := by decide +kernel
theorem dX2_ownBody_9 : decode cX2_ownBody 9 = .ok (.aload_n 0, 1) := by decide +kernel
theorem dX2_ownBody_10 : decode cX2_ownBody 10 = .ok (.getfield 24, 3) := by decide +kernel
theorem dX2_ownBody_13 : decode cX2_ownBody 13 = .ok (.iload_n 1, 1) := by decide +kernel
theorem dX2_ownBody_14 : decode cX2_ownBody 14 = .ok (.aaload, 1) := by decide +kernel
theorem dX2_ownBody_15 : decode cX2_ownBody 15 = .ok (.goto 4, 3) := by decide +kernel
theorem dX2_ownBody_18 : decode cX2_ownBody 18 = .ok (.aconst_null, 1) := by decide +kernel
theorem dX2_ownBody_19 : decode cX2_ownBody 19 = .ok (.areturn, 1) := by decide +kernel
set_option maxRecDepth 100000 in
set_option maxHeartbeats 4000000 in
theorem st_X2_ownBody (l : Launch) (M : Nat → Prop) (h : Nat) (p0 : Int32) : Ct l yX2_ownBody cX2_ownBody 2 (some (.object "PuppetCast$Part")) 1 0 0 21 (fun S av => av = [.ref h, .int p0] ∧ INV M [] S ∧ is S h 2) (fun S _ r S' => ∃ v, r = some (va_rf v) ∧ nOK S' 5 v ∧ S' = S) := by
  refine ct_of (by decide) (fun S av h => by obtain ⟨rfl, iv, i_this⟩ := h; exact Nat.le_of_ble_eq_true rfl) ?_
  intro p e s m args below meth c D G bs S av C hr hin hpre
  obtain ⟨rfl, iv, i_this⟩ := hpre
  refine v_iload_n C dX2_ownBody_0 rfl ?_
  refine v_bipush (v := 12) C dX2_ownBody_1 (by decide) ?_
  refine v_callSN (As := [_, _]) (n := 2) C (sb_isBelow l _ _) rfl ⟨(by decide +kernel), wd141, wd2, wd142⟩ hy_X9_isBelow rfl ⟨Nat.le_of_ble_eq_true rfl, Nat.le_of_ble_eq_true rfl⟩ (Nat.le_of_ble_eq_true rfl) ⟨Nat.le_of_ble_eq_true rfl, Nat.le_of_ble_eq_true rfl⟩ dX2_ownBody_3 rfl (fun r_3 S2_3 h_3 => ?_)
  obtain ⟨v3, rfl, p_v3, q_v3⟩ := h_3
  obtain rfl := q_v3.symm
  refine v_if_eq (tgt := 18) C dX2_ownBody_6 (by decide) (fun c_6 => ?_) (fun c_6 => ?_)
  · skip
    refine v_null C dX2_ownBody_18 ?_
    refine v_aret C hr (Nat.le_of_ble_eq_true rfl) (Nat.le_of_ble_eq_true rfl) dX2_ownBody_19 ?_
    exact ⟨_, rfl, nOK_none, rfl⟩
  · skip
    refine v_aload_n C dX2_ownBody_9 rfl ?_
    obtain ⟨r10, e_r10, i_r10, m_r10⟩ := T133 iv i_this List.not_mem_nil
    refine r2_24 (b := r10) C i_this e_r10 dX2_ownBody_10 ?_
    refine v_iload_n C dX2_ownBody_13 rfl ?_
    have n_o14 := inv_el (k := 5) iv i_r10 (by decide)
    refine v_aald (t0 := 5) C i_r10 (by decide) rfl (bI_ne p_v3 c_6 rfl) dX2_ownBody_14 ?_
    refine v_topq (n_o14 _) (fun o14 n_o14 => ?_)
    refine v_goto (tgt := 19) C dX2_ownBody_15 (by decide) ?_
    refine v_aret C hr (Nat.le_of_ble_eq_true rfl) (Nat.le_of_ble_eq_true rfl) dX2_ownBody_19 ?_
    exact ⟨_, rfl, n_o14, rfl⟩
theorem dX2_preferredFor_0 : decode cX2_preferredFor 0 = .ok (.iload_n 1, 1) := by decide +kernel
theorem dX2_preferredFor_1 : decode cX2_preferredFor 1 = .ok (.bipush 12, 2) := by decide +kernel
theorem dX2_preferredFor_3 : decode cX2_preferredFor 3 = .ok (.invokestatic 61, 3) := by decide +kernel
theorem dX2_preferredFor_6 : decode cX2_preferredFor 6 = .ok (.ifCond .eq 12, 3) := by decide +kernel
theorem dX2_preferredFor_9 : decode cX2_preferredFor 9 = .ok (.aload_n 0, 1) := by decide +kernel
theorem dX2_preferredFor_10 : decode cX2_preferredFor 10 = .ok (.getfield 38, 3) := by decide +kernel
theorem dX2_preferredFor_13 : decode cX2_preferredFor 13 = .ok (.iload_n 1, 1) := by decide +kernel
theorem dX2_preferredFor_14 : decode cX2_preferredFor 14 = .ok (.iaload, 1) := by decide +kernel
theorem dX2_preferredFor_15 : decode cX2_preferredFor 15 = .ok (.goto 4, 3) := by decide +kernel
theorem dX2_preferredFor_18 : decode cX2_preferredFor 18 = .ok (.iconst (-1), 1) := by decide +kernel
theorem dX2_preferredFor_19 : decode cX2_preferredFor 19 = .ok (.ireturn, 1) := by decide +kernel
set_option maxRecDepth 100000 in
set_option maxHeartbeats 4000000 in
theorem st_X2_preferredFor (l : Launch) (M : Nat → Prop) (h : Nat) (p0 : Int32) : Ct l yX2_preferredFor cX2_preferredFor 2 (some .int) 1 0 0 21 (fun S av => av = [.ref h, .int p0] ∧ INV M [] S ∧ is S h 2) (fun S _ r S' => ∃ v, r = some (.int v) ∧ S' = S) := by
  refine ct_of (by decide) (fun S av h => by obtain ⟨rfl, iv, i_this⟩ := h; exact Nat.le_of_ble_eq_true rfl) ?_
  intro p e s m args below meth c D G bs S av C hr hin hpre
  obtain ⟨rfl, iv, i_this⟩ := hpre
  refine v_iload_n C dX2_preferredFor_0 rfl ?_
  refine v_bipush (v := 12) C dX2_preferredFor_1 (by decide) ?_
  refine v_callSN (As := [_, _]) (n := 2) C (sb_isBelow l _ _) rfl ⟨(by decide +kernel), wd141, wd2, wd142⟩ hy_X9_isBelow rfl ⟨Nat.le_of_ble_eq_true rfl, Nat.le_of_ble_eq_true rfl⟩ (Nat.le_of_ble_eq_true rfl) ⟨Nat.le_of_ble_eq_true rfl, Nat.le_of_ble_eq_true rfl⟩ dX2_preferredFor_3 rfl (fun r_3 S2_3 h_3 => ?_)
  obtain ⟨v3, rfl, p_v3, q_v3⟩ := h_3
  obtain rfl := q_v3.symm
  refine v_if_eq (tgt := 18) C dX2_preferredFor_6 (by decide) (fun c_6 => ?_) (fun c_6 => ?_)
  · skip
    refine v_iconst (v := -1) C dX2_preferredFor_18 (by decide) ?_
    refine v_iret C hr (Nat.le_of_ble_eq_true rfl) (Nat.le_of_ble_eq_true rfl) dX2_preferredFor_19 ?_
    exact ⟨_, rfl, rfl⟩
  · skip
    refine v_aload_n C dX2_preferredFor_9 rfl ?_
    obtain ⟨r10, e_r10, i_r10, m_r10⟩ := T139 iv i_this List.not_mem_nil
    refine r2_38 (b := r10) C i_this e_r10 dX2_preferredFor_10 ?_
    refine v_iload_n C dX2_preferredFor_13 rfl ?_
    refine v_iald C i_r10 (bI_ne p_v3 c_6 rfl) dX2_preferredFor_14 ?_
    refine v_topi (fun v14 e_v14 => ?_)
    refine v_goto (tgt := 19) C dX2_preferredFor_15 (by decide) ?_
    refine v_iret C hr (Nat.le_of_ble_eq_true rfl) (Nat.le_of_ble_eq_true rfl) dX2_preferredFor_19 ?_
    exact ⟨_, rfl, rfl⟩
theorem dX2_moodAt_0 : decode cX2_moodAt 0 = .ok (.iload_n 1, 1) := by decide +kernel
theorem dX2_moodAt_1 : decode cX2_moodAt 1 = .ok (.iconst 4, 1) := by decide +kernel
theorem dX2_moodAt_2 : decode cX2_moodAt 2 = .ok (.invokestatic 61, 3) := by decide +kernel
theorem dX2_moodAt_5 : decode cX2_moodAt 5 = .ok (.ifCond .eq 12, 3) := by decide +kernel
theorem dX2_moodAt_8 : decode cX2_moodAt 8 = .ok (.aload_n 0, 1) := by decide +kernel
theorem dX2_moodAt_9 : decode cX2_moodAt 9 = .ok (.getfield 41, 3) := by decide +kernel
theorem dX2_moodAt_12 : decode cX2_moodAt 12 = .ok (.iload_n 1, 1) := by decide +kernel
theorem dX2_moodAt_13 : decode cX2_moodAt 13 = .ok (.laload, 1) := by decide +kernel
theorem dX2_moodAt_14 : decode cX2_moodAt 14 = .ok (.goto 4, 3) := by decide +kernel
theorem dX2_moodAt_17 : decode cX2_moodAt 17 = .ok (.lconst 0, 1) := by decide +kernel
theorem dX2_moodAt_18 : decode cX2_moodAt 18 = .ok (.lreturn, 1) := by decide +kernel
set_option maxRecDepth 100000 in
set_option maxHeartbeats 4000000 in
theorem st_X2_moodAt (l : Launch) (M : Nat → Prop) (h : Nat) (p0 : Int32) : Ct l yX2_moodAt cX2_moodAt 2 (some .long) 1 0 0 21 (fun S av => av = [.ref h, .int p0] ∧ INV M [] S ∧ is S h 2) (fun S _ r S' => ∃ v, r = some (.long v) ∧ S' = S) := by
  refine ct_of (by decide) (fun S av h => by obtain ⟨rfl, iv, i_this⟩ := h; exact Nat.le_of_ble_eq_true rfl) ?_
  intro p e s m args below meth c D G bs S av C hr hin hpre
  obtain ⟨rfl, iv, i_this⟩ := hpre
  refine v_iload_n C dX2_moodAt_0 rfl ?_
  refine v_iconst (v := 4) C dX2_moodAt_1 (by decide) ?_
  refine v_callSN (As := [_, _]) (n := 2) C (sb_isBelow l _ _) rfl ⟨(by decide +kernel), wd141, wd2, wd142⟩ hy_X9_isBelow rfl ⟨Nat.le_of_ble_eq_true rfl, Nat.le_of_ble_eq_true rfl⟩ (Nat.le_of_ble_eq_true rfl) ⟨Nat.le_of_ble_eq_true rfl, Nat.le_of_ble_eq_true rfl⟩ dX2_moodAt_2 rfl (fun r_2 S2_2 h_2 => ?_)
  obtain ⟨v2, rfl, p_v2, q_v2⟩ := h_2
  obtain rfl := q_v2.symm
  refine v_if_eq (tgt := 17) C dX2_moodAt_5 (by decide) (fun c_5 => ?_) (fun c_5 => ?_)
  · skip
    refine v_lconst (v := 0) C dX2_moodAt_17 (by decide) ?_
    refine v_lret C hr (Nat.le_of_ble_eq_true rfl) (Nat.le_of_ble_eq_true rfl) dX2_moodAt_18 ?_
    exact ⟨_, rfl, rfl⟩
  · skip
    refine v_aload_n C dX2_moodAt_8 rfl ?_
    obtain ⟨r9, e_r9, i_r9, m_r9⟩ := T140 iv i_this List.not_mem_nil
    refine r2_41 (b := r9) C i_this e_r9 dX2_moodAt_9 ?_
    refine v_iload_n C dX2_moodAt_12 rfl ?_
    refine v_lald C i_r9 (bI_ne p_v2 c_5 rfl) dX2_moodAt_13 ?_
    refine v_goto (tgt := 18) C dX2_moodAt_14 (by decide) ?_
    refine v_lret C hr (Nat.le_of_ble_eq_true rfl) (Nat.le_of_ble_eq_true rfl) dX2_moodAt_18 ?_
    exact ⟨_, rfl, rfl⟩
set_option maxRecDepth 100000 in
set_option maxHeartbeats 4000000 in
theorem st_X1_traitAt (l : Launch) (M : Nat → Prop) (h : Nat) (p0 : Int32) : Ct l yX1_traitAt cX1_traitAt 2 (some (.object "PuppetCast$Trait")) 1 0 0 21 (fun S av => av = [.ref h, .int p0] ∧ INV M [] S ∧ is S h 1) (fun S _ r S' => ∃ v, r = some (va_rf v) ∧ nOK S' 8 v ∧ S' = S) := by
  refine ct_of (by decide) (fun S av h => by obtain ⟨rfl, iv, i_this⟩ := h; exact Nat.le_of_ble_eq_true rfl) ?_
  intro p e s m args below meth c D G bs S av C hr hin hpre
  obtain ⟨rfl, iv, i_this⟩ := hpre
  refine v_iload_n C dX1_traitAt_0 rfl ?_
  refine v_bipush (v := 20) C dX1_traitAt_1 (by decide) ?_
  refine v_callSN (As := [_, _]) (n := 2) C (sb_isBelow l _ _) rfl ⟨(by decide +kernel), wd141, wd2, wd142⟩ hy_X9_isBelow rfl ⟨Nat.le_of_ble_eq_true rfl, Nat.le_of_ble_eq_true rfl⟩ (Nat.le_of_ble_eq_true rfl) ⟨Nat.le_of_ble_eq_true rfl, Nat.le_of_ble_eq_true rfl⟩ dX1_traitAt_3 rfl (fun r_3 S2_3 h_3 => ?_)
  obtain ⟨v3, rfl, p_v3, q_v3⟩ := h_3
  obtain rfl := q_v3.symm
  refine v_if_eq (tgt := 18) C dX1_traitAt_6 (by decide) (fun c_6 => ?_) (fun c_6 => ?_)
  · skip
    refine v_null C dX1_traitAt_18 ?_
    refine v_aret C hr (Nat.le_of_ble_eq_true rfl) (Nat.le_of_ble_eq_true rfl) dX1_traitAt_19 ?_
    exact ⟨_, rfl, nOK_none, rfl⟩
  · skip
    refine v_aload_n C dX1_traitAt_9 rfl ?_
    obtain ⟨r10, e_r10, i_r10, m_r10⟩ := T64 iv i_this List.not_mem_nil
    refine r1_11 (b := r10) C i_this e_r10 dX1_traitAt_10 ?_
    refine v_iload_n C dX1_traitAt_13 rfl ?_
    have n_o14 := inv_el (k := 8) iv i_r10 (by decide)
    refine v_aald (t0 := 6) C i_r10 (by decide) rfl (bI_ne p_v3 c_6 rfl) dX1_traitAt_14 ?_
    refine v_topq (n_o14 _) (fun o14 n_o14 => ?_)
    refine v_goto (tgt := 19) C dX1_traitAt_15 (by decide) ?_
    refine v_aret C hr (Nat.le_of_ble_eq_true rfl) (Nat.le_of_ble_eq_true rfl) dX1_traitAt_19 ?_
    exact ⟨_, rfl, n_o14, rfl⟩
set_option maxRecDepth 100000 in
set_option maxHeartbeats 4000000 in
theorem st_X1_figureAt (l : Launch) (M : Nat → Prop) (h : Nat) (p0 : Int32) : Ct l yX1_figureAt cX1_figureAt 2 (some (.object "PuppetCast$Figure")) 1 0 0 21 (fun S av => av = [.ref h, .int p0] ∧ INV M [] S ∧ is S h 1) (fun S _ r S' => ∃ v, r = some (va_rf v) ∧ nOK S' 2 v ∧ S' = S) := by
  refine ct_of (by decide) (fun S av h => by obtain ⟨rfl, iv, i_this⟩ := h; exact Nat.le_of_ble_eq_true rfl) ?_
  intro p e s m args below meth c D G bs S av C hr hin hpre
  obtain ⟨rfl, iv, i_this⟩ := hpre
  refine v_iload_n C dX1_figureAt_0 rfl ?_
  refine v_bipush (v := 12) C dX1_figureAt_1 (by decide) ?_
  refine v_callSN (As := [_, _]) (n := 2) C (sb_isBelow l _ _) rfl ⟨(by decide +kernel), wd141, wd2, wd142⟩ hy_X9_isBelow rfl ⟨Nat.le_of_ble_eq_true rfl, Nat.le_of_ble_eq_true rfl⟩ (Nat.le_of_ble_eq_true rfl) ⟨Nat.le_of_ble_eq_true rfl, Nat.le_of_ble_eq_true rfl⟩ dX1_figureAt_3 rfl (fun r_3 S2_3 h_3 => ?_)
  obtain ⟨v3, rfl, p_v3, q_v3⟩ := h_3
  obtain rfl := q_v3.symm
  refine v_if_eq (tgt := 18) C dX1_figureAt_6 (by decide) (fun c_6 => ?_) (fun c_6 => ?_)
  · skip
    refine v_null C dX1_figureAt_18 ?_
    refine v_aret C hr (Nat.le_of_ble_eq_true rfl) (Nat.le_of_ble_eq_true rfl) dX1_figureAt_19 ?_
    exact ⟨_, rfl, nOK_none, rfl⟩
  · skip
    refine v_aload_n C dX1_figureAt_9 rfl ?_
    obtain ⟨r10, e_r10, i_r10, m_r10⟩ := T66 iv i_this List.not_mem_nil
    refine r1_19 (b := r10) C i_this e_r10 dX1_figureAt_10 ?_
    refine v_iload_n C dX1_figureAt_13 rfl ?_
    have n_o14 := inv_el (k := 2) iv i_r10 (by decide)
    refine v_aald (t0 := 3) C i_r10 (by decide) rfl (bI_ne p_v3 c_6 rfl) dX1_figureAt_14 ?_
    refine v_topq (n_o14 _) (fun o14 n_o14 => ?_)
    refine v_goto (tgt := 19) C dX1_figureAt_15 (by decide) ?_
    refine v_aret C hr (Nat.le_of_ble_eq_true rfl) (Nat.le_of_ble_eq_true rfl) dX1_figureAt_19 ?_
    exact ⟨_, rfl, n_o14, rfl⟩
theorem dX8_setBody_0 : decode cX8_setBody 0 = .ok (.iload_n 1, 1) := by decide +kernel
theorem dX8_setBody_1 : decode cX8_setBody 1 = .ok (.bipush 12, 2) := by decide +kernel
theorem dX8_setBody_3 : decode cX8_setBody 3 = .ok (.invokestatic 27, 3) := by decide +kernel
theorem dX8_setBody_6 : decode cX8_setBody 6 = .ok (.ifCond .eq 10, 3) := by decide +kernel
theorem dX8_setBody_9 : decode cX8_setBody 9 = .ok (.aload_n 0, 1) := by decide +kernel
theorem dX8_setBody_10 : decode cX8_setBody 10 = .ok (.getfield 20, 3) := by decide +kernel
theorem dX8_setBody_13 : decode cX8_setBody 13 = .ok (.iload_n 1, 1) := by decide +kernel
theorem dX8_setBody_14 : decode cX8_setBody 14 = .ok (.aload_n 2, 1) := by decide +kernel
theorem dX8_setBody_15 : decode cX8_setBody 15 = .ok (.aastore, 1) := by decide +kernel
theorem dX8_setBody_16 : decode cX8_setBody 16 = .ok (.return_, 1) := by decide +kernel
set_option maxRecDepth 100000 in
set_option maxHeartbeats 4000000 in
theorem st_X8_setBody (l : Launch) (M : Nat → Prop) (h : Nat) (p0 : Int32) (p1 : Nat) : Ct l yX8_setBody cX8_setBody 3 none 1 0 0 21 (fun S av => av = [.ref h, .int p0, .ref p1] ∧ INV M [] S ∧ is S h 8 ∧ is S p1 5) (fun S _ r S' => r = none ∧ INV M [] S' ∧ ext S S' (fun a => ¬ M a ∧ mK S a ∈ [16])) := by
  refine ct_of (by decide) (fun S av h => by obtain ⟨rfl, iv, i_this, i_p1⟩ := h; exact Nat.le_of_ble_eq_true rfl) ?_
  intro p e s m args below meth c D G bs S av C hr hin hpre
  obtain ⟨rfl, iv, i_this, i_p1⟩ := hpre
  have E0 : ext S S (fun a => ¬ M a ∧ mK S a ∈ [16]) := ext_rfl
  refine v_iload_n C dX8_setBody_0 rfl ?_
  refine v_bipush (v := 12) C dX8_setBody_1 (by decide) ?_
  refine v_callSN (As := [_, _]) (n := 2) C (sb_isBelow l _ _) rfl ⟨(by decide +kernel), wd141, wd2, wd142⟩ hy_X9_isBelow rfl ⟨Nat.le_of_ble_eq_true rfl, Nat.le_of_ble_eq_true rfl⟩ (Nat.le_of_ble_eq_true rfl) ⟨Nat.le_of_ble_eq_true rfl, Nat.le_of_ble_eq_true rfl⟩ dX8_setBody_3 rfl (fun r_3 S2_3 h_3 => ?_)
  obtain ⟨v3, rfl, p_v3, q_v3⟩ := h_3
  obtain rfl := q_v3.symm
  refine v_if_eq (tgt := 16) C dX8_setBody_6 (by decide) (fun c_6 => ?_) (fun c_6 => ?_)
  · skip
    refine v_vret C hr (Nat.le_of_ble_eq_true rfl) (Nat.le_of_ble_eq_true rfl) dX8_setBody_16 ?_
    exact ⟨rfl, iv, E0⟩
  · skip
    refine v_aload_n C dX8_setBody_9 rfl ?_
    obtain ⟨r10, e_r10, i_r10, m_r10⟩ := T513 iv i_this List.not_mem_nil
    refine r8_20 (b := r10) C i_this e_r10 dX8_setBody_10 ?_
    refine v_iload_n C dX8_setBody_13 rfl ?_
    refine v_aload_n C dX8_setBody_14 rfl ?_
    refine v_aast (t0 := 5) C i_r10 (by decide) i_p1 (by decide) rfl rfl (bI_ne p_v3 c_6 rfl) dX8_setBody_15 ?_
    refine V.gen (fun S4_15 e_15 => ?_)
    have iv' := inv_sP e_15 iv i_r10.2.1 (by decide) (nOK_is i_p1)
    have x_15 := x_sP e_15
    have E0' := ext_tr E0 x_15 (xk_P E0 i_r10 iv (by decide) (by decide))
    have E0 := E0'
    have i_this := is_ext x_15 i_this
    have i_p1 := is_ext x_15 i_p1
    have i_r10 := isA_ext x_15 i_r10
    have iv := iv'
    refine v_vret C hr (Nat.le_of_ble_eq_true rfl) (Nat.le_of_ble_eq_true rfl) dX8_setBody_16 ?_
    exact ⟨rfl, iv, E0⟩
theorem dX8_setGuard_0 : decode cX8_setGuard 0 = .ok (.iload_n 1, 1) := by decide +kernel
theorem dX8_setGuard_1 : decode cX8_setGuard 1 = .ok (.bipush 12, 2) := by decide +kernel
theorem dX8_setGuard_3 : decode cX8_setGuard 3 = .ok (.invokestatic 27, 3) := by decide +kernel
theorem dX8_setGuard_6 : decode cX8_setGuard 6 = .ok (.ifCond .eq 10, 3) := by decide +kernel
theorem dX8_setGuard_9 : decode cX8_setGuard 9 = .ok (.aload_n 0, 1) := by decide +kernel
theorem dX8_setGuard_10 : decode cX8_setGuard 10 = .ok (.getfield 24, 3) := by decide +kernel
theorem dX8_setGuard_13 : decode cX8_setGuard 13 = .ok (.iload_n 1, 1) := by decide +kernel
theorem dX8_setGuard_14 : decode cX8_setGuard 14 = .ok (.aload_n 2, 1) := by decide +kernel
theorem dX8_setGuard_15 : decode cX8_setGuard 15 = .ok (.aastore, 1) := by decide +kernel
theorem dX8_setGuard_16 : decode cX8_setGuard 16 = .ok (.return_, 1) := by decide +kernel
set_option maxRecDepth 100000 in
set_option maxHeartbeats 4000000 in
theorem st_X8_setGuard (l : Launch) (M : Nat → Prop) (h : Nat) (p0 : Int32) (p1 : Nat) : Ct l yX8_setGuard cX8_setGuard 3 none 1 0 0 21 (fun S av => av = [.ref h, .int p0, .ref p1] ∧ INV M [] S ∧ is S h 8 ∧ is S p1 5) (fun S _ r S' => r = none ∧ INV M [] S' ∧ ext S S' (fun a => ¬ M a ∧ mK S a ∈ [16])) := by
  refine ct_of (by decide) (fun S av h => by obtain ⟨rfl, iv, i_this, i_p1⟩ := h; exact Nat.le_of_ble_eq_true rfl) ?_
  intro p e s m args below meth c D G bs S av C hr hin hpre
  obtain ⟨rfl, iv, i_this, i_p1⟩ := hpre
  have E0 : ext S S (fun a => ¬ M a ∧ mK S a ∈ [16]) := ext_rfl
  refine v_iload_n C dX8_setGuard_0 rfl ?_
  refine v_bipush (v := 12) C dX8_setGuard_1 (by decide) ?_
  refine v_callSN (As := [_, _]) (n := 2) C (sb_isBelow l _ _) rfl ⟨(by decide +kernel), wd141, wd2, wd142⟩ hy_X9_isBelow rfl ⟨Nat.le_of_ble_eq_true rfl, Nat.le_of_ble_eq_true rfl⟩ (Nat.le_of_ble_eq_true rfl) ⟨Nat.le_of_ble_eq_true rfl, Nat.le_of_ble_eq_true rfl⟩ dX8_setGuard_3 rfl (fun r_3 S2_3 h_3 => ?_)
  obtain ⟨v3, rfl, p_v3, q_v3⟩ := h_3
  obtain rfl := q_v3.symm
  refine v_if_eq (tgt := 16) C dX8_setGuard_6 (by decide) (fun c_6 => ?_) (fun c_6 => ?_)
  · skip
    refine v_vret C hr (Nat.le_of_ble_eq_true rfl) (Nat.le_of_ble_eq_true rfl) dX8_setGuard_16 ?_
    exact ⟨rfl, iv, E0⟩
  · skip
    refine v_aload_n C dX8_setGuard_9 rfl ?_
    obtain ⟨r10, e_r10, i_r10, m_r10⟩ := T514 iv i_this List.not_mem_nil
    refine r8_24 (b := r10) C i_this e_r10 dX8_setGuard_10 ?_
    refine v_iload_n C dX8_setGuard_13 rfl ?_
    refine v_aload_n C dX8_setGuard_14 rfl ?_
    refine v_aast (t0 := 5) C i_r10 (by decide) i_p1 (by decide) rfl rfl (bI_ne p_v3 c_6 rfl) dX8_setGuard_15 ?_
    refine V.gen (fun S4_15 e_15 => ?_)
    have iv' := inv_sP e_15 iv i_r10.2.1 (by decide) (nOK_is i_p1)
    have x_15 := x_sP e_15
    have E0' := ext_tr E0 x_15 (xk_P E0 i_r10 iv (by decide) (by decide))
    have E0 := E0'
    have i_this := is_ext x_15 i_this
    have i_p1 := is_ext x_15 i_p1
    have i_r10 := isA_ext x_15 i_r10
    have iv := iv'
    refine v_vret C hr (Nat.le_of_ble_eq_true rfl) (Nat.le_of_ble_eq_true rfl) dX8_setGuard_16 ?_
    exact ⟨rfl, iv, E0⟩
theorem dX2_setOwnBody_0 : decode cX2_setOwnBody 0 = .ok (.iload_n 1, 1) := by decide +kernel
theorem dX2_setOwnBody_1 : decode cX2_setOwnBody 1 = .ok (.bipush 12, 2) := by decide +kernel
theorem dX2_setOwnBody_3 : decode cX2_setOwnBody 3 = .ok (.invokestatic 61, 3) := by decide +kernel
theorem dX2_setOwnBody_6 : decode cX2_setOwnBody 6 = .ok (.ifCond .eq 10, 3) := by decide +kernel
theorem dX2_setOwnBody_9 : decode cX2_setOwnBody 9 = .ok (.aload_n 0, 1) := by decide +kernel
theorem dX2_setOwnBody_10 : decode cX2_setOwnBody 10 = .ok (.getfield 24, 3) := by decide +kernel
theorem dX2_setOwnBody_13 : decode cX2_setOwnBody 13 = .ok (.iload_n 1, 1) := by decide +kernel
theorem dX2_setOwnBody_14 : decode cX2_setOwnBody 14 = .ok (.aload_n 2, 1) := by decide +kernel
theorem dX2_setOwnBody_15 : decode cX2_setOwnBody 15 = .ok (.aastore, 1) := by decide +kernel
theorem dX2_setOwnBody_16 : decode cX2_setOwnBody 16 = .ok (.return_, 1) := by decide +kernel
set_option maxRecDepth 100000 in
set_option maxHeartbeats 4000000 in
theorem st_X2_setOwnBody (l : Launch) (M : Nat → Prop) (h : Nat) (p0 : Int32) (p1 : Nat) : Ct l yX2_setOwnBody cX2_setOwnBody 3 none 1 0 0 21 (fun S av => av = [.ref h, .int p0, .ref p1] ∧ INV M [] S ∧ is S h 2 ∧ is S p1 5) (fun S _ r S' => r = none ∧ INV M [] S' ∧ ext S S' (fun a => ¬ M a ∧ mK S a ∈ [16])) := by
  refine ct_of (by decide) (fun S av h => by obtain ⟨rfl, iv, i_this, i_p1⟩ := h; exact Nat.le_of_ble_eq_true rfl) ?_
  intro p e s m args below meth c D G bs S av C hr hin hpre
  obtain ⟨rfl, iv, i_this, i_p1⟩ := hpre
  have E0 : ext S S (fun a => ¬ M a ∧ mK S a ∈ [16]) := ext_rfl
  refine v_iload_n C dX2_setOwnBody_0 rfl ?_
  refine v_bipush (v := 12) C dX2_setOwnBody_1 (by decide) ?_
  refine v_callSN (As := [_, _]) (n := 2) C (sb_isBelow l _ _) rfl ⟨(by decide +kernel), wd141, wd2, wd142⟩ hy_X9_isBelow rfl ⟨Nat.le_of_ble_eq_true rfl, Nat.le_of_ble_eq_true rfl⟩ (Nat.le_of_ble_eq_true rfl) ⟨Nat.le_of_ble_eq_true rfl, Nat.le_of_ble_eq_true rfl⟩ dX2_setOwnBody_3 rfl (fun r_3 S2_3 h_3 => ?_)
  obtain ⟨v3, rfl, p_v3, q_v3⟩ := h_3
  obtain rfl := q_v3.symm
  refine v_if_eq (tgt := 16) C dX2_setOwnBody_6 (by decide) (fun c_6 => ?_) (fun c_6 => ?_)
  · skip
    refine v_vret C hr (Nat.le_of_ble_eq_true rfl) (Nat.le_of_ble_eq_true rfl) dX2_setOwnBody_16 ?_
    exact ⟨rfl, iv, E0⟩
  · skip
    refine v_aload_n C dX2_setOwnBody_9 rfl ?_
    obtain ⟨r10, e_r10, i_r10, m_r10⟩ := T133 iv i_this List.not_mem_nil
    refine r2_24 (b := r10) C i_this e_r10 dX2_setOwnBody_10 ?_
    refine v_iload_n C dX2_setOwnBody_13 rfl ?_
    refine v_aload_n C dX2_setOwnBody_14 rfl ?_
    refine v_aast (t0 := 5) C i_r10 (by decide) i_p1 (by decide) rfl rfl (bI_ne p_v3 c_6 rfl) dX2_setOwnBody_15 ?_
    refine V.gen (fun S4_15 e_15 => ?_)
    have iv' := inv_sP e_15 iv i_r10.2.1 (by decide) (nOK_is i_p1)
    have x_15 := x_sP e_15
    have E0' := ext_tr E0 x_15 (xk_P E0 i_r10 iv (by decide) (by decide))
    have E0 := E0'
    have i_this := is_ext x_15 i_this
    have i_p1 := is_ext x_15 i_p1
    have i_r10 := isA_ext x_15 i_r10
    have iv := iv'
    refine v_vret C hr (Nat.le_of_ble_eq_true rfl) (Nat.le_of_ble_eq_true rfl) dX2_setOwnBody_16 ?_
    exact ⟨rfl, iv, E0⟩
theorem dX2_putMood_0 : decode cX2_putMood 0 = .ok (.iload_n 1, 1) := by decide +kernel
theorem dX2_putMood_1 : decode cX2_putMood 1 = .ok (.iconst 4, 1) := by decide +kernel
theorem dX2_putMood_2 : decode cX2_putMood 2 = .ok (.invokestatic 61, 3) := by decide +kernel
theorem dX2_putMood_5 : decode cX2_putMood 5 = .ok (.ifCond .eq 10, 3) := by decide +kernel
theorem dX2_putMood_8 : decode cX2_putMood 8 = .ok (.aload_n 0, 1) := by decide +kernel
theorem dX2_putMood_9 : decode cX2_putMood 9 = .ok (.getfield 41, 3) := by decide +kernel
theorem dX2_putMood_12 : decode cX2_putMood 12 = .ok (.iload_n 1, 1) := by decide +kernel
theorem dX2_putMood_13 : decode cX2_putMood 13 = .ok (.lload_n 2, 1) := by decide +kernel
theorem dX2_putMood_14 : decode cX2_putMood 14 = .ok (.lastore, 1) := by decide +kernel
theorem dX2_putMood_15 : decode cX2_putMood 15 = .ok (.return_, 1) := by decide +kernel
set_option maxRecDepth 100000 in
set_option maxHeartbeats 4000000 in
theorem st_X2_putMood (l : Launch) (M : Nat → Prop) (h : Nat) (p0 : Int32) (p1 : Int64) : Ct l yX2_putMood cX2_putMood 4 none 1 0 0 21 (fun S av => av = [.ref h, .int p0, .long p1] ∧ INV M [] S ∧ is S h 2) (fun S _ r S' => r = none ∧ INV M [] S' ∧ ext S S' (fun a => ¬ M a ∧ mK S a ∈ [12])) := by
  refine ct_of (by decide) (fun S av h => by obtain ⟨rfl, iv, i_this⟩ := h; exact Nat.le_of_ble_eq_true rfl) ?_
  intro p e s m args below meth c D G bs S av C hr hin hpre
  obtain ⟨rfl, iv, i_this⟩ := hpre
  have E0 : ext S S (fun a => ¬ M a ∧ mK S a ∈ [12]) := ext_rfl
  refine v_iload_n C dX2_putMood_0 rfl ?_
  refine v_iconst (v := 4) C dX2_putMood_1 (by decide) ?_
  refine v_callSN (As := [_, _]) (n := 2) C (sb_isBelow l _ _) rfl ⟨(by decide +kernel), wd141, wd2, wd142⟩ hy_X9_isBelow rfl ⟨Nat.le_of_ble_eq_true rfl, Nat.le_of_ble_eq_true rfl⟩ (Nat.le_of_ble_eq_true rfl) ⟨Nat.le_of_ble_eq_true rfl, Nat.le_of_ble_eq_true rfl⟩ dX2_putMood_2 rfl (fun r_2 S2_2 h_2 => ?_)
  obtain ⟨v2, rfl, p_v2, q_v2⟩ := h_2
  obtain rfl := q_v2.symm
  refine v_if_eq (tgt := 15) C dX2_putMood_5 (by decide) (fun c_5 => ?_) (fun c_5 => ?_)
  · skip
    refine v_vret C hr (Nat.le_of_ble_eq_true rfl) (Nat.le_of_ble_eq_true rfl) dX2_putMood_15 ?_
    exact ⟨rfl, iv, E0⟩
  · skip
    refine v_aload_n C dX2_putMood_8 rfl ?_
    obtain ⟨r9, e_r9, i_r9, m_r9⟩ := T140 iv i_this List.not_mem_nil
    refine r2_41 (b := r9) C i_this e_r9 dX2_putMood_9 ?_
    refine v_iload_n C dX2_putMood_12 rfl ?_
    refine v_lload_n C dX2_putMood_13 rfl ?_
    refine v_last C i_r9 (bI_ne p_v2 c_5 rfl) dX2_putMood_14 ?_
    refine V.gen (fun S4_14 e_14 => ?_)
    have iv' := inv_sQ e_14 iv
    have x_14 := x_sQ e_14
    have E0' := ext_tr E0 x_14 (xk_A E0 i_r9 m_r9 (by decide))
    have E0 := E0'
    have i_this := is_ext x_14 i_this
    have i_r9 := isA_ext x_14 i_r9
    have iv := iv'
    refine v_vret C hr (Nat.le_of_ble_eq_true rfl) (Nat.le_of_ble_eq_true rfl) dX2_putMood_15 ?_
    exact ⟨rfl, iv, E0⟩
theorem dX5_isGuard_0 : decode cX5_isGuard 0 = .ok (.aload_n 0, 1) := by decide +kernel
theorem dX5_isGuard_1 : decode cX5_isGuard 1 = .ok (.getfield 25, 3) := by decide +kernel
theorem dX5_isGuard_4 : decode cX5_isGuard 4 = .ok (.iconst (-1), 1) := by decide +kernel
theorem dX5_isGuard_5 : decode cX5_isGuard 5 = .ok (.if_icmp .eq 7, 3) := by decide +kernel
theorem dX5_isGuard_8 : decode cX5_isGuard 8 = .ok (.iconst 1, 1) := by decide +kernel
theorem dX5_isGuard_9 : decode cX5_isGuard 9 = .ok (.goto 4, 3) := by decide +kernel
theorem dX5_isGuard_12 : decode cX5_isGuard 12 = .ok (.iconst 0, 1) := by decide +kernel
theorem dX5_isGuard_13 : decode cX5_isGuard 13 = .ok (.ireturn, 1) := by decide +kernel
set_option maxRecDepth 100000 in
set_option maxHeartbeats 4000000 in
theorem st_X5_isGuard (l : Launch) (M : Nat → Prop) (h : Nat) : Ct l yX5_isGuard cX5_isGuard 1 (some .boolean) 0 0 0 0 (fun S av => av = [.ref h] ∧ INV M [] S ∧ is S h 5) (fun S _ r S' => ∃ v, r = some (.int (bI v)) ∧ S' = S) := by
  refine ct_of (by decide) (fun S av h => by obtain ⟨rfl, iv, i_this⟩ := h; exact Nat.le_of_ble_eq_true rfl) ?_
  intro p e s m args below meth c D G bs S av C hr hin hpre
  obtain ⟨rfl, iv, i_this⟩ := hpre
  refine v_aload_n C dX5_isGuard_0 rfl ?_
  refine g5_25 C i_this dX5_isGuard_1 ?_
  refine v_topi (fun v1 e_v1 => ?_)
  refine v_iconst (v := -1) C dX5_isGuard_4 (by decide) ?_
  refine v_icmp_eq (tgt := 12) C dX5_isGuard_5 (by decide) (fun c_5 => ?_) (fun c_5 => ?_)
  · skip
    refine v_iconst (v := 0) C dX5_isGuard_12 (by decide) ?_
    refine v_zret C hr (by first | rfl | exact bI_nar _) (Nat.le_of_ble_eq_true rfl) (Nat.le_of_ble_eq_true rfl) dX5_isGuard_13 ?_
    first
      | exact ⟨true, rfl, rfl⟩
      | exact ⟨false, rfl, rfl⟩
      | exact ⟨_, rfl, rfl⟩
  · skip
    refine v_iconst (v := 1) C dX5_isGuard_8 (by decide) ?_
    refine v_goto (tgt := 13) C dX5_isGuard_9 (by decide) ?_
    refine v_zret C hr (by first | rfl | exact bI_nar _) (Nat.le_of_ble_eq_true rfl) (Nat.le_of_ble_eq_true rfl) dX5_isGuard_13 ?_
    first
      | exact ⟨true, rfl, rfl⟩
      | exact ⟨false, rfl, rfl⟩
      | exact ⟨_, rfl, rfl⟩
theorem dX5_opens_0 : decode cX5_opens 0 = .ok (.iload_n 1, 1) := by decide +kernel
theorem dX5_opens_1 : decode cX5_opens 1 = .ok (.tableswitch 63 5 12 #[47, 47, 47, 47, 63, 47, 63, 49], 47) := by decide +kernel
theorem dX5_opens_48 : decode cX5_opens 48 = .ok (.iconst 1, 1) := by decide +kernel
theorem dX5_opens_49 : decode cX5_opens 49 = .ok (.ireturn, 1) := by decide +kernel
theorem dX5_opens_50 : decode cX5_opens 50 = .ok (.aload_n 0, 1) := by decide +kernel
theorem dX5_opens_51 : decode cX5_opens 51 = .ok (.getfield 25, 3) := by decide +kernel
theorem dX5_opens_54 : decode cX5_opens 54 = .ok (.iconst 1, 1) := by decide +kernel
theorem dX5_opens_55 : decode cX5_opens 55 = .ok (.if_icmp .ne 7, 3) := by decide +kernel
theorem dX5_opens_58 : decode cX5_opens 58 = .ok (.iconst 1, 1) := by decide +kernel
theorem dX5_opens_59 : decode cX5_opens 59 = .ok (.goto 4, 3) := by decide +kernel
theorem dX5_opens_62 : decode cX5_opens 62 = .ok (.iconst 0, 1) := by decide +kernel
theorem dX5_opens_63 : decode cX5_opens 63 = .ok (.ireturn, 1) := by decide +kernel
theorem dX5_opens_64 : decode cX5_opens 64 = .ok (.iconst 0, 1) := by decide +kernel
theorem dX5_opens_65 : decode cX5_opens 65 = .ok (.ireturn, 1) := by decide +kernel
set_option maxRecDepth 100000 in
set_option maxHeartbeats 4000000 in
theorem st_X5_opens (l : Launch) (M : Nat → Prop) (h : Nat) (p0 : Int32) : Ct l yX5_opens cX5_opens 2 (some .boolean) 0 0 0 0 (fun S av => av = [.ref h, .int p0] ∧ INV M [] S ∧ is S h 5) (fun S _ r S' => ∃ v, r = some (.int (bI v)) ∧ S' = S) := by
  refine ct_of (by decide) (fun S av h => by obtain ⟨rfl, iv, i_this⟩ := h; exact Nat.le_of_ble_eq_true rfl) ?_
  intro p e s m args below meth c D G bs S av C hr hin hpre
  obtain ⟨rfl, iv, i_this⟩ := hpre
  refine v_iload_n C dX5_opens_0 rfl ?_
  refine v_topi (fun k1 ek1 => ?_)
  by_cases k_5 : k1 = 5
  · skip
    refine v_tableIn (off := 47) (tgt := 48) C dX5_opens_1 (by rw [k_5]; decide) (by rw [k_5]; decide) (by rw [k_5]; rfl) (by decide) ?_
    refine v_iconst (v := 1) C dX5_opens_48 (by decide) ?_
    refine v_zret C hr (by first | rfl | exact bI_nar _) (Nat.le_of_ble_eq_true rfl) (Nat.le_of_ble_eq_true rfl) dX5_opens_49 ?_
    first
      | exact ⟨true, rfl, rfl⟩
      | exact ⟨false, rfl, rfl⟩
      | exact ⟨_, rfl, rfl⟩
  by_cases k_6 : k1 = 6
  · skip
    refine v_tableIn (off := 47) (tgt := 48) C dX5_opens_1 (by rw [k_6]; decide) (by rw [k_6]; decide) (by rw [k_6]; rfl) (by decide) ?_
    refine v_iconst (v := 1) C dX5_opens_48 (by decide) ?_
    refine v_zret C hr (by first | rfl | exact bI_nar _) (Nat.le_of_ble_eq_true rfl) (Nat.le_of_ble_eq_true rfl) dX5_opens_49 ?_
    first
      | exact ⟨true, rfl, rfl⟩
      | exact ⟨false, rfl, rfl⟩
      | exact ⟨_, rfl, rfl⟩
  by_cases k_7 : k1 = 7
  · skip
    refine v_tableIn (off := 47) (tgt := 48) C dX5_opens_1 (by rw [k_7]; decide) (by rw [k_7]; decide) (by rw [k_7]; rfl) (by decide) ?_
    refine v_iconst (v := 1) C dX5_opens_48 (by decide) ?_
    refine v_zret C hr (by first | rfl | exact bI_nar _) (Nat.le_of_ble_eq_true rfl) (Nat.le_of_ble_eq_true rfl) dX5_opens_49 ?_
    first
      | exact ⟨true, rfl, rfl⟩
      | exact ⟨false, rfl, rfl⟩
      | exact ⟨_, rfl, rfl⟩
  by_cases k_8 : k1 = 8
  · skip
    refine v_tableIn (off := 47) (tgt := 48) C dX5_opens_1 (by rw [k_8]; decide) (by rw [k_8]; decide) (by rw [k_8]; rfl) (by decide) ?_
    refine v_iconst (v := 1) C dX5_opens_48 (by decide) ?_
    refine v_zret C hr (by first | rfl | exact bI_nar _) (Nat.le_of_ble_eq_true rfl) (Nat.le_of_ble_eq_true rfl) dX5_opens_49 ?_
    first
      | exact ⟨true, rfl, rfl⟩
      | exact ⟨false, rfl, rfl⟩
      | exact ⟨_, rfl, rfl⟩
  by_cases k_9 : k1 = 9
  · skip
    refine v_tableIn (off := 63) (tgt := 64) C dX5_opens_1 (by rw [k_9]; decide) (by rw [k_9]; decide) (by rw [k_9]; rfl) (by decide) ?_
    refine v_iconst (v := 0) C dX5_opens_64 (by decide) ?_
    refine v_zret C hr (by first | rfl | exact bI_nar _) (Nat.le_of_ble_eq_true rfl) (Nat.le_of_ble_eq_true rfl) dX5_opens_65 ?_
    first
      | exact ⟨true, rfl, rfl⟩
      | exact ⟨false, rfl, rfl⟩
      | exact ⟨_, rfl, rfl⟩
  by_cases k_10 : k1 = 10
  · skip
    refine v_tableIn (off := 47) (tgt := 48) C dX5_opens_1 (by rw [k_10]; decide) (by rw [k_10]; decide) (by rw [k_10]; rfl) (by decide) ?_
    refine v_iconst (v := 1) C dX5_opens_48 (by decide) ?_
    refine v_zret C hr (by first | rfl | exact bI_nar _) (Nat.le_of_ble_eq_true rfl) (Nat.le_of_ble_eq_true rfl) dX5_opens_49 ?_
    first
      | exact ⟨true, rfl, rfl⟩
      | exact ⟨false, rfl, rfl⟩
      | exact ⟨_, rfl, rfl⟩
  by_cases k_11 : k1 = 11
  · skip
    refine v_tableIn (off := 63) (tgt := 64) C dX5_opens_1 (by rw [k_11]; decide) (by rw [k_11]; decide) (by rw [k_11]; rfl) (by decide) ?_
    refine v_iconst (v := 0) C dX5_opens_64 (by decide) ?_
    refine v_zret C hr (by first | rfl | exact bI_nar _) (Nat.le_of_ble_eq_true rfl) (Nat.le_of_ble_eq_true rfl) dX5_opens_65 ?_
    first
      | exact ⟨true, rfl, rfl⟩
      | exact ⟨false, rfl, rfl⟩
      | exact ⟨_, rfl, rfl⟩
  by_cases k_12 : k1 = 12
  · skip
    refine v_tableIn (off := 49) (tgt := 50) C dX5_opens_1 (by rw [k_12]; decide) (by rw [k_12]; decide) (by rw [k_12]; rfl) (by decide) ?_
    refine v_aload_n C dX5_opens_50 rfl ?_
    refine g5_25 C i_this dX5_opens_51 ?_
    refine v_topi (fun v51 e_v51 => ?_)
    refine v_iconst (v := 1) C dX5_opens_54 (by decide) ?_
    refine v_icmp_ne (tgt := 62) C dX5_opens_55 (by decide) (fun c_55 => ?_) (fun c_55 => ?_)
    · skip
      refine v_iconst (v := 0) C dX5_opens_62 (by decide) ?_
      refine v_zret C hr (by first | rfl | exact bI_nar _) (Nat.le_of_ble_eq_true rfl) (Nat.le_of_ble_eq_true rfl) dX5_opens_63 ?_
      first
        | exact ⟨true, rfl, rfl⟩
        | exact ⟨false, rfl, rfl⟩
        | exact ⟨_, rfl, rfl⟩
    · skip
      refine v_iconst (v := 1) C dX5_opens_58 (by decide) ?_
      refine v_goto (tgt := 63) C dX5_opens_59 (by decide) ?_
      refine v_zret C hr (by first | rfl | exact bI_nar _) (Nat.le_of_ble_eq_true rfl) (Nat.le_of_ble_eq_true rfl) dX5_opens_63 ?_
      first
        | exact ⟨true, rfl, rfl⟩
        | exact ⟨false, rfl, rfl⟩
        | exact ⟨_, rfl, rfl⟩
  refine v_tableOut (tgt := 64) C dX5_opens_1 (by have q5 := lv_neT k_5 (a := 5) rfl ; have q6 := lv_neT k_6 (a := 6) rfl ; have q7 := lv_neT k_7 (a := 7) rfl ; have q8 := lv_neT k_8 (a := 8) rfl ; have q9 := lv_neT k_9 (a := 9) rfl ; have q10 := lv_neT k_10 (a := 10) rfl ; have q11 := lv_neT k_11 (a := 11) rfl ; have q12 := lv_neT k_12 (a := 12) rfl ; omega) (by decide) ?_
  refine v_iconst (v := 0) C dX5_opens_64 (by decide) ?_
  refine v_zret C hr (by first | rfl | exact bI_nar _) (Nat.le_of_ble_eq_true rfl) (Nat.le_of_ble_eq_true rfl) dX5_opens_65 ?_
  first
    | exact ⟨true, rfl, rfl⟩
    | exact ⟨false, rfl, rfl⟩
    | exact ⟨_, rfl, rfl⟩
end
section
theorem v_loop {p : Program} {l : Launch} {e : Env} {R : Room} {s : State} {m : MethodId} {args : Array Value} {below : List Frame} {meth : Method} {c : Code} {D : va_G} {G : Nat → ClassId} {bs nL : Nat} {Q : State → Prop} {cells slots : Nat} {S : Mem} {pc : Nat} {lv : List (Option Value)} {st : List Value} {T : Type} (g : T → List (Option Value) → List (Option Value)) (I : Mem → T → Prop) (mu : Mem → T → Nat) {t : T} (hg : g t lv = lv) (hI : I S t) (step : ∀ S t, I S t → (∀ S' t', mu S' t' < mu S t → I S' t' → V p l e R s m args below meth c D G bs nL Q cells slots S' pc (g t' lv) st) → V p l e R s m args below meth c D G bs nL Q cells slots S pc (g t lv) st) : V p l e R s m args below meth c D G bs nL Q cells slots S pc lv st := by
  have h : ∀ n S t, mu S t < n → I S t → V p l e R s m args below meth c D G bs nL Q cells slots S pc (g t lv) st := by
    intro n
    induction n with
    | zero => intro S t h; omega
    | succ n ih => intro S t h hI; exact step S t hI (fun S' t' h2 hI' => ih S' t' (by omega) hI')
  have := h (mu S t + 1) S t (by omega) hI
  rw [hg] at this
  exact this
theorem i32_lo (x : Int32) : -2147483648 ≤ x.toInt := Int32.minValue_le_toInt x
theorem i32_hi (x : Int32) : x.toInt ≤ 2147483647 := by have := Int32.toInt_lt x; omega
theorem i32_inc {i y : Int32} (h : ¬ y ≤ i) : (i + Int32.ofInt 1).toInt = i.toInt + 1 := by
  have h1 : i.toInt < y.toInt := by rw [Int32.le_iff_toInt_le] at h; omega
  have h2 := i32_hi y
  have h3 := i32_lo i
  rw [Int32.toInt_add, show (Int32.ofInt 1).toInt = 1 from rfl, Int.bmod_def]
  split <;> omega
def upm (i : Int32) : Nat := (2147483648 - i.toInt).toNat
theorem upm_lt {i y : Int32} (h : ¬ y ≤ i) : upm (i + Int32.ofInt 1) < upm i := by
  have := i32_inc h
  have h2 := i32_hi i
  unfold upm
  omega
theorem slot_in {t a : Int32} (h1 : ¬ t < 0) (h2 : ¬ 20 ≤ t) (h3 : ¬ a < 0) (h4 : ¬ 12 ≤ a) : vp_in (t * 12 + a) 240 := by
  rw [Int32.lt_iff_toInt_lt] at h1 h3
  rw [Int32.le_iff_toInt_le] at h2 h4
  rw [show (0 : Int32).toInt = 0 from rfl] at h1 h3
  rw [show (20 : Int32).toInt = 20 from rfl] at h2
  rw [show (12 : Int32).toInt = 12 from rfl] at h4
  have e : (t * 12 + a).toInt = t.toInt * 12 + a.toInt := by
    rw [Int32.toInt_add, Int32.toInt_mul, show (12 : Int32).toInt = 12 from rfl, Int.bmod_def (t.toInt * 12), Int.bmod_def]
    split <;> split <;> omega
  exact vp_in_iff.mpr ⟨by omega, by omega⟩
theorem slot_or {v : Int32} (h : v = -1 ∨ vp_in v 240) (c : ¬ v = -1) : vp_in v 240 := h.resolve_left c
theorem slot_ro {v : Int32} (h : v = -1 ∨ vp_in v 240) (c : ¬ ¬ v = -1) : v = -1 := Classical.byContradiction c
theorem at_in {i y : Int32} {x : Bool} (p : x = isB i y) (h : ¬ bI x = 0) (h2 : ¬ 20 ≤ i) : vp_in i 20 := vp_in_b (b := 20) ⟨(isB_t (p ▸ bI_t h)).1, by rw [Int32.lt_iff_toInt_lt]; rw [Int32.le_iff_toInt_le] at h2; omega⟩ rfl
theorem at_in5 {i y : Int32} {x : Bool} (p : x = isB i y) (h : ¬ bI x = 0) (h2 : ¬ 5 ≤ i) : vp_in i 5 := vp_in_b (b := 5) ⟨(isB_t (p ▸ bI_t h)).1, by rw [Int32.lt_iff_toInt_lt]; rw [Int32.le_iff_toInt_le] at h2; omega⟩ rfl
theorem eq_in {a b : Int32} {n : Nat} (e : a = b) (h : vp_in b n) : vp_in a n := e ▸ h
theorem i_m1 : ¬ (1 : Int32) = 0 := by decide
theorem dX2_slot_0 : decode cX2_slot 0 = .ok (.iload_n 0, 1) := by decide +kernel
theorem dX2_slot_1 : decode cX2_slot 1 = .ok (.ifCond .lt 23, 3) := by decide +kernel
theorem dX2_slot_4 : decode cX2_slot 4 = .ok (.iload_n 0, 1) := by decide +kernel
theorem dX2_slot_5 : decode cX2_slot 5 = .ok (.bipush 20, 2) := by decide +kernel
theorem dX2_slot_7 : decode cX2_slot 7 = .ok (.if_icmp .ge 17, 3) := by decide +kernel
theorem dX2_slot_10 : decode cX2_slot 10 = .ok (.iload_n 1, 1) := by decide +kernel
theorem dX2_slot_11 : decode cX2_slot 11 = .ok (.ifCond .lt 13, 3) := by decide +kernel
theorem dX2_slot_14 : decode cX2_slot 14 = .ok (.iload_n 1, 1) := by decide +kernel
theorem dX2_slot_15 : decode cX2_slot 15 = .ok (.bipush 12, 2) := by decide +kernel
theorem dX2_slot_17 : decode cX2_slot 17 = .ok (.if_icmp .ge 7, 3) := by decide +kernel
theorem dX2_slot_20 : decode cX2_slot 20 = .ok (.iconst 1, 1) := by decide +kernel
theorem dX2_slot_21 : decode cX2_slot 21 = .ok (.goto 4, 3) := by decide +kernel
theorem dX2_slot_24 : decode cX2_slot 24 = .ok (.iconst 0, 1) := by decide +kernel
theorem dX2_slot_25 : decode cX2_slot 25 = .ok (.istore_n 2, 1) := by decide +kernel
theorem dX2_slot_26 : decode cX2_slot 26 = .ok (.iload_n 2, 1) := by decide +kernel
theorem dX2_slot_27 : decode cX2_slot 27 = .ok (.ifCond .eq 12, 3) := by decide +kernel
theorem dX2_slot_30 : decode cX2_slot 30 = .ok (.iload_n 0, 1) := by decide +kernel
theorem dX2_slot_31 : decode cX2_slot 31 = .ok (.bipush 12, 2) := by decide +kernel
theorem dX2_slot_33 : decode cX2_slot 33 = .ok (.imul, 1) := by decide +kernel
theorem dX2_slot_34 : decode cX2_slot 34 = .ok (.iload_n 1, 1) := by decide +kernel
theorem dX2_slot_35 : decode cX2_slot 35 = .ok (.iadd, 1) := by decide +kernel
theorem dX2_slot_36 : decode cX2_slot 36 = .ok (.goto 4, 3) := by decide +kernel
theorem dX2_slot_39 : decode cX2_slot 39 = .ok (.iconst (-1), 1) := by decide +kernel
theorem dX2_slot_40 : decode cX2_slot 40 = .ok (.ireturn, 1) := by decide +kernel
set_option maxRecDepth 100000 in
set_option maxHeartbeats 4000000 in
theorem st_X2_slot (l : Launch) (p0 : Int32) (p1 : Int32) : Ct l yX2_slot cX2_slot 3 (some .int) 0 0 0 0 (fun S av => av = [.int p0, .int p1]) (fun S _ r S' => ∃ v, r = some (.int v) ∧ (v = -1 ∨ vp_in v 240) ∧ S' = S) := by
  refine ct_of (by decide) (fun S av h => by obtain rfl := h; exact Nat.le_of_ble_eq_true rfl) ?_
  intro p e s m args below meth c D G bs S av C hr hin hpre
  obtain rfl := hpre
  refine v_iload_n C dX2_slot_0 rfl ?_
  refine v_if_lt (tgt := 24) C dX2_slot_1 (by decide) (fun c_1 => ?_) (fun c_1 => ?_)
  · skip
    refine v_iconst (v := 0) C dX2_slot_24 (by decide) ?_
    refine v_istore_n C dX2_slot_25 (by decide) (by first | rfl | simp [okS, cat_rf]) ?_
    refine v_iload_n C dX2_slot_26 rfl ?_
    refine v_if_eq (tgt := 39) C dX2_slot_27 (by decide) (fun c_27 => ?_) (fun c_27 => ?_)
    · skip
      refine v_iconst (v := -1) C dX2_slot_39 (by decide) ?_
      refine v_iret C hr (Nat.le_of_ble_eq_true rfl) (Nat.le_of_ble_eq_true rfl) dX2_slot_40 ?_
      exact ⟨_, rfl, Or.inl rfl, rfl⟩
    · skip
      exact absurd rfl c_27
  · skip
    refine v_iload_n C dX2_slot_4 rfl ?_
    refine v_bipush (v := 20) C dX2_slot_5 (by decide) ?_
    refine v_icmp_ge (tgt := 24) C dX2_slot_7 (by decide) (fun c_7 => ?_) (fun c_7 => ?_)
    · skip
      refine v_iconst (v := 0) C dX2_slot_24 (by decide) ?_
      refine v_istore_n C dX2_slot_25 (by decide) (by first | rfl | simp [okS, cat_rf]) ?_
      refine v_iload_n C dX2_slot_26 rfl ?_
      refine v_if_eq (tgt := 39) C dX2_slot_27 (by decide) (fun c_27 => ?_) (fun c_27 => ?_)
      · skip
        refine v_iconst (v := -1) C dX2_slot_39 (by decide) ?_
        refine v_iret C hr (Nat.le_of_ble_eq_true rfl) (Nat.le_of_ble_eq_true rfl) dX2_slot_40 ?_
        exact ⟨_, rfl, Or.inl rfl, rfl⟩
      · skip
        exact absurd rfl c_27
    · skip
      refine v_iload_n C dX2_slot_10 rfl ?_
      refine v_if_lt (tgt := 24) C dX2_slot_11 (by decide) (fun c_11 => ?_) (fun c_11 => ?_)
      · skip
        refine v_iconst (v := 0) C dX2_slot_24 (by decide) ?_
        refine v_istore_n C dX2_slot_25 (by decide) (by first | rfl | simp [okS, cat_rf]) ?_
        refine v_iload_n C dX2_slot_26 rfl ?_
        refine v_if_eq (tgt := 39) C dX2_slot_27 (by decide) (fun c_27 => ?_) (fun c_27 => ?_)
        · skip
          refine v_iconst (v := -1) C dX2_slot_39 (by decide) ?_
          refine v_iret C hr (Nat.le_of_ble_eq_true rfl) (Nat.le_of_ble_eq_true rfl) dX2_slot_40 ?_
          exact ⟨_, rfl, Or.inl rfl, rfl⟩
        · skip
          exact absurd rfl c_27
      · skip
        refine v_iload_n C dX2_slot_14 rfl ?_
        refine v_bipush (v := 12) C dX2_slot_15 (by decide) ?_
        refine v_icmp_ge (tgt := 24) C dX2_slot_17 (by decide) (fun c_17 => ?_) (fun c_17 => ?_)
        · skip
          refine v_iconst (v := 0) C dX2_slot_24 (by decide) ?_
          refine v_istore_n C dX2_slot_25 (by decide) (by first | rfl | simp [okS, cat_rf]) ?_
          refine v_iload_n C dX2_slot_26 rfl ?_
          refine v_if_eq (tgt := 39) C dX2_slot_27 (by decide) (fun c_27 => ?_) (fun c_27 => ?_)
          · skip
            refine v_iconst (v := -1) C dX2_slot_39 (by decide) ?_
            refine v_iret C hr (Nat.le_of_ble_eq_true rfl) (Nat.le_of_ble_eq_true rfl) dX2_slot_40 ?_
            exact ⟨_, rfl, Or.inl rfl, rfl⟩
          · skip
            exact absurd rfl c_27
        · skip
          refine v_iconst (v := 1) C dX2_slot_20 (by decide) ?_
          refine v_goto (tgt := 25) C dX2_slot_21 (by decide) ?_
          refine v_istore_n C dX2_slot_25 (by decide) (by first | rfl | simp [okS, cat_rf]) ?_
          refine v_iload_n C dX2_slot_26 rfl ?_
          refine v_if_eq (tgt := 39) C dX2_slot_27 (by decide) (fun c_27 => ?_) (fun c_27 => ?_)
          · skip
            exact absurd c_27 i_m1
          · skip
            refine v_iload_n C dX2_slot_30 rfl ?_
            refine v_bipush (v := 12) C dX2_slot_31 (by decide) ?_
            refine v_imul C dX2_slot_33 ?_
            refine v_iload_n C dX2_slot_34 rfl ?_
            refine v_iadd C dX2_slot_35 ?_
            refine v_goto (tgt := 40) C dX2_slot_36 (by decide) ?_
            refine v_iret C hr (Nat.le_of_ble_eq_true rfl) (Nat.le_of_ble_eq_true rfl) dX2_slot_40 ?_
            exact ⟨_, rfl, Or.inr (slot_in c_1 c_7 c_11 c_17), rfl⟩
theorem dX2_takenAt_0 : decode cX2_takenAt 0 = .ok (.iload_n 1, 1) := by decide +kernel
theorem dX2_takenAt_1 : decode cX2_takenAt 1 = .ok (.aload_n 0, 1) := by decide +kernel
theorem dX2_takenAt_2 : decode cX2_takenAt 2 = .ok (.getfield 58, 3) := by decide +kernel
theorem dX2_takenAt_5 : decode cX2_takenAt 5 = .ok (.invokestatic 61, 3) := by decide +kernel
theorem dX2_takenAt_8 : decode cX2_takenAt 8 = .ok (.ifCond .eq 17, 3) := by decide +kernel
theorem dX2_takenAt_11 : decode cX2_takenAt 11 = .ok (.iload_n 1, 1) := by decide +kernel
theorem dX2_takenAt_12 : decode cX2_takenAt 12 = .ok (.iconst 5, 1) := by decide +kernel
theorem dX2_takenAt_13 : decode cX2_takenAt 13 = .ok (.if_icmp .ge 12, 3) := by decide +kernel
theorem dX2_takenAt_16 : decode cX2_takenAt 16 = .ok (.aload_n 0, 1) := by decide +kernel
theorem dX2_takenAt_17 : decode cX2_takenAt 17 = .ok (.getfield 18, 3) := by decide +kernel
theorem dX2_takenAt_20 : decode cX2_takenAt 20 = .ok (.iload_n 1, 1) := by decide +kernel
theorem dX2_takenAt_21 : decode cX2_takenAt 21 = .ok (.iaload, 1) := by decide +kernel
theorem dX2_takenAt_22 : decode cX2_takenAt 22 = .ok (.goto 4, 3) := by decide +kernel
theorem dX2_takenAt_25 : decode cX2_takenAt 25 = .ok (.iconst (-1), 1) := by decide +kernel
theorem dX2_takenAt_26 : decode cX2_takenAt 26 = .ok (.ireturn, 1) := by decide +kernel
set_option maxRecDepth 100000 in
set_option maxHeartbeats 4000000 in
theorem st_X2_takenAt (l : Launch) (M : Nat → Prop) (h : Nat) (p0 : Int32) : Ct l yX2_takenAt cX2_takenAt 2 (some .int) 1 0 0 21 (fun S av => av = [.ref h, .int p0] ∧ INV M [] S ∧ is S h 2) (fun S _ r S' => ∃ v, r = some (.int v) ∧ S' = S) := by
  refine ct_of (by decide) (fun S av h => by obtain ⟨rfl, iv, i_this⟩ := h; exact Nat.le_of_ble_eq_true rfl) ?_
  intro p e s m args below meth c D G bs S av C hr hin hpre
  obtain ⟨rfl, iv, i_this⟩ := hpre
  refine v_iload_n C dX2_takenAt_0 rfl ?_
  refine v_aload_n C dX2_takenAt_1 rfl ?_
  refine g2_58 C i_this dX2_takenAt_2 ?_
  refine v_topi (fun v2 e_v2 => ?_)
  refine v_callSN (As := [_, _]) (n := 2) C (sb_isBelow l _ _) rfl ⟨(by decide +kernel), wd141, wd2, wd142⟩ hy_X9_isBelow rfl ⟨Nat.le_of_ble_eq_true rfl, Nat.le_of_ble_eq_true rfl⟩ (Nat.le_of_ble_eq_true rfl) ⟨Nat.le_of_ble_eq_true rfl, Nat.le_of_ble_eq_true rfl⟩ dX2_takenAt_5 rfl (fun r_5 S2_5 h_5 => ?_)
  obtain ⟨v5, rfl, p_v5, q_v5⟩ := h_5
  obtain rfl := q_v5.symm
  refine v_if_eq (tgt := 25) C dX2_takenAt_8 (by decide) (fun c_8 => ?_) (fun c_8 => ?_)
  · skip
    refine v_iconst (v := -1) C dX2_takenAt_25 (by decide) ?_
    refine v_iret C hr (Nat.le_of_ble_eq_true rfl) (Nat.le_of_ble_eq_true rfl) dX2_takenAt_26 ?_
    exact ⟨_, rfl, rfl⟩
  · skip
    refine v_iload_n C dX2_takenAt_11 rfl ?_
    refine v_iconst (v := 5) C dX2_takenAt_12 (by decide) ?_
    refine v_icmp_ge (tgt := 25) C dX2_takenAt_13 (by decide) (fun c_13 => ?_) (fun c_13 => ?_)
    · skip
      refine v_iconst (v := -1) C dX2_takenAt_25 (by decide) ?_
      refine v_iret C hr (Nat.le_of_ble_eq_true rfl) (Nat.le_of_ble_eq_true rfl) dX2_takenAt_26 ?_
      exact ⟨_, rfl, rfl⟩
    · skip
      refine v_aload_n C dX2_takenAt_16 rfl ?_
      obtain ⟨r17, e_r17, i_r17, m_r17⟩ := T131 iv i_this List.not_mem_nil
      refine r2_18 (b := r17) C i_this e_r17 dX2_takenAt_17 ?_
      refine v_iload_n C dX2_takenAt_20 rfl ?_
      refine v_iald C i_r17 (at_in5 p_v5 c_8 c_13) dX2_takenAt_21 ?_
      refine v_topi (fun v21 e_v21 => ?_)
      refine v_goto (tgt := 26) C dX2_takenAt_22 (by decide) ?_
      refine v_iret C hr (Nat.le_of_ble_eq_true rfl) (Nat.le_of_ble_eq_true rfl) dX2_takenAt_26 ?_
      exact ⟨_, rfl, rfl⟩
theorem dX3_at_0 : decode cX3_at 0 = .ok (.iload_n 1, 1) := by decide +kernel
theorem dX3_at_1 : decode cX3_at 1 = .ok (.aload_n 0, 1) := by decide +kernel
theorem dX3_at_2 : decode cX3_at 2 = .ok (.getfield 24, 3) := by decide +kernel
theorem dX3_at_5 : decode cX3_at 5 = .ok (.invokestatic 28, 3) := by decide +kernel
theorem dX3_at_8 : decode cX3_at 8 = .ok (.ifCond .eq 18, 3) := by decide +kernel
theorem dX3_at_11 : decode cX3_at 11 = .ok (.iload_n 1, 1) := by decide +kernel
theorem dX3_at_12 : decode cX3_at 12 = .ok (.bipush 20, 2) := by decide +kernel
theorem dX3_at_14 : decode cX3_at 14 = .ok (.if_icmp .ge 12, 3) := by decide +kernel
theorem dX3_at_17 : decode cX3_at 17 = .ok (.aload_n 0, 1) := by decide +kernel
theorem dX3_at_18 : decode cX3_at 18 = .ok (.getfield 9, 3) := by decide +kernel
theorem dX3_at_21 : decode cX3_at 21 = .ok (.iload_n 1, 1) := by decide +kernel
theorem dX3_at_22 : decode cX3_at 22 = .ok (.iaload, 1) := by decide +kernel
theorem dX3_at_23 : decode cX3_at 23 = .ok (.goto 4, 3) := by decide +kernel
theorem dX3_at_26 : decode cX3_at 26 = .ok (.iconst (-1), 1) := by decide +kernel
theorem dX3_at_27 : decode cX3_at 27 = .ok (.ireturn, 1) := by decide +kernel
set_option maxRecDepth 100000 in
set_option maxHeartbeats 4000000 in
theorem st_X3_at (l : Launch) (M : Nat → Prop) (h : Nat) (p0 : Int32) : Ct l yX3_at cX3_at 2 (some .int) 1 0 0 21 (fun S av => av = [.ref h, .int p0] ∧ INV M [] S ∧ is S h 3) (fun S _ r S' => ∃ v, r = some (.int v) ∧ S' = S) := by
  refine ct_of (by decide) (fun S av h => by obtain ⟨rfl, iv, i_this⟩ := h; exact Nat.le_of_ble_eq_true rfl) ?_
  intro p e s m args below meth c D G bs S av C hr hin hpre
  obtain ⟨rfl, iv, i_this⟩ := hpre
  refine v_iload_n C dX3_at_0 rfl ?_
  refine v_aload_n C dX3_at_1 rfl ?_
  refine g3_24 C i_this dX3_at_2 ?_
  refine v_topi (fun v2 e_v2 => ?_)
  refine v_callSN (As := [_, _]) (n := 2) C (sb_isBelow l _ _) rfl ⟨(by decide +kernel), wd141, wd2, wd142⟩ hy_X9_isBelow rfl ⟨Nat.le_of_ble_eq_true rfl, Nat.le_of_ble_eq_true rfl⟩ (Nat.le_of_ble_eq_true rfl) ⟨Nat.le_of_ble_eq_true rfl, Nat.le_of_ble_eq_true rfl⟩ dX3_at_5 rfl (fun r_5 S2_5 h_5 => ?_)
  obtain ⟨v5, rfl, p_v5, q_v5⟩ := h_5
  obtain rfl := q_v5.symm
  refine v_if_eq (tgt := 26) C dX3_at_8 (by decide) (fun c_8 => ?_) (fun c_8 => ?_)
  · skip
    refine v_iconst (v := -1) C dX3_at_26 (by decide) ?_
    refine v_iret C hr (Nat.le_of_ble_eq_true rfl) (Nat.le_of_ble_eq_true rfl) dX3_at_27 ?_
    exact ⟨_, rfl, rfl⟩
  · skip
    refine v_iload_n C dX3_at_11 rfl ?_
    refine v_bipush (v := 20) C dX3_at_12 (by decide) ?_
    refine v_icmp_ge (tgt := 26) C dX3_at_14 (by decide) (fun c_14 => ?_) (fun c_14 => ?_)
    · skip
      refine v_iconst (v := -1) C dX3_at_26 (by decide) ?_
      refine v_iret C hr (Nat.le_of_ble_eq_true rfl) (Nat.le_of_ble_eq_true rfl) dX3_at_27 ?_
      exact ⟨_, rfl, rfl⟩
    · skip
      refine v_aload_n C dX3_at_17 rfl ?_
      obtain ⟨r18, e_r18, i_r18, m_r18⟩ := T192 iv i_this List.not_mem_nil
      refine r3_9 (b := r18) C i_this e_r18 dX3_at_18 ?_
      refine v_iload_n C dX3_at_21 rfl ?_
      refine v_iald C i_r18 (at_in p_v5 c_8 c_14) dX3_at_22 ?_
      refine v_topi (fun v22 e_v22 => ?_)
      refine v_goto (tgt := 27) C dX3_at_23 (by decide) ?_
      refine v_iret C hr (Nat.le_of_ble_eq_true rfl) (Nat.le_of_ble_eq_true rfl) dX3_at_27 ?_
      exact ⟨_, rfl, rfl⟩
theorem dX3_has_0 : decode cX3_has 0 = .ok (.iload_n 1, 1) := by decide +kernel
theorem dX3_has_1 : decode cX3_has 1 = .ok (.bipush 20, 2) := by decide +kernel
theorem dX3_has_3 : decode cX3_has 3 = .ok (.invokestatic 28, 3) := by decide +kernel
theorem dX3_has_6 : decode cX3_has 6 = .ok (.ifCond .eq 17, 3) := by decide +kernel
theorem dX3_has_9 : decode cX3_has 9 = .ok (.aload_n 0, 1) := by decide +kernel
theorem dX3_has_10 : decode cX3_has 10 = .ok (.getfield 15, 3) := by decide +kernel
theorem dX3_has_13 : decode cX3_has 13 = .ok (.iload_n 1, 1) := by decide +kernel
theorem dX3_has_14 : decode cX3_has 14 = .ok (.iaload, 1) := by decide +kernel
theorem dX3_has_15 : decode cX3_has 15 = .ok (.iconst (-1), 1) := by decide +kernel
theorem dX3_has_16 : decode cX3_has 16 = .ok (.if_icmp .eq 7, 3) := by decide +kernel
theorem dX3_has_19 : decode cX3_has 19 = .ok (.iconst 1, 1) := by decide +kernel
theorem dX3_has_20 : decode cX3_has 20 = .ok (.goto 4, 3) := by decide +kernel
theorem dX3_has_23 : decode cX3_has 23 = .ok (.iconst 0, 1) := by decide +kernel
theorem dX3_has_24 : decode cX3_has 24 = .ok (.ireturn, 1) := by decide +kernel
set_option maxRecDepth 100000 in
set_option maxHeartbeats 4000000 in
theorem st_X3_has (l : Launch) (M : Nat → Prop) (h : Nat) (p0 : Int32) : Ct l yX3_has cX3_has 2 (some .boolean) 1 0 0 21 (fun S av => av = [.ref h, .int p0] ∧ INV M [] S ∧ is S h 3) (fun S _ r S' => ∃ v, r = some (.int (bI v)) ∧ S' = S) := by
  refine ct_of (by decide) (fun S av h => by obtain ⟨rfl, iv, i_this⟩ := h; exact Nat.le_of_ble_eq_true rfl) ?_
  intro p e s m args below meth c D G bs S av C hr hin hpre
  obtain ⟨rfl, iv, i_this⟩ := hpre
  refine v_iload_n C dX3_has_0 rfl ?_
  refine v_bipush (v := 20) C dX3_has_1 (by decide) ?_
  refine v_callSN (As := [_, _]) (n := 2) C (sb_isBelow l _ _) rfl ⟨(by decide +kernel), wd141, wd2, wd142⟩ hy_X9_isBelow rfl ⟨Nat.le_of_ble_eq_true rfl, Nat.le_of_ble_eq_true rfl⟩ (Nat.le_of_ble_eq_true rfl) ⟨Nat.le_of_ble_eq_true rfl, Nat.le_of_ble_eq_true rfl⟩ dX3_has_3 rfl (fun r_3 S2_3 h_3 => ?_)
  obtain ⟨v3, rfl, p_v3, q_v3⟩ := h_3
  obtain rfl := q_v3.symm
  refine v_if_eq (tgt := 23) C dX3_has_6 (by decide) (fun c_6 => ?_) (fun c_6 => ?_)
  · skip
    refine v_iconst (v := 0) C dX3_has_23 (by decide) ?_
    refine v_zret C hr (by first | rfl | exact bI_nar _) (Nat.le_of_ble_eq_true rfl) (Nat.le_of_ble_eq_true rfl) dX3_has_24 ?_
    first
      | exact ⟨true, rfl, rfl⟩
      | exact ⟨false, rfl, rfl⟩
      | exact ⟨_, rfl, rfl⟩
  · skip
    refine v_aload_n C dX3_has_9 rfl ?_
    obtain ⟨r10, e_r10, i_r10, m_r10⟩ := T193 iv i_this List.not_mem_nil
    refine r3_15 (b := r10) C i_this e_r10 dX3_has_10 ?_
    refine v_iload_n C dX3_has_13 rfl ?_
    refine v_iald C i_r10 (bI_ne p_v3 c_6 rfl) dX3_has_14 ?_
    refine v_topi (fun v14 e_v14 => ?_)
    refine v_iconst (v := -1) C dX3_has_15 (by decide) ?_
    refine v_icmp_eq (tgt := 23) C dX3_has_16 (by decide) (fun c_16 => ?_) (fun c_16 => ?_)
    · skip
      refine v_iconst (v := 0) C dX3_has_23 (by decide) ?_
      refine v_zret C hr (by first | rfl | exact bI_nar _) (Nat.le_of_ble_eq_true rfl) (Nat.le_of_ble_eq_true rfl) dX3_has_24 ?_
      first
        | exact ⟨true, rfl, rfl⟩
        | exact ⟨false, rfl, rfl⟩
        | exact ⟨_, rfl, rfl⟩
    · skip
      refine v_iconst (v := 1) C dX3_has_19 (by decide) ?_
      refine v_goto (tgt := 24) C dX3_has_20 (by decide) ?_
      refine v_zret C hr (by first | rfl | exact bI_nar _) (Nat.le_of_ble_eq_true rfl) (Nat.le_of_ble_eq_true rfl) dX3_has_24 ?_
      first
        | exact ⟨true, rfl, rfl⟩
        | exact ⟨false, rfl, rfl⟩
        | exact ⟨_, rfl, rfl⟩
theorem dX2_hasTaken_0 : decode cX2_hasTaken 0 = .ok (.iconst 0, 1) := by decide +kernel
theorem dX2_hasTaken_1 : decode cX2_hasTaken 1 = .ok (.istore_n 2, 1) := by decide +kernel
theorem dX2_hasTaken_2 : decode cX2_hasTaken 2 = .ok (.iload_n 2, 1) := by decide +kernel
theorem dX2_hasTaken_3 : decode cX2_hasTaken 3 = .ok (.aload_n 0, 1) := by decide +kernel
theorem dX2_hasTaken_4 : decode cX2_hasTaken 4 = .ok (.getfield 58, 3) := by decide +kernel
theorem dX2_hasTaken_7 : decode cX2_hasTaken 7 = .ok (.if_icmp .ge 20, 3) := by decide +kernel
theorem dX2_hasTaken_10 : decode cX2_hasTaken 10 = .ok (.aload_n 0, 1) := by decide +kernel
theorem dX2_hasTaken_11 : decode cX2_hasTaken 11 = .ok (.iload_n 2, 1) := by decide +kernel
theorem dX2_hasTaken_12 : decode cX2_hasTaken 12 = .ok (.invokevirtual 65, 3) := by decide +kernel
theorem dX2_hasTaken_15 : decode cX2_hasTaken 15 = .ok (.iload_n 1, 1) := by decide +kernel
theorem dX2_hasTaken_16 : decode cX2_hasTaken 16 = .ok (.if_icmp .ne 5, 3) := by decide +kernel
theorem dX2_hasTaken_19 : decode cX2_hasTaken 19 = .ok (.iconst 1, 1) := by decide +kernel
theorem dX2_hasTaken_20 : decode cX2_hasTaken 20 = .ok (.ireturn, 1) := by decide +kernel
theorem dX2_hasTaken_21 : decode cX2_hasTaken 21 = .ok (.iinc 2 1, 3) := by decide +kernel
theorem dX2_hasTaken_24 : decode cX2_hasTaken 24 = .ok (.goto (-22), 3) := by decide +kernel
theorem dX2_hasTaken_27 : decode cX2_hasTaken 27 = .ok (.iconst 0, 1) := by decide +kernel
theorem dX2_hasTaken_28 : decode cX2_hasTaken 28 = .ok (.ireturn, 1) := by decide +kernel
set_option maxRecDepth 100000 in
set_option maxHeartbeats 4000000 in
theorem st_X2_hasTaken (l : Launch) (M : Nat → Prop) (h : Nat) (p0 : Int32) : Ct l yX2_hasTaken cX2_hasTaken 3 (some .boolean) 2 0 0 42 (fun S av => av = [.ref h, .int p0] ∧ INV M [] S ∧ is S h 2) (fun S _ r S' => ∃ v, r = some (.int (bI v)) ∧ S' = S) := by
  refine ct_of (by decide) (fun S av h => by obtain ⟨rfl, iv, i_this⟩ := h; exact Nat.le_of_ble_eq_true rfl) ?_
  intro p e s m args below meth c D G bs S av C hr hin hpre
  obtain ⟨rfl, iv, i_this⟩ := hpre
  refine v_iconst (v := 0) C dX2_hasTaken_0 (by decide) ?_
  refine v_istore_n C dX2_hasTaken_1 (by decide) (by first | rfl | simp [okS, cat_rf]) ?_
  refine v_loop (fun (t : Int32) lv0 => (lv0.set 2 (some (.int t)))) (fun (S1 : Mem) (t : Int32) => INV M [] S1 ∧ is S1 h 2 ∧ S1 = S) (fun (S1 : Mem) (t : Int32) => upm t) (t := _) rfl ⟨iv, i_this, rfl⟩ ?_
  intro L2 t h_2 ih_2
  revert h_2 ih_2
  revert t
  intro t0_2 h_2 ih_2
  obtain ⟨iv, i_this, e_S⟩ := h_2
  subst e_S
  try dsimp only
  refine v_iload_n C dX2_hasTaken_2 rfl ?_
  refine v_aload_n C dX2_hasTaken_3 rfl ?_
  refine g2_58 C i_this dX2_hasTaken_4 ?_
  refine v_topi (fun v4 e_v4 => ?_)
  refine v_icmp_ge (tgt := 27) C dX2_hasTaken_7 (by decide) (fun c_7 => ?_) (fun c_7 => ?_)
  · skip
    refine v_iconst (v := 0) C dX2_hasTaken_27 (by decide) ?_
    refine v_zret C hr (by first | rfl | exact bI_nar _) (Nat.le_of_ble_eq_true rfl) (Nat.le_of_ble_eq_true rfl) dX2_hasTaken_28 ?_
    first
      | exact ⟨true, rfl, rfl⟩
      | exact ⟨false, rfl, rfl⟩
      | exact ⟨_, rfl, rfl⟩
  · skip
    refine v_aload_n C dX2_hasTaken_10 rfl ?_
    refine v_iload_n C dX2_hasTaken_11 rfl ?_
    refine v_callV (As := [_]) (n := 1) C (st_X2_takenAt l _ _ _) rfl i_this (by decide) rfl ⟨wd310, wd311, wd312, wd271, wd313⟩ ⟨rfl, hy_X2_takenAt⟩ rfl ⟨Nat.le_of_ble_eq_true rfl, Nat.le_of_ble_eq_true rfl⟩ (Nat.le_of_ble_eq_true rfl) ⟨Nat.le_of_ble_eq_true rfl, Nat.le_of_ble_eq_true rfl⟩ dX2_hasTaken_12 ⟨rfl, iv, i_this⟩ (fun r_12 S2_12 h_12 => ?_)
    obtain ⟨v12, rfl, q_v12⟩ := h_12
    obtain rfl := q_v12.symm
    refine v_iload_n C dX2_hasTaken_15 rfl ?_
    refine v_icmp_ne (tgt := 21) C dX2_hasTaken_16 (by decide) (fun c_16 => ?_) (fun c_16 => ?_)
    · skip
      refine v_iinc C dX2_hasTaken_21 rfl rfl (by decide) (by first | rfl | simp [okS, cat_rf]) ?_
      refine v_goto (tgt := 2) C dX2_hasTaken_24 (by decide) ?_
      exact ih_2 _ _ (upm_lt c_7) ⟨iv, i_this, rfl⟩
    · skip
      refine v_iconst (v := 1) C dX2_hasTaken_19 (by decide) ?_
      refine v_zret C hr (by first | rfl | exact bI_nar _) (Nat.le_of_ble_eq_true rfl) (Nat.le_of_ble_eq_true rfl) dX2_hasTaken_20 ?_
      first
        | exact ⟨true, rfl, rfl⟩
        | exact ⟨false, rfl, rfl⟩
        | exact ⟨_, rfl, rfl⟩
theorem dX2_leaves_0 : decode cX2_leaves 0 = .ok (.iload_n 1, 1) := by decide +kernel
theorem dX2_leaves_1 : decode cX2_leaves 1 = .ok (.iload_n 2, 1) := by decide +kernel
theorem dX2_leaves_2 : decode cX2_leaves 2 = .ok (.invokestatic 69, 3) := by decide +kernel
theorem dX2_leaves_5 : decode cX2_leaves 5 = .ok (.istore_n 3, 1) := by decide +kernel
theorem dX2_leaves_6 : decode cX2_leaves 6 = .ok (.iload_n 3, 1) := by decide +kernel
theorem dX2_leaves_7 : decode cX2_leaves 7 = .ok (.iconst (-1), 1) := by decide +kernel
theorem dX2_leaves_8 : decode cX2_leaves 8 = .ok (.if_icmp .eq 16, 3) := by decide +kernel
theorem dX2_leaves_11 : decode cX2_leaves 11 = .ok (.aload_n 0, 1) := by decide +kernel
theorem dX2_leaves_12 : decode cX2_leaves 12 = .ok (.getfield 28, 3) := by decide +kernel
theorem dX2_leaves_15 : decode cX2_leaves 15 = .ok (.iload_n 3, 1) := by decide +kernel
theorem dX2_leaves_16 : decode cX2_leaves 16 = .ok (.baload, 1) := by decide +kernel
theorem dX2_leaves_17 : decode cX2_leaves 17 = .ok (.ifCond .eq 7, 3) := by decide +kernel
theorem dX2_leaves_20 : decode cX2_leaves 20 = .ok (.iconst 1, 1) := by decide +kernel
theorem dX2_leaves_21 : decode cX2_leaves 21 = .ok (.goto 4, 3) := by decide +kernel
theorem dX2_leaves_24 : decode cX2_leaves 24 = .ok (.iconst 0, 1) := by decide +kernel
theorem dX2_leaves_25 : decode cX2_leaves 25 = .ok (.ireturn, 1) := by decide +kernel
set_option maxRecDepth 100000 in
set_option maxHeartbeats 4000000 in
theorem st_X2_leaves (l : Launch) (M : Nat → Prop) (h : Nat) (p0 : Int32) (p1 : Int32) : Ct l yX2_leaves cX2_leaves 4 (some .boolean) 1 0 0 22 (fun S av => av = [.ref h, .int p0, .int p1] ∧ INV M [] S ∧ is S h 2) (fun S _ r S' => ∃ v, r = some (.int (bI v)) ∧ S' = S) := by
  refine ct_of (by decide) (fun S av h => by obtain ⟨rfl, iv, i_this⟩ := h; exact Nat.le_of_ble_eq_true rfl) ?_
  intro p e s m args below meth c D G bs S av C hr hin hpre
  obtain ⟨rfl, iv, i_this⟩ := hpre
  refine v_iload_n C dX2_leaves_0 rfl ?_
  refine v_iload_n C dX2_leaves_1 rfl ?_
  refine v_callS (As := [_, _]) (n := 2) C (st_X2_slot l _ _) rfl ⟨wd436, wd437, wd271, wd438⟩ hy_X2_slot rfl ⟨Nat.le_of_ble_eq_true rfl, Nat.le_of_ble_eq_true rfl⟩ (Nat.le_of_ble_eq_true rfl) ⟨Nat.le_of_ble_eq_true rfl, Nat.le_of_ble_eq_true rfl⟩ dX2_leaves_2 rfl (fun r_2 S2_2 h_2 => ?_)
  obtain ⟨v2, rfl, p_v2, q_v2⟩ := h_2
  obtain rfl := q_v2.symm
  refine v_istore_n C dX2_leaves_5 (by decide) (by first | rfl | simp [okS, cat_rf]) ?_
  refine v_iload_n C dX2_leaves_6 rfl ?_
  refine v_iconst (v := -1) C dX2_leaves_7 (by decide) ?_
  refine v_icmp_eq (tgt := 24) C dX2_leaves_8 (by decide) (fun c_8 => ?_) (fun c_8 => ?_)
  · skip
    refine v_iconst (v := 0) C dX2_leaves_24 (by decide) ?_
    refine v_zret C hr (by first | rfl | exact bI_nar _) (Nat.le_of_ble_eq_true rfl) (Nat.le_of_ble_eq_true rfl) dX2_leaves_25 ?_
    first
      | exact ⟨true, rfl, rfl⟩
      | exact ⟨false, rfl, rfl⟩
      | exact ⟨_, rfl, rfl⟩
  · skip
    refine v_aload_n C dX2_leaves_11 rfl ?_
    obtain ⟨r12, e_r12, i_r12, m_r12⟩ := T134 iv i_this List.not_mem_nil
    refine r2_28 (b := r12) C i_this e_r12 dX2_leaves_12 ?_
    refine v_iload_n C dX2_leaves_15 rfl ?_
    refine v_zald C i_r12 (slot_or p_v2 c_8) dX2_leaves_16 ?_
    refine v_topi (fun v16 e_v16 => ?_)
    refine v_if_eq (tgt := 24) C dX2_leaves_17 (by decide) (fun c_17 => ?_) (fun c_17 => ?_)
    · skip
      refine v_iconst (v := 0) C dX2_leaves_24 (by decide) ?_
      refine v_zret C hr (by first | rfl | exact bI_nar _) (Nat.le_of_ble_eq_true rfl) (Nat.le_of_ble_eq_true rfl) dX2_leaves_25 ?_
      first
        | exact ⟨true, rfl, rfl⟩
        | exact ⟨false, rfl, rfl⟩
        | exact ⟨_, rfl, rfl⟩
    · skip
      refine v_iconst (v := 1) C dX2_leaves_20 (by decide) ?_
      refine v_goto (tgt := 25) C dX2_leaves_21 (by decide) ?_
      refine v_zret C hr (by first | rfl | exact bI_nar _) (Nat.le_of_ble_eq_true rfl) (Nat.le_of_ble_eq_true rfl) dX2_leaves_25 ?_
      first
        | exact ⟨true, rfl, rfl⟩
        | exact ⟨false, rfl, rfl⟩
        | exact ⟨_, rfl, rfl⟩
theorem dX2_nameOf_0 : decode cX2_nameOf 0 = .ok (.iload_n 1, 1) := by decide +kernel
theorem dX2_nameOf_1 : decode cX2_nameOf 1 = .ok (.iload_n 2, 1) := by decide +kernel
theorem dX2_nameOf_2 : decode cX2_nameOf 2 = .ok (.invokestatic 69, 3) := by decide +kernel
theorem dX2_nameOf_5 : decode cX2_nameOf 5 = .ok (.istore_n 3, 1) := by decide +kernel
theorem dX2_nameOf_6 : decode cX2_nameOf 6 = .ok (.iload_n 3, 1) := by decide +kernel
theorem dX2_nameOf_7 : decode cX2_nameOf 7 = .ok (.iconst (-1), 1) := by decide +kernel
theorem dX2_nameOf_8 : decode cX2_nameOf 8 = .ok (.if_icmp .ne 7, 3) := by decide +kernel
theorem dX2_nameOf_11 : decode cX2_nameOf 11 = .ok (.iconst (-1), 1) := by decide +kernel
theorem dX2_nameOf_12 : decode cX2_nameOf 12 = .ok (.goto 9, 3) := by decide +kernel
theorem dX2_nameOf_15 : decode cX2_nameOf 15 = .ok (.aload_n 0, 1) := by decide +kernel
theorem dX2_nameOf_16 : decode cX2_nameOf 16 = .ok (.getfield 32, 3) := by decide +kernel
theorem dX2_nameOf_19 : decode cX2_nameOf 19 = .ok (.iload_n 3, 1) := by decide +kernel
theorem dX2_nameOf_20 : decode cX2_nameOf 20 = .ok (.iaload, 1) := by decide +kernel
theorem dX2_nameOf_21 : decode cX2_nameOf 21 = .ok (.ireturn, 1) := by decide +kernel
set_option maxRecDepth 100000 in
set_option maxHeartbeats 4000000 in
theorem st_X2_nameOf (l : Launch) (M : Nat → Prop) (h : Nat) (p0 : Int32) (p1 : Int32) : Ct l yX2_nameOf cX2_nameOf 4 (some .int) 1 0 0 22 (fun S av => av = [.ref h, .int p0, .int p1] ∧ INV M [] S ∧ is S h 2) (fun S _ r S' => ∃ v, r = some (.int v) ∧ S' = S) := by
  refine ct_of (by decide) (fun S av h => by obtain ⟨rfl, iv, i_this⟩ := h; exact Nat.le_of_ble_eq_true rfl) ?_
  intro p e s m args below meth c D G bs S av C hr hin hpre
  obtain ⟨rfl, iv, i_this⟩ := hpre
  refine v_iload_n C dX2_nameOf_0 rfl ?_
  refine v_iload_n C dX2_nameOf_1 rfl ?_
  refine v_callS (As := [_, _]) (n := 2) C (st_X2_slot l _ _) rfl ⟨wd436, wd437, wd271, wd438⟩ hy_X2_slot rfl ⟨Nat.le_of_ble_eq_true rfl, Nat.le_of_ble_eq_true rfl⟩ (Nat.le_of_ble_eq_true rfl) ⟨Nat.le_of_ble_eq_true rfl, Nat.le_of_ble_eq_true rfl⟩ dX2_nameOf_2 rfl (fun r_2 S2_2 h_2 => ?_)
  obtain ⟨v2, rfl, p_v2, q_v2⟩ := h_2
  obtain rfl := q_v2.symm
  refine v_istore_n C dX2_nameOf_5 (by decide) (by first | rfl | simp [okS, cat_rf]) ?_
  refine v_iload_n C dX2_nameOf_6 rfl ?_
  refine v_iconst (v := -1) C dX2_nameOf_7 (by decide) ?_
  refine v_icmp_ne (tgt := 15) C dX2_nameOf_8 (by decide) (fun c_8 => ?_) (fun c_8 => ?_)
  · skip
    refine v_aload_n C dX2_nameOf_15 rfl ?_
    obtain ⟨r16, e_r16, i_r16, m_r16⟩ := T136 iv i_this List.not_mem_nil
    refine r2_32 (b := r16) C i_this e_r16 dX2_nameOf_16 ?_
    refine v_iload_n C dX2_nameOf_19 rfl ?_
    refine v_iald C i_r16 (slot_or p_v2 c_8) dX2_nameOf_20 ?_
    refine v_topi (fun v20 e_v20 => ?_)
    refine v_iret C hr (Nat.le_of_ble_eq_true rfl) (Nat.le_of_ble_eq_true rfl) dX2_nameOf_21 ?_
    exact ⟨_, rfl, rfl⟩
  · skip
    refine v_iconst (v := -1) C dX2_nameOf_11 (by decide) ?_
    refine v_goto (tgt := 21) C dX2_nameOf_12 (by decide) ?_
    refine v_iret C hr (Nat.le_of_ble_eq_true rfl) (Nat.le_of_ble_eq_true rfl) dX2_nameOf_21 ?_
    exact ⟨_, rfl, rfl⟩
theorem dX2_originOf_0 : decode cX2_originOf 0 = .ok (.iload_n 1, 1) := by decide +kernel
theorem dX2_originOf_1 : decode cX2_originOf 1 = .ok (.iload_n 2, 1) := by decide +kernel
theorem dX2_originOf_2 : decode cX2_originOf 2 = .ok (.invokestatic 69, 3) := by decide +kernel
theorem dX2_originOf_5 : decode cX2_originOf 5 = .ok (.istore_n 3, 1) := by decide +kernel
theorem dX2_originOf_6 : decode cX2_originOf 6 = .ok (.iload_n 3, 1) := by decide +kernel
theorem dX2_originOf_7 : decode cX2_originOf 7 = .ok (.iconst (-1), 1) := by decide +kernel
theorem dX2_originOf_8 : decode cX2_originOf 8 = .ok (.if_icmp .ne 7, 3) := by decide +kernel
theorem dX2_originOf_11 : decode cX2_originOf 11 = .ok (.iconst (-1), 1) := by decide +kernel
theorem dX2_originOf_12 : decode cX2_originOf 12 = .ok (.goto 9, 3) := by decide +kernel
theorem dX2_originOf_15 : decode cX2_originOf 15 = .ok (.aload_n 0, 1) := by decide +kernel
theorem dX2_originOf_16 : decode cX2_originOf 16 = .ok (.getfield 35, 3) := by decide +kernel
theorem dX2_originOf_19 : decode cX2_originOf 19 = .ok (.iload_n 3, 1) := by decide +kernel
theorem dX2_originOf_20 : decode cX2_originOf 20 = .ok (.iaload, 1) := by decide +kernel
theorem dX2_originOf_21 : decode cX2_originOf 21 = .ok (.ireturn, 1) := by decide +kernel
set_option maxRecDepth 100000 in
set_option maxHeartbeats 4000000 in
theorem st_X2_originOf (l : Launch) (M : Nat → Prop) (h : Nat) (p0 : Int32) (p1 : Int32) : Ct l yX2_originOf cX2_originOf 4 (some .int) 1 0 0 22 (fun S av => av = [.ref h, .int p0, .int p1] ∧ INV M [] S ∧ is S h 2) (fun S _ r S' => ∃ v, r = some (.int v) ∧ S' = S) := by
  refine ct_of (by decide) (fun S av h => by obtain ⟨rfl, iv, i_this⟩ := h; exact Nat.le_of_ble_eq_true rfl) ?_
  intro p e s m args below meth c D G bs S av C hr hin hpre
  obtain ⟨rfl, iv, i_this⟩ := hpre
  refine v_iload_n C dX2_originOf_0 rfl ?_
  refine v_iload_n C dX2_originOf_1 rfl ?_
  refine v_callS (As := [_, _]) (n := 2) C (st_X2_slot l _ _) rfl ⟨wd436, wd437, wd271, wd438⟩ hy_X2_slot rfl ⟨Nat.le_of_ble_eq_true rfl, Nat.le_of_ble_eq_true rfl⟩ (Nat.le_of_ble_eq_true rfl) ⟨Nat.le_of_ble_eq_true rfl, Nat.le_of_ble_eq_true rfl⟩ dX2_originOf_2 rfl (fun r_2 S2_2 h_2 => ?_)
  obtain ⟨v2, rfl, p_v2, q_v2⟩ := h_2
  obtain rfl := q_v2.symm
  refine v_istore_n C dX2_originOf_5 (by decide) (by first | rfl | simp [okS, cat_rf]) ?_
  refine v_iload_n C dX2_originOf_6 rfl ?_
  refine v_iconst (v := -1) C dX2_originOf_7 (by decide) ?_
  refine v_icmp_ne (tgt := 15) C dX2_originOf_8 (by decide) (fun c_8 => ?_) (fun c_8 => ?_)
  · skip
    refine v_aload_n C dX2_originOf_15 rfl ?_
    obtain ⟨r16, e_r16, i_r16, m_r16⟩ := T137 iv i_this List.not_mem_nil
    refine r2_35 (b := r16) C i_this e_r16 dX2_originOf_16 ?_
    refine v_iload_n C dX2_originOf_19 rfl ?_
    refine v_iald C i_r16 (slot_or p_v2 c_8) dX2_originOf_20 ?_
    refine v_topi (fun v20 e_v20 => ?_)
    refine v_iret C hr (Nat.le_of_ble_eq_true rfl) (Nat.le_of_ble_eq_true rfl) dX2_originOf_21 ?_
    exact ⟨_, rfl, rfl⟩
  · skip
    refine v_iconst (v := -1) C dX2_originOf_11 (by decide) ?_
    refine v_goto (tgt := 21) C dX2_originOf_12 (by decide) ?_
    refine v_iret C hr (Nat.le_of_ble_eq_true rfl) (Nat.le_of_ble_eq_true rfl) dX2_originOf_21 ?_
    exact ⟨_, rfl, rfl⟩
theorem dX2_sourceOf_0 : decode cX2_sourceOf 0 = .ok (.iload_n 1, 1) := by decide +kernel
theorem dX2_sourceOf_1 : decode cX2_sourceOf 1 = .ok (.iload_n 2, 1) := by decide +kernel
theorem dX2_sourceOf_2 : decode cX2_sourceOf 2 = .ok (.invokestatic 69, 3) := by decide +kernel
theorem dX2_sourceOf_5 : decode cX2_sourceOf 5 = .ok (.istore_n 3, 1) := by decide +kernel
theorem dX2_sourceOf_6 : decode cX2_sourceOf 6 = .ok (.iload_n 3, 1) := by decide +kernel
theorem dX2_sourceOf_7 : decode cX2_sourceOf 7 = .ok (.iconst (-1), 1) := by decide +kernel
theorem dX2_sourceOf_8 : decode cX2_sourceOf 8 = .ok (.if_icmp .ne 5, 3) := by decide +kernel
theorem dX2_sourceOf_11 : decode cX2_sourceOf 11 = .ok (.iconst (-1), 1) := by decide +kernel
theorem dX2_sourceOf_12 : decode cX2_sourceOf 12 = .ok (.ireturn, 1) := by decide +kernel
theorem dX2_sourceOf_13 : decode cX2_sourceOf 13 = .ok (.aload_n 0, 1) := by decide +kernel
theorem dX2_sourceOf_14 : decode cX2_sourceOf 14 = .ok (.getfield 35, 3) := by decide +kernel
theorem dX2_sourceOf_17 : decode cX2_sourceOf 17 = .ok (.iload_n 3, 1) := by decide +kernel
theorem dX2_sourceOf_18 : decode cX2_sourceOf 18 = .ok (.iaload, 1) := by decide +kernel
theorem dX2_sourceOf_19 : decode cX2_sourceOf 19 = .ok (.iconst (-1), 1) := by decide +kernel
theorem dX2_sourceOf_20 : decode cX2_sourceOf 20 = .ok (.if_icmp .eq 10, 3) := by decide +kernel
theorem dX2_sourceOf_23 : decode cX2_sourceOf 23 = .ok (.aload_n 0, 1) := by decide +kernel
theorem dX2_sourceOf_24 : decode cX2_sourceOf 24 = .ok (.getfield 35, 3) := by decide +kernel
theorem dX2_sourceOf_27 : decode cX2_sourceOf 27 = .ok (.iload_n 3, 1) := by decide +kernel
theorem dX2_sourceOf_28 : decode cX2_sourceOf 28 = .ok (.iaload, 1) := by decide +kernel
theorem dX2_sourceOf_29 : decode cX2_sourceOf 29 = .ok (.ireturn, 1) := by decide +kernel
theorem dX2_sourceOf_30 : decode cX2_sourceOf 30 = .ok (.aload_n 0, 1) := by decide +kernel
theorem dX2_sourceOf_31 : decode cX2_sourceOf 31 = .ok (.getfield 28, 3) := by decide +kernel
theorem dX2_sourceOf_34 : decode cX2_sourceOf 34 = .ok (.iload_n 3, 1) := by decide +kernel
theorem dX2_sourceOf_35 : decode cX2_sourceOf 35 = .ok (.baload, 1) := by decide +kernel
theorem dX2_sourceOf_36 : decode cX2_sourceOf 36 = .ok (.ifCond .ne 13, 3) := by decide +kernel
theorem dX2_sourceOf_39 : decode cX2_sourceOf 39 = .ok (.aload_n 0, 1) := by decide +kernel
theorem dX2_sourceOf_40 : decode cX2_sourceOf 40 = .ok (.getfield 32, 3) := by decide +kernel
theorem dX2_sourceOf_43 : decode cX2_sourceOf 43 = .ok (.iload_n 3, 1) := by decide +kernel
theorem dX2_sourceOf_44 : decode cX2_sourceOf 44 = .ok (.iaload, 1) := by decide +kernel
theorem dX2_sourceOf_45 : decode cX2_sourceOf 45 = .ok (.iconst (-1), 1) := by decide +kernel
theorem dX2_sourceOf_46 : decode cX2_sourceOf 46 = .ok (.if_icmp .eq 7, 3) := by decide +kernel
theorem dX2_sourceOf_49 : decode cX2_sourceOf 49 = .ok (.iconst (-1), 1) := by decide +kernel
theorem dX2_sourceOf_50 : decode cX2_sourceOf 50 = .ok (.goto 4, 3) := by decide +kernel
theorem dX2_sourceOf_53 : decode cX2_sourceOf 53 = .ok (.iload_n 2, 1) := by decide +kernel
theorem dX2_sourceOf_54 : decode cX2_sourceOf 54 = .ok (.ireturn, 1) := by decide +kernel
set_option maxRecDepth 100000 in
set_option maxHeartbeats 4000000 in
theorem st_X2_sourceOf (l : Launch) (M : Nat → Prop) (h : Nat) (p0 : Int32) (p1 : Int32) : Ct l yX2_sourceOf cX2_sourceOf 4 (some .int) 1 0 0 22 (fun S av => av = [.ref h, .int p0, .int p1] ∧ INV M [] S ∧ is S h 2) (fun S _ r S' => ∃ v, r = some (.int v) ∧ S' = S) := by
  refine ct_of (by decide) (fun S av h => by obtain ⟨rfl, iv, i_this⟩ := h; exact Nat.le_of_ble_eq_true rfl) ?_
  intro p e s m args below meth c D G bs S av C hr hin hpre
  obtain ⟨rfl, iv, i_this⟩ := hpre
  refine v_iload_n C dX2_sourceOf_0 rfl ?_
  refine v_iload_n C dX2_sourceOf_1 rfl ?_
  refine v_callS (As := [_, _]) (n := 2) C (st_X2_slot l _ _) rfl ⟨wd436, wd437, wd271, wd438⟩ hy_X2_slot rfl ⟨Nat.le_of_ble_eq_true rfl, Nat.le_of_ble_eq_true rfl⟩ (Nat.le_of_ble_eq_true rfl) ⟨Nat.le_of_ble_eq_true rfl, Nat.le_of_ble_eq_true rfl⟩ dX2_sourceOf_2 rfl (fun r_2 S2_2 h_2 => ?_)
  obtain ⟨v2, rfl, p_v2, q_v2⟩ := h_2
  obtain rfl := q_v2.symm
  refine v_istore_n C dX2_sourceOf_5 (by decide) (by first | rfl | simp [okS, cat_rf]) ?_
  refine v_iload_n C dX2_sourceOf_6 rfl ?_
  refine v_iconst (v := -1) C dX2_sourceOf_7 (by decide) ?_
  refine v_icmp_ne (tgt := 13) C dX2_sourceOf_8 (by decide) (fun c_8 => ?_) (fun c_8 => ?_)
  · skip
    refine v_aload_n C dX2_sourceOf_13 rfl ?_
    obtain ⟨r14, e_r14, i_r14, m_r14⟩ := T137 iv i_this List.not_mem_nil
    refine r2_35 (b := r14) C i_this e_r14 dX2_sourceOf_14 ?_
    refine v_iload_n C dX2_sourceOf_17 rfl ?_
    refine v_iald C i_r14 (slot_or p_v2 c_8) dX2_sourceOf_18 ?_
    refine v_topi (fun v18 e_v18 => ?_)
    refine v_iconst (v := -1) C dX2_sourceOf_19 (by decide) ?_
    refine v_icmp_eq (tgt := 30) C dX2_sourceOf_20 (by decide) (fun c_20 => ?_) (fun c_20 => ?_)
    · skip
      refine v_aload_n C dX2_sourceOf_30 rfl ?_
      obtain ⟨r31, e_r31, i_r31, m_r31⟩ := T134 iv i_this List.not_mem_nil
      refine r2_28 (b := r31) C i_this e_r31 dX2_sourceOf_31 ?_
      refine v_iload_n C dX2_sourceOf_34 rfl ?_
      refine v_zald C i_r31 (slot_or p_v2 c_8) dX2_sourceOf_35 ?_
      refine v_topi (fun v35 e_v35 => ?_)
      refine v_if_ne (tgt := 49) C dX2_sourceOf_36 (by decide) (fun c_36 => ?_) (fun c_36 => ?_)
      · skip
        refine v_iconst (v := -1) C dX2_sourceOf_49 (by decide) ?_
        refine v_goto (tgt := 54) C dX2_sourceOf_50 (by decide) ?_
        refine v_iret C hr (Nat.le_of_ble_eq_true rfl) (Nat.le_of_ble_eq_true rfl) dX2_sourceOf_54 ?_
        exact ⟨_, rfl, rfl⟩
      · skip
        refine v_aload_n C dX2_sourceOf_39 rfl ?_
        obtain ⟨r40, e_r40, i_r40, m_r40⟩ := T136 iv i_this List.not_mem_nil
        refine r2_32 (b := r40) C i_this e_r40 dX2_sourceOf_40 ?_
        refine v_iload_n C dX2_sourceOf_43 rfl ?_
        refine v_iald C i_r40 (slot_or p_v2 c_8) dX2_sourceOf_44 ?_
        refine v_topi (fun v44 e_v44 => ?_)
        refine v_iconst (v := -1) C dX2_sourceOf_45 (by decide) ?_
        refine v_icmp_eq (tgt := 53) C dX2_sourceOf_46 (by decide) (fun c_46 => ?_) (fun c_46 => ?_)
        · skip
          refine v_iload_n C dX2_sourceOf_53 rfl ?_
          refine v_iret C hr (Nat.le_of_ble_eq_true rfl) (Nat.le_of_ble_eq_true rfl) dX2_sourceOf_54 ?_
          exact ⟨_, rfl, rfl⟩
        · skip
          refine v_iconst (v := -1) C dX2_sourceOf_49 (by decide) ?_
          refine v_goto (tgt := 54) C dX2_sourceOf_50 (by decide) ?_
          refine v_iret C hr (Nat.le_of_ble_eq_true rfl) (Nat.le_of_ble_eq_true rfl) dX2_sourceOf_54 ?_
          exact ⟨_, rfl, rfl⟩
    · skip
      refine v_aload_n C dX2_sourceOf_23 rfl ?_
      obtain ⟨r24, e_r24, i_r24, m_r24⟩ := T137 iv i_this List.not_mem_nil
      refine r2_35 (b := r24) C i_this e_r24 dX2_sourceOf_24 ?_
      refine v_iload_n C dX2_sourceOf_27 rfl ?_
      refine v_iald C i_r24 (slot_or p_v2 c_8) dX2_sourceOf_28 ?_
      refine v_topi (fun v28 e_v28 => ?_)
      refine v_iret C hr (Nat.le_of_ble_eq_true rfl) (Nat.le_of_ble_eq_true rfl) dX2_sourceOf_29 ?_
      exact ⟨_, rfl, rfl⟩
  · skip
    refine v_iconst (v := -1) C dX2_sourceOf_11 (by decide) ?_
    refine v_iret C hr (Nat.le_of_ble_eq_true rfl) (Nat.le_of_ble_eq_true rfl) dX2_sourceOf_12 ?_
    exact ⟨_, rfl, rfl⟩
theorem dX2_addTaken_0 : decode cX2_addTaken 0 = .ok (.aload_n 0, 1) := by decide +kernel
theorem dX2_addTaken_1 : decode cX2_addTaken 1 = .ok (.getfield 58, 3) := by decide +kernel
theorem dX2_addTaken_4 : decode cX2_addTaken 4 = .ok (.iconst 5, 1) := by decide +kernel
theorem dX2_addTaken_5 : decode cX2_addTaken 5 = .ok (.invokestatic 61, 3) := by decide +kernel
theorem dX2_addTaken_8 : decode cX2_addTaken 8 = .ok (.ifCond .eq 23, 3) := by decide +kernel
theorem dX2_addTaken_11 : decode cX2_addTaken 11 = .ok (.aload_n 0, 1) := by decide +kernel
theorem dX2_addTaken_12 : decode cX2_addTaken 12 = .ok (.getfield 18, 3) := by decide +kernel
theorem dX2_addTaken_15 : decode cX2_addTaken 15 = .ok (.aload_n 0, 1) := by decide +kernel
theorem dX2_addTaken_16 : decode cX2_addTaken 16 = .ok (.getfield 58, 3) := by decide +kernel
theorem dX2_addTaken_19 : decode cX2_addTaken 19 = .ok (.iload_n 1, 1) := by decide +kernel
theorem dX2_addTaken_20 : decode cX2_addTaken 20 = .ok (.iastore, 1) := by decide +kernel
theorem dX2_addTaken_21 : decode cX2_addTaken 21 = .ok (.aload_n 0, 1) := by decide +kernel
theorem dX2_addTaken_22 : decode cX2_addTaken 22 = .ok (.dup, 1) := by decide +kernel
theorem dX2_addTaken_23 : decode cX2_addTaken 23 = .ok (.getfield 58, 3) := by decide +kernel
theorem dX2_addTaken_26 : decode cX2_addTaken 26 = .ok (.iconst 1, 1) := by decide +kernel
theorem dX2_addTaken_27 : decode cX2_addTaken 27 = .ok (.iadd, 1) := by decide +kernel
theorem dX2_addTaken_28 : decode cX2_addTaken 28 = .ok (.putfield 58, 3) := by decide +kernel
theorem dX2_addTaken_31 : decode cX2_addTaken 31 = .ok (.return_, 1) := by decide +kernel
set_option maxRecDepth 100000 in
set_option maxHeartbeats 4000000 in
theorem st_X2_addTaken (l : Launch) (M : Nat → Prop) (h : Nat) (p0 : Int32) : Ct l yX2_addTaken cX2_addTaken 2 none 1 0 0 21 (fun S av => av = [.ref h, .int p0] ∧ INV M [] S ∧ is S h 2) (fun S _ r S' => r = none ∧ INV M [] S' ∧ ext S S' (fun a => ¬ M a ∧ mK S a ∈ [2, 11])) := by
  refine ct_of (by decide) (fun S av h => by obtain ⟨rfl, iv, i_this⟩ := h; exact Nat.le_of_ble_eq_true rfl) ?_
  intro p e s m args below meth c D G bs S av C hr hin hpre
  obtain ⟨rfl, iv, i_this⟩ := hpre
  have E0 : ext S S (fun a => ¬ M a ∧ mK S a ∈ [2, 11]) := ext_rfl
  refine v_aload_n C dX2_addTaken_0 rfl ?_
  refine g2_58 C i_this dX2_addTaken_1 ?_
  refine v_topi (fun v1 e_v1 => ?_)
  refine v_iconst (v := 5) C dX2_addTaken_4 (by decide) ?_
  refine v_callSN (As := [_, _]) (n := 2) C (sb_isBelow l _ _) rfl ⟨(by decide +kernel), wd141, wd2, wd142⟩ hy_X9_isBelow rfl ⟨Nat.le_of_ble_eq_true rfl, Nat.le_of_ble_eq_true rfl⟩ (Nat.le_of_ble_eq_true rfl) ⟨Nat.le_of_ble_eq_true rfl, Nat.le_of_ble_eq_true rfl⟩ dX2_addTaken_5 rfl (fun r_5 S2_5 h_5 => ?_)
  obtain ⟨v5, rfl, p_v5, q_v5⟩ := h_5
  obtain rfl := q_v5.symm
  refine v_if_eq (tgt := 31) C dX2_addTaken_8 (by decide) (fun c_8 => ?_) (fun c_8 => ?_)
  · skip
    refine v_vret C hr (Nat.le_of_ble_eq_true rfl) (Nat.le_of_ble_eq_true rfl) dX2_addTaken_31 ?_
    exact ⟨rfl, iv, E0⟩
  · skip
    refine v_aload_n C dX2_addTaken_11 rfl ?_
    obtain ⟨r12, e_r12, i_r12, m_r12⟩ := T131 iv i_this List.not_mem_nil
    refine r2_18 (b := r12) C i_this e_r12 dX2_addTaken_12 ?_
    refine v_aload_n C dX2_addTaken_15 rfl ?_
    refine g2_58 C i_this dX2_addTaken_16 ?_
    refine v_topi (fun v16 e_v16 => ?_)
    refine v_iload_n C dX2_addTaken_19 rfl ?_
    refine v_iast C i_r12 (eq_in (e_v16.trans e_v1.symm) (bI_ne p_v5 c_8 rfl)) dX2_addTaken_20 ?_
    refine V.gen (fun S4_20 e_20 => ?_)
    have iv' := inv_sA e_20 iv
    have x_20 := x_sA e_20
    have E0' := ext_tr E0 x_20 (xk_A E0 i_r12 m_r12 (by decide))
    have E0 := E0'
    have i_this := is_ext x_20 i_this
    have i_r12 := isA_ext x_20 i_r12
    have iv := iv'
    refine v_aload_n C dX2_addTaken_21 rfl ?_
    refine v_dup C dX2_addTaken_22 rfl ?_
    refine g2_58 C i_this dX2_addTaken_23 ?_
    refine v_topi (fun v23 e_v23 => ?_)
    refine v_iconst (v := 1) C dX2_addTaken_26 (by decide) ?_
    refine v_iadd C dX2_addTaken_27 ?_
    refine p2_58 C i_this dX2_addTaken_28 ?_
    refine V.gen (fun S4_28 e_28 => ?_)
    have iv' := inv_sI e_28 iv (by decide) (by decide)
    have x_28 := x_sI e_28
    have E0' := ext_tr E0 x_28 (xk_is E0 i_this iv (by decide) (by decide))
    have E0 := E0'
    have i_this := is_ext x_28 i_this
    have i_r12 := isA_ext x_28 i_r12
    have iv := iv'
    refine v_vret C hr (Nat.le_of_ble_eq_true rfl) (Nat.le_of_ble_eq_true rfl) dX2_addTaken_31 ?_
    exact ⟨rfl, iv, E0⟩
theorem dX2_addLeft_0 : decode cX2_addLeft 0 = .ok (.iload_n 1, 1) := by decide +kernel
theorem dX2_addLeft_1 : decode cX2_addLeft 1 = .ok (.iload_n 2, 1) := by decide +kernel
theorem dX2_addLeft_2 : decode cX2_addLeft 2 = .ok (.invokestatic 69, 3) := by decide +kernel
theorem dX2_addLeft_5 : decode cX2_addLeft 5 = .ok (.istore_n 3, 1) := by decide +kernel
theorem dX2_addLeft_6 : decode cX2_addLeft 6 = .ok (.iload_n 3, 1) := by decide +kernel
theorem dX2_addLeft_7 : decode cX2_addLeft 7 = .ok (.iconst (-1), 1) := by decide +kernel
theorem dX2_addLeft_8 : decode cX2_addLeft 8 = .ok (.if_icmp .eq 20, 3) := by decide +kernel
theorem dX2_addLeft_11 : decode cX2_addLeft 11 = .ok (.aload_n 0, 1) := by decide +kernel
theorem dX2_addLeft_12 : decode cX2_addLeft 12 = .ok (.getfield 28, 3) := by decide +kernel
theorem dX2_addLeft_15 : decode cX2_addLeft 15 = .ok (.iload_n 3, 1) := by decide +kernel
theorem dX2_addLeft_16 : decode cX2_addLeft 16 = .ok (.iconst 1, 1) := by decide +kernel
theorem dX2_addLeft_17 : decode cX2_addLeft 17 = .ok (.bastore, 1) := by decide +kernel
theorem dX2_addLeft_18 : decode cX2_addLeft 18 = .ok (.aload_n 0, 1) := by decide +kernel
theorem dX2_addLeft_19 : decode cX2_addLeft 19 = .ok (.dup, 1) := by decide +kernel
theorem dX2_addLeft_20 : decode cX2_addLeft 20 = .ok (.getfield 73, 3) := by decide +kernel
theorem dX2_addLeft_23 : decode cX2_addLeft 23 = .ok (.iconst 1, 1) := by decide +kernel
theorem dX2_addLeft_24 : decode cX2_addLeft 24 = .ok (.iadd, 1) := by decide +kernel
theorem dX2_addLeft_25 : decode cX2_addLeft 25 = .ok (.putfield 73, 3) := by decide +kernel
theorem dX2_addLeft_28 : decode cX2_addLeft 28 = .ok (.iconst 1, 1) := by decide +kernel
theorem dX2_addLeft_29 : decode cX2_addLeft 29 = .ok (.ireturn, 1) := by decide +kernel
set_option maxRecDepth 100000 in
set_option maxHeartbeats 4000000 in
theorem st_X2_addLeft (l : Launch) (M : Nat → Prop) (h : Nat) (p0 : Int32) (p1 : Int32) : Ct l yX2_addLeft cX2_addLeft 4 (some .int) 1 0 0 22 (fun S av => av = [.ref h, .int p0, .int p1] ∧ INV M [] S ∧ is S h 2) (fun S _ r S' => ∃ v, r = some (.int v) ∧ INV M [] S' ∧ ext S S' (fun a => ¬ M a ∧ mK S a ∈ [2, 13])) := by
  refine ct_of (by decide) (fun S av h => by obtain ⟨rfl, iv, i_this⟩ := h; exact Nat.le_of_ble_eq_true rfl) ?_
  intro p e s m args below meth c D G bs S av C hr hin hpre
  obtain ⟨rfl, iv, i_this⟩ := hpre
  have E0 : ext S S (fun a => ¬ M a ∧ mK S a ∈ [2, 13]) := ext_rfl
  refine v_iload_n C dX2_addLeft_0 rfl ?_
  refine v_iload_n C dX2_addLeft_1 rfl ?_
  refine v_callS (As := [_, _]) (n := 2) C (st_X2_slot l _ _) rfl ⟨wd436, wd437, wd271, wd438⟩ hy_X2_slot rfl ⟨Nat.le_of_ble_eq_true rfl, Nat.le_of_ble_eq_true rfl⟩ (Nat.le_of_ble_eq_true rfl) ⟨Nat.le_of_ble_eq_true rfl, Nat.le_of_ble_eq_true rfl⟩ dX2_addLeft_2 rfl (fun r_2 S2_2 h_2 => ?_)
  obtain ⟨v2, rfl, p_v2, q_v2⟩ := h_2
  obtain rfl := q_v2.symm
  refine v_istore_n C dX2_addLeft_5 (by decide) (by first | rfl | simp [okS, cat_rf]) ?_
  refine v_iload_n C dX2_addLeft_6 rfl ?_
  refine v_iconst (v := -1) C dX2_addLeft_7 (by decide) ?_
  refine v_icmp_eq (tgt := 28) C dX2_addLeft_8 (by decide) (fun c_8 => ?_) (fun c_8 => ?_)
  · skip
    refine v_iconst (v := 1) C dX2_addLeft_28 (by decide) ?_
    refine v_iret C hr (Nat.le_of_ble_eq_true rfl) (Nat.le_of_ble_eq_true rfl) dX2_addLeft_29 ?_
    exact ⟨_, rfl, iv, E0⟩
  · skip
    refine v_aload_n C dX2_addLeft_11 rfl ?_
    obtain ⟨r12, e_r12, i_r12, m_r12⟩ := T134 iv i_this List.not_mem_nil
    refine r2_28 (b := r12) C i_this e_r12 dX2_addLeft_12 ?_
    refine v_iload_n C dX2_addLeft_15 rfl ?_
    refine v_iconst (v := 1) C dX2_addLeft_16 (by decide) ?_
    refine v_zast C i_r12 (slot_or p_v2 c_8) rfl dX2_addLeft_17 ?_
    refine V.gen (fun S4_17 e_17 => ?_)
    have iv' := inv_sA e_17 iv
    have x_17 := x_sA e_17
    have E0' := ext_tr E0 x_17 (xk_A E0 i_r12 m_r12 (by decide))
    have E0 := E0'
    have i_this := is_ext x_17 i_this
    have i_r12 := isA_ext x_17 i_r12
    have iv := iv'
    refine v_aload_n C dX2_addLeft_18 rfl ?_
    refine v_dup C dX2_addLeft_19 rfl ?_
    refine g2_73 C i_this dX2_addLeft_20 ?_
    refine v_topi (fun v20 e_v20 => ?_)
    refine v_iconst (v := 1) C dX2_addLeft_23 (by decide) ?_
    refine v_iadd C dX2_addLeft_24 ?_
    refine p2_73 C i_this dX2_addLeft_25 ?_
    refine V.gen (fun S4_25 e_25 => ?_)
    have iv' := inv_sI e_25 iv (by decide) (by decide)
    have x_25 := x_sI e_25
    have E0' := ext_tr E0 x_25 (xk_is E0 i_this iv (by decide) (by decide))
    have E0 := E0'
    have i_this := is_ext x_25 i_this
    have i_r12 := isA_ext x_25 i_r12
    have iv := iv'
    refine v_iconst (v := 1) C dX2_addLeft_28 (by decide) ?_
    refine v_iret C hr (Nat.le_of_ble_eq_true rfl) (Nat.le_of_ble_eq_true rfl) dX2_addLeft_29 ?_
    exact ⟨_, rfl, iv, E0⟩
theorem dX2_addRenamed_0 : decode cX2_addRenamed 0 = .ok (.iload_n 1, 1) := by decide +kernel
theorem dX2_addRenamed_1 : decode cX2_addRenamed 1 = .ok (.iload_n 2, 1) := by decide +kernel
theorem dX2_addRenamed_2 : decode cX2_addRenamed 2 = .ok (.invokestatic 69, 3) := by decide +kernel
theorem dX2_addRenamed_5 : decode cX2_addRenamed 5 = .ok (.istore 4, 2) := by decide +kernel
theorem dX2_addRenamed_7 : decode cX2_addRenamed 7 = .ok (.iload_n 1, 1) := by decide +kernel
theorem dX2_addRenamed_8 : decode cX2_addRenamed 8 = .ok (.iload_n 3, 1) := by decide +kernel
theorem dX2_addRenamed_9 : decode cX2_addRenamed 9 = .ok (.invokestatic 69, 3) := by decide +kernel
theorem dX2_addRenamed_12 : decode cX2_addRenamed 12 = .ok (.istore 5, 2) := by decide +kernel
theorem dX2_addRenamed_14 : decode cX2_addRenamed 14 = .ok (.iload 4, 2) := by decide +kernel
theorem dX2_addRenamed_16 : decode cX2_addRenamed 16 = .ok (.iconst (-1), 1) := by decide +kernel
theorem dX2_addRenamed_17 : decode cX2_addRenamed 17 = .ok (.if_icmp .eq 35, 3) := by decide +kernel
theorem dX2_addRenamed_20 : decode cX2_addRenamed 20 = .ok (.iload 5, 2) := by decide +kernel
theorem dX2_addRenamed_22 : decode cX2_addRenamed 22 = .ok (.iconst (-1), 1) := by decide +kernel
theorem dX2_addRenamed_23 : decode cX2_addRenamed 23 = .ok (.if_icmp .eq 29, 3) := by decide +kernel
theorem dX2_addRenamed_26 : decode cX2_addRenamed 26 = .ok (.aload_n 0, 1) := by decide +kernel
theorem dX2_addRenamed_27 : decode cX2_addRenamed 27 = .ok (.getfield 32, 3) := by decide +kernel
theorem dX2_addRenamed_30 : decode cX2_addRenamed 30 = .ok (.iload 4, 2) := by decide +kernel
theorem dX2_addRenamed_32 : decode cX2_addRenamed 32 = .ok (.iload_n 3, 1) := by decide +kernel
theorem dX2_addRenamed_33 : decode cX2_addRenamed 33 = .ok (.iastore, 1) := by decide +kernel
theorem dX2_addRenamed_34 : decode cX2_addRenamed 34 = .ok (.aload_n 0, 1) := by decide +kernel
theorem dX2_addRenamed_35 : decode cX2_addRenamed 35 = .ok (.getfield 35, 3) := by decide +kernel
theorem dX2_addRenamed_38 : decode cX2_addRenamed 38 = .ok (.iload 5, 2) := by decide +kernel
theorem dX2_addRenamed_40 : decode cX2_addRenamed 40 = .ok (.iload_n 2, 1) := by decide +kernel
theorem dX2_addRenamed_41 : decode cX2_addRenamed 41 = .ok (.iastore, 1) := by decide +kernel
theorem dX2_addRenamed_42 : decode cX2_addRenamed 42 = .ok (.aload_n 0, 1) := by decide +kernel
theorem dX2_addRenamed_43 : decode cX2_addRenamed 43 = .ok (.dup, 1) := by decide +kernel
theorem dX2_addRenamed_44 : decode cX2_addRenamed 44 = .ok (.getfield 76, 3) := by decide +kernel
theorem dX2_addRenamed_47 : decode cX2_addRenamed 47 = .ok (.iconst 1, 1) := by decide +kernel
theorem dX2_addRenamed_48 : decode cX2_addRenamed 48 = .ok (.iadd, 1) := by decide +kernel
theorem dX2_addRenamed_49 : decode cX2_addRenamed 49 = .ok (.putfield 76, 3) := by decide +kernel
theorem dX2_addRenamed_52 : decode cX2_addRenamed 52 = .ok (.iconst 1, 1) := by decide +kernel
theorem dX2_addRenamed_53 : decode cX2_addRenamed 53 = .ok (.ireturn, 1) := by decide +kernel
set_option maxRecDepth 100000 in
set_option maxHeartbeats 4000000 in
theorem st_X2_addRenamed (l : Launch) (M : Nat → Prop) (h : Nat) (p0 : Int32) (p1 : Int32) (p2 : Int32) : Ct l yX2_addRenamed cX2_addRenamed 6 (some .int) 1 0 0 22 (fun S av => av = [.ref h, .int p0, .int p1, .int p2] ∧ INV M [] S ∧ is S h 2) (fun S _ r S' => ∃ v, r = some (.int v) ∧ INV M [] S' ∧ ext S S' (fun a => ¬ M a ∧ mK S a ∈ [2, 11])) := by
  refine ct_of (by decide) (fun S av h => by obtain ⟨rfl, iv, i_this⟩ := h; exact Nat.le_of_ble_eq_true rfl) ?_
  intro p e s m args below meth c D G bs S av C hr hin hpre
  obtain ⟨rfl, iv, i_this⟩ := hpre
  have E0 : ext S S (fun a => ¬ M a ∧ mK S a ∈ [2, 11]) := ext_rfl
  refine v_iload_n C dX2_addRenamed_0 rfl ?_
  refine v_iload_n C dX2_addRenamed_1 rfl ?_
  refine v_callS (As := [_, _]) (n := 2) C (st_X2_slot l _ _) rfl ⟨wd436, wd437, wd271, wd438⟩ hy_X2_slot rfl ⟨Nat.le_of_ble_eq_true rfl, Nat.le_of_ble_eq_true rfl⟩ (Nat.le_of_ble_eq_true rfl) ⟨Nat.le_of_ble_eq_true rfl, Nat.le_of_ble_eq_true rfl⟩ dX2_addRenamed_2 rfl (fun r_2 S2_2 h_2 => ?_)
  obtain ⟨v2, rfl, p_v2, q_v2⟩ := h_2
  obtain rfl := q_v2.symm
  refine v_istore C dX2_addRenamed_5 (by decide) (by first | rfl | simp [okS, cat_rf]) ?_
  refine v_iload_n C dX2_addRenamed_7 rfl ?_
  refine v_iload_n C dX2_addRenamed_8 rfl ?_
  refine v_callS (As := [_, _]) (n := 2) C (st_X2_slot l _ _) rfl ⟨wd436, wd437, wd271, wd438⟩ hy_X2_slot rfl ⟨Nat.le_of_ble_eq_true rfl, Nat.le_of_ble_eq_true rfl⟩ (Nat.le_of_ble_eq_true rfl) ⟨Nat.le_of_ble_eq_true rfl, Nat.le_of_ble_eq_true rfl⟩ dX2_addRenamed_9 rfl (fun r_9 S2_9 h_9 => ?_)
  obtain ⟨v9, rfl, p_v9, q_v9⟩ := h_9
  obtain rfl := q_v9.symm
  refine v_istore C dX2_addRenamed_12 (by decide) (by first | rfl | simp [okS, cat_rf]) ?_
  refine v_iload C dX2_addRenamed_14 rfl ?_
  refine v_iconst (v := -1) C dX2_addRenamed_16 (by decide) ?_
  refine v_icmp_eq (tgt := 52) C dX2_addRenamed_17 (by decide) (fun c_17 => ?_) (fun c_17 => ?_)
  · skip
    refine v_iconst (v := 1) C dX2_addRenamed_52 (by decide) ?_
    refine v_iret C hr (Nat.le_of_ble_eq_true rfl) (Nat.le_of_ble_eq_true rfl) dX2_addRenamed_53 ?_
    exact ⟨_, rfl, iv, E0⟩
  · skip
    refine v_iload C dX2_addRenamed_20 rfl ?_
    refine v_iconst (v := -1) C dX2_addRenamed_22 (by decide) ?_
    refine v_icmp_eq (tgt := 52) C dX2_addRenamed_23 (by decide) (fun c_23 => ?_) (fun c_23 => ?_)
    · skip
      refine v_iconst (v := 1) C dX2_addRenamed_52 (by decide) ?_
      refine v_iret C hr (Nat.le_of_ble_eq_true rfl) (Nat.le_of_ble_eq_true rfl) dX2_addRenamed_53 ?_
      exact ⟨_, rfl, iv, E0⟩
    · skip
      refine v_aload_n C dX2_addRenamed_26 rfl ?_
      obtain ⟨r27, e_r27, i_r27, m_r27⟩ := T136 iv i_this List.not_mem_nil
      refine r2_32 (b := r27) C i_this e_r27 dX2_addRenamed_27 ?_
      refine v_iload C dX2_addRenamed_30 rfl ?_
      refine v_iload_n C dX2_addRenamed_32 rfl ?_
      refine v_iast C i_r27 (slot_or p_v2 c_17) dX2_addRenamed_33 ?_
      refine V.gen (fun S6_33 e_33 => ?_)
      have iv' := inv_sA e_33 iv
      have x_33 := x_sA e_33
      have E0' := ext_tr E0 x_33 (xk_A E0 i_r27 m_r27 (by decide))
      have E0 := E0'
      have i_this := is_ext x_33 i_this
      have i_r27 := isA_ext x_33 i_r27
      have iv := iv'
      refine v_aload_n C dX2_addRenamed_34 rfl ?_
      obtain ⟨r35, e_r35, i_r35, m_r35⟩ := T137 iv i_this List.not_mem_nil
      refine r2_35 (b := r35) C i_this e_r35 dX2_addRenamed_35 ?_
      refine v_iload C dX2_addRenamed_38 rfl ?_
      refine v_iload_n C dX2_addRenamed_40 rfl ?_
      refine v_iast C i_r35 (slot_or p_v9 c_23) dX2_addRenamed_41 ?_
      refine V.gen (fun S6_41 e_41 => ?_)
      have iv' := inv_sA e_41 iv
      have x_41 := x_sA e_41
      have E0' := ext_tr E0 x_41 (xk_A E0 i_r35 m_r35 (by decide))
      have E0 := E0'
      have i_this := is_ext x_41 i_this
      have i_r27 := isA_ext x_41 i_r27
      have i_r35 := isA_ext x_41 i_r35
      have iv := iv'
      refine v_aload_n C dX2_addRenamed_42 rfl ?_
      refine v_dup C dX2_addRenamed_43 rfl ?_
      refine g2_76 C i_this dX2_addRenamed_44 ?_
      refine v_topi (fun v44 e_v44 => ?_)
      refine v_iconst (v := 1) C dX2_addRenamed_47 (by decide) ?_
      refine v_iadd C dX2_addRenamed_48 ?_
      refine p2_76 C i_this dX2_addRenamed_49 ?_
      refine V.gen (fun S6_49 e_49 => ?_)
      have iv' := inv_sI e_49 iv (by decide) (by decide)
      have x_49 := x_sI e_49
      have E0' := ext_tr E0 x_49 (xk_is E0 i_this iv (by decide) (by decide))
      have E0 := E0'
      have i_this := is_ext x_49 i_this
      have i_r27 := isA_ext x_49 i_r27
      have i_r35 := isA_ext x_49 i_r35
      have iv := iv'
      refine v_iconst (v := 1) C dX2_addRenamed_52 (by decide) ?_
      refine v_iret C hr (Nat.le_of_ble_eq_true rfl) (Nat.le_of_ble_eq_true rfl) dX2_addRenamed_53 ?_
      exact ⟨_, rfl, iv, E0⟩
theorem dX2_swapPreferred_0 : decode cX2_swapPreferred 0 = .ok (.aload_n 0, 1) := by decide +kernel
theorem dX2_swapPreferred_1 : decode cX2_swapPreferred 1 = .ok (.iload_n 1, 1) := by decide +kernel
theorem dX2_swapPreferred_2 : decode cX2_swapPreferred 2 = .ok (.invokevirtual 79, 3) := by decide +kernel
theorem dX2_swapPreferred_5 : decode cX2_swapPreferred 5 = .ok (.istore_n 3, 1) := by decide +kernel
theorem dX2_swapPreferred_6 : decode cX2_swapPreferred 6 = .ok (.iload_n 1, 1) := by decide +kernel
theorem dX2_swapPreferred_7 : decode cX2_swapPreferred 7 = .ok (.bipush 12, 2) := by decide +kernel
theorem dX2_swapPreferred_9 : decode cX2_swapPreferred 9 = .ok (.invokestatic 61, 3) := by decide +kernel
theorem dX2_swapPreferred_12 : decode cX2_swapPreferred 12 = .ok (.ifCond .eq 10, 3) := by decide +kernel
theorem dX2_swapPreferred_15 : decode cX2_swapPreferred 15 = .ok (.aload_n 0, 1) := by decide +kernel
theorem dX2_swapPreferred_16 : decode cX2_swapPreferred 16 = .ok (.getfield 38, 3) := by decide +kernel
theorem dX2_swapPreferred_19 : decode cX2_swapPreferred 19 = .ok (.iload_n 1, 1) := by decide +kernel
theorem dX2_swapPreferred_20 : decode cX2_swapPreferred 20 = .ok (.iload_n 2, 1) := by decide +kernel
theorem dX2_swapPreferred_21 : decode cX2_swapPreferred 21 = .ok (.iastore, 1) := by decide +kernel
theorem dX2_swapPreferred_22 : decode cX2_swapPreferred 22 = .ok (.iload_n 3, 1) := by decide +kernel
theorem dX2_swapPreferred_23 : decode cX2_swapPreferred 23 = .ok (.ireturn, 1) := by decide +kernel
set_option maxRecDepth 100000 in
set_option maxHeartbeats 4000000 in
theorem st_X2_swapPreferred (l : Launch) (M : Nat → Prop) (h : Nat) (p0 : Int32) (p1 : Int32) : Ct l yX2_swapPreferred cX2_swapPreferred 4 (some .int) 2 0 0 42 (fun S av => av = [.ref h, .int p0, .int p1] ∧ INV M [] S ∧ is S h 2) (fun S _ r S' => ∃ v, r = some (.int v) ∧ INV M [] S' ∧ ext S S' (fun a => ¬ M a ∧ mK S a ∈ [11])) := by
  refine ct_of (by decide) (fun S av h => by obtain ⟨rfl, iv, i_this⟩ := h; exact Nat.le_of_ble_eq_true rfl) ?_
  intro p e s m args below meth c D G bs S av C hr hin hpre
  obtain ⟨rfl, iv, i_this⟩ := hpre
  have E0 : ext S S (fun a => ¬ M a ∧ mK S a ∈ [11]) := ext_rfl
  refine v_aload_n C dX2_swapPreferred_0 rfl ?_
  refine v_iload_n C dX2_swapPreferred_1 rfl ?_
  refine v_callV (As := [_]) (n := 1) C (st_X2_preferredFor l _ _ _) rfl i_this (by decide) rfl ⟨wd490, wd491, wd492, wd271, wd493⟩ ⟨rfl, hy_X2_preferredFor⟩ rfl ⟨Nat.le_of_ble_eq_true rfl, Nat.le_of_ble_eq_true rfl⟩ (Nat.le_of_ble_eq_true rfl) ⟨Nat.le_of_ble_eq_true rfl, Nat.le_of_ble_eq_true rfl⟩ dX2_swapPreferred_2 ⟨rfl, iv, i_this⟩ (fun r_2 S2_2 h_2 => ?_)
  obtain ⟨v2, rfl, q_v2⟩ := h_2
  obtain rfl := q_v2.symm
  refine v_istore_n C dX2_swapPreferred_5 (by decide) (by first | rfl | simp [okS, cat_rf]) ?_
  refine v_iload_n C dX2_swapPreferred_6 rfl ?_
  refine v_bipush (v := 12) C dX2_swapPreferred_7 (by decide) ?_
  refine v_callSN (As := [_, _]) (n := 2) C (sb_isBelow l _ _) rfl ⟨(by decide +kernel), wd141, wd2, wd142⟩ hy_X9_isBelow rfl ⟨Nat.le_of_ble_eq_true rfl, Nat.le_of_ble_eq_true rfl⟩ (Nat.le_of_ble_eq_true rfl) ⟨Nat.le_of_ble_eq_true rfl, Nat.le_of_ble_eq_true rfl⟩ dX2_swapPreferred_9 rfl (fun r_9 S2_9 h_9 => ?_)
  obtain ⟨v9, rfl, p_v9, q_v9⟩ := h_9
  obtain rfl := q_v9.symm
  refine v_if_eq (tgt := 22) C dX2_swapPreferred_12 (by decide) (fun c_12 => ?_) (fun c_12 => ?_)
  · skip
    refine v_iload_n C dX2_swapPreferred_22 rfl ?_
    refine v_iret C hr (Nat.le_of_ble_eq_true rfl) (Nat.le_of_ble_eq_true rfl) dX2_swapPreferred_23 ?_
    exact ⟨_, rfl, iv, E0⟩
  · skip
    refine v_aload_n C dX2_swapPreferred_15 rfl ?_
    obtain ⟨r16, e_r16, i_r16, m_r16⟩ := T139 iv i_this List.not_mem_nil
    refine r2_38 (b := r16) C i_this e_r16 dX2_swapPreferred_16 ?_
    refine v_iload_n C dX2_swapPreferred_19 rfl ?_
    refine v_iload_n C dX2_swapPreferred_20 rfl ?_
    refine v_iast C i_r16 (bI_ne p_v9 c_12 rfl) dX2_swapPreferred_21 ?_
    refine V.gen (fun S4_21 e_21 => ?_)
    have iv' := inv_sA e_21 iv
    have x_21 := x_sA e_21
    have E0' := ext_tr E0 x_21 (xk_A E0 i_r16 m_r16 (by decide))
    have E0 := E0'
    have i_this := is_ext x_21 i_this
    have i_r16 := isA_ext x_21 i_r16
    have iv := iv'
    refine v_iload_n C dX2_swapPreferred_22 rfl ?_
    refine v_iret C hr (Nat.le_of_ble_eq_true rfl) (Nat.le_of_ble_eq_true rfl) dX2_swapPreferred_23 ?_
    exact ⟨_, rfl, iv, E0⟩
theorem dX8_countBodies_0 : decode cX8_countBodies 0 = .ok (.iconst 0, 1) := by decide +kernel
theorem dX8_countBodies_1 : decode cX8_countBodies 1 = .ok (.istore_n 1, 1) := by decide +kernel
theorem dX8_countBodies_2 : decode cX8_countBodies 2 = .ok (.iconst 0, 1) := by decide +kernel
theorem dX8_countBodies_3 : decode cX8_countBodies 3 = .ok (.istore_n 2, 1) := by decide +kernel
theorem dX8_countBodies_4 : decode cX8_countBodies 4 = .ok (.iload_n 2, 1) := by decide +kernel
theorem dX8_countBodies_5 : decode cX8_countBodies 5 = .ok (.bipush 12, 2) := by decide +kernel
theorem dX8_countBodies_7 : decode cX8_countBodies 7 = .ok (.if_icmp .ge 25, 3) := by decide +kernel
theorem dX8_countBodies_10 : decode cX8_countBodies 10 = .ok (.iload_n 1, 1) := by decide +kernel
theorem dX8_countBodies_11 : decode cX8_countBodies 11 = .ok (.aload_n 0, 1) := by decide +kernel
theorem dX8_countBodies_12 : decode cX8_countBodies 12 = .ok (.iload_n 2, 1) := by decide +kernel
theorem dX8_countBodies_13 : decode cX8_countBodies 13 = .ok (.invokevirtual 31, 3) := by decide +kernel
theorem dX8_countBodies_16 : decode cX8_countBodies 16 = .ok (.ifnonnull 7, 3) := by decide +kernel
theorem dX8_countBodies_19 : decode cX8_countBodies 19 = .ok (.iconst 0, 1) := by decide +kernel
theorem dX8_countBodies_20 : decode cX8_countBodies 20 = .ok (.goto 4, 3) := by decide +kernel
theorem dX8_countBodies_23 : decode cX8_countBodies 23 = .ok (.iconst 1, 1) := by decide +kernel
theorem dX8_countBodies_24 : decode cX8_countBodies 24 = .ok (.iadd, 1) := by decide +kernel
theorem dX8_countBodies_25 : decode cX8_countBodies 25 = .ok (.istore_n 1, 1) := by decide +kernel
theorem dX8_countBodies_26 : decode cX8_countBodies 26 = .ok (.iinc 2 1, 3) := by decide +kernel
theorem dX8_countBodies_29 : decode cX8_countBodies 29 = .ok (.goto (-25), 3) := by decide +kernel
theorem dX8_countBodies_32 : decode cX8_countBodies 32 = .ok (.iload_n 1, 1) := by decide +kernel
theorem dX8_countBodies_33 : decode cX8_countBodies 33 = .ok (.ireturn, 1) := by decide +kernel
set_option maxRecDepth 100000 in
set_option maxHeartbeats 4000000 in
theorem st_X8_countBodies (l : Launch) (M : Nat → Prop) (h : Nat) : Ct l yX8_countBodies cX8_countBodies 3 (some .int) 2 0 0 42 (fun S av => av = [.ref h] ∧ INV M [] S ∧ is S h 8) (fun S _ r S' => ∃ v, r = some (.int v) ∧ S' = S) := by
  refine ct_of (by decide) (fun S av h => by obtain ⟨rfl, iv, i_this⟩ := h; exact Nat.le_of_ble_eq_true rfl) ?_
  intro p e s m args below meth c D G bs S av C hr hin hpre
  obtain ⟨rfl, iv, i_this⟩ := hpre
  refine v_iconst (v := 0) C dX8_countBodies_0 (by decide) ?_
  refine v_istore_n C dX8_countBodies_1 (by decide) (by first | rfl | simp [okS, cat_rf]) ?_
  refine v_iconst (v := 0) C dX8_countBodies_2 (by decide) ?_
  refine v_istore_n C dX8_countBodies_3 (by decide) (by first | rfl | simp [okS, cat_rf]) ?_
  refine v_loop (fun (t : Int32 × Int32) lv0 => ((lv0.set 1 (some (.int t.1))).set 2 (some (.int t.2)))) (fun (S1 : Mem) (t : Int32 × Int32) => INV M [] S1 ∧ is S1 h 8 ∧ S1 = S) (fun (S1 : Mem) (t : Int32 × Int32) => upm t.2) (t := (_, _)) rfl ⟨iv, i_this, rfl⟩ ?_
  intro L4 t h_4 ih_4
  obtain ⟨t0_4, t1_4⟩ := t
  obtain ⟨iv, i_this, e_S⟩ := h_4
  subst e_S
  try dsimp only
  refine v_iload_n C dX8_countBodies_4 rfl ?_
  refine v_bipush (v := 12) C dX8_countBodies_5 (by decide) ?_
  refine v_icmp_ge (tgt := 32) C dX8_countBodies_7 (by decide) (fun c_7 => ?_) (fun c_7 => ?_)
  · skip
    refine v_iload_n C dX8_countBodies_32 rfl ?_
    refine v_iret C hr (Nat.le_of_ble_eq_true rfl) (Nat.le_of_ble_eq_true rfl) dX8_countBodies_33 ?_
    exact ⟨_, rfl, rfl⟩
  · skip
    refine v_iload_n C dX8_countBodies_10 rfl ?_
    refine v_aload_n C dX8_countBodies_11 rfl ?_
    refine v_iload_n C dX8_countBodies_12 rfl ?_
    refine v_callV (As := [_]) (n := 1) C (st_X8_bodyFor l _ _ _) rfl i_this (by decide) rfl ⟨wd943, wd548, wd549, wd212, wd550⟩ ⟨rfl, hy_X8_bodyFor⟩ rfl ⟨Nat.le_of_ble_eq_true rfl, Nat.le_of_ble_eq_true rfl⟩ (Nat.le_of_ble_eq_true rfl) ⟨Nat.le_of_ble_eq_true rfl, Nat.le_of_ble_eq_true rfl⟩ dX8_countBodies_13 ⟨rfl, iv, i_this⟩ (fun r_13 S2_13 h_13 => ?_)
    obtain ⟨v13, rfl, n_v13, q_v13⟩ := h_13
    obtain rfl := q_v13.symm
    refine v_ifnonnull (tgt := 23) C dX8_countBodies_16 (by decide) (fun b16 c_16 => ?_) (fun c_16 => ?_)
    · skip
      subst c_16
      have i_b16 := nOK_some n_v13 rfl
      refine v_iconst (v := 1) C dX8_countBodies_23 (by decide) ?_
      refine v_iadd C dX8_countBodies_24 ?_
      refine v_istore_n C dX8_countBodies_25 (by decide) (by first | rfl | simp [okS, cat_rf]) ?_
      refine v_iinc C dX8_countBodies_26 rfl rfl (by decide) (by first | rfl | simp [okS, cat_rf]) ?_
      refine v_goto (tgt := 4) C dX8_countBodies_29 (by decide) ?_
      exact ih_4 _ (_, _) (upm_lt c_7) ⟨iv, i_this, rfl⟩
    · skip
      subst c_16
      refine v_iconst (v := 0) C dX8_countBodies_19 (by decide) ?_
      refine v_goto (tgt := 24) C dX8_countBodies_20 (by decide) ?_
      refine v_iadd C dX8_countBodies_24 ?_
      refine v_istore_n C dX8_countBodies_25 (by decide) (by first | rfl | simp [okS, cat_rf]) ?_
      refine v_iinc C dX8_countBodies_26 rfl rfl (by decide) (by first | rfl | simp [okS, cat_rf]) ?_
      refine v_goto (tgt := 4) C dX8_countBodies_29 (by decide) ?_
      exact ih_4 _ (_, _) (upm_lt c_7) ⟨iv, i_this, rfl⟩
theorem dX8_countGuards_0 : decode cX8_countGuards 0 = .ok (.iconst 0, 1) := by decide +kernel
theorem dX8_countGuards_1 : decode cX8_countGuards 1 = .ok (.istore_n 1, 1) := by decide +kernel
theorem dX8_countGuards_2 : decode cX8_countGuards 2 = .ok (.iconst 0, 1) := by decide +kernel
theorem dX8_countGuards_3 : decode cX8_countGuards 3 = .ok (.istore_n 2, 1) := by decide +kernel
theorem dX8_countGuards_4 : decode cX8_countGuards 4 = .ok (.iload_n 2, 1) := by decide +kernel
theorem dX8_countGuards_5 : decode cX8_countGuards 5 = .ok (.bipush 12, 2) := by decide +kernel
theorem dX8_countGuards_7 : decode cX8_countGuards 7 = .ok (.if_icmp .ge 25, 3) := by decide +kernel
theorem dX8_countGuards_10 : decode cX8_countGuards 10 = .ok (.iload_n 1, 1) := by decide +kernel
theorem dX8_countGuards_11 : decode cX8_countGuards 11 = .ok (.aload_n 0, 1) := by decide +kernel
theorem dX8_countGuards_12 : decode cX8_countGuards 12 = .ok (.iload_n 2, 1) := by decide +kernel
theorem dX8_countGuards_13 : decode cX8_countGuards 13 = .ok (.invokevirtual 35, 3) := by decide +kernel
theorem dX8_countGuards_16 : decode cX8_countGuards 16 = .ok (.ifnonnull 7, 3) := by decide +kernel
theorem dX8_countGuards_19 : decode cX8_countGuards 19 = .ok (.iconst 0, 1) := by decide +kernel
theorem dX8_countGuards_20 : decode cX8_countGuards 20 = .ok (.goto 4, 3) := by decide +kernel
theorem dX8_countGuards_23 : decode cX8_countGuards 23 = .ok (.iconst 1, 1) := by decide +kernel
theorem dX8_countGuards_24 : decode cX8_countGuards 24 = .ok (.iadd, 1) := by decide +kernel
theorem dX8_countGuards_25 : decode cX8_countGuards 25 = .ok (.istore_n 1, 1) := by decide +kernel
theorem dX8_countGuards_26 : decode cX8_countGuards 26 = .ok (.iinc 2 1, 3) := by decide +kernel
theorem dX8_countGuards_29 : decode cX8_countGuards 29 = .ok (.goto (-25), 3) := by decide +kernel
theorem dX8_countGuards_32 : decode cX8_countGuards 32 = .ok (.iload_n 1, 1) := by decide +kernel
theorem dX8_countGuards_33 : decode cX8_countGuards 33 = .ok (.ireturn, 1) := by decide +kernel
set_option maxRecDepth 100000 in
set_option maxHeartbeats 4000000 in
theorem st_X8_countGuards (l : Launch) (M : Nat → Prop) (h : Nat) : Ct l yX8_countGuards cX8_countGuards 3 (some .int) 2 0 0 42 (fun S av => av = [.ref h] ∧ INV M [] S ∧ is S h 8) (fun S _ r S' => ∃ v, r = some (.int v) ∧ S' = S) := by
  refine ct_of (by decide) (fun S av h => by obtain ⟨rfl, iv, i_this⟩ := h; exact Nat.le_of_ble_eq_true rfl) ?_
  intro p e s m args below meth c D G bs S av C hr hin hpre
  obtain ⟨rfl, iv, i_this⟩ := hpre
  refine v_iconst (v := 0) C dX8_countGuards_0 (by decide) ?_
  refine v_istore_n C dX8_countGuards_1 (by decide) (by first | rfl | simp [okS, cat_rf]) ?_
  refine v_iconst (v := 0) C dX8_countGuards_2 (by decide) ?_
  refine v_istore_n C dX8_countGuards_3 (by decide) (by first | rfl | simp [okS, cat_rf]) ?_
  refine v_loop (fun (t : Int32 × Int32) lv0 => ((lv0.set 1 (some (.int t.1))).set 2 (some (.int t.2)))) (fun (S1 : Mem) (t : Int32 × Int32) => INV M [] S1 ∧ is S1 h 8 ∧ S1 = S) (fun (S1 : Mem) (t : Int32 × Int32) => upm t.2) (t := (_, _)) rfl ⟨iv, i_this, rfl⟩ ?_
  intro L4 t h_4 ih_4
  obtain ⟨t0_4, t1_4⟩ := t
  obtain ⟨iv, i_this, e_S⟩ := h_4
  subst e_S
  try dsimp only
  refine v_iload_n C dX8_countGuards_4 rfl ?_
  refine v_bipush (v := 12) C dX8_countGuards_5 (by decide) ?_
  refine v_icmp_ge (tgt := 32) C dX8_countGuards_7 (by decide) (fun c_7 => ?_) (fun c_7 => ?_)
  · skip
    refine v_iload_n C dX8_countGuards_32 rfl ?_
    refine v_iret C hr (Nat.le_of_ble_eq_true rfl) (Nat.le_of_ble_eq_true rfl) dX8_countGuards_33 ?_
    exact ⟨_, rfl, rfl⟩
  · skip
    refine v_iload_n C dX8_countGuards_10 rfl ?_
    refine v_aload_n C dX8_countGuards_11 rfl ?_
    refine v_iload_n C dX8_countGuards_12 rfl ?_
    refine v_callV (As := [_]) (n := 1) C (st_X8_guardFor l _ _ _) rfl i_this (by decide) rfl ⟨wd952, wd643, wd644, wd212, wd645⟩ ⟨rfl, hy_X8_guardFor⟩ rfl ⟨Nat.le_of_ble_eq_true rfl, Nat.le_of_ble_eq_true rfl⟩ (Nat.le_of_ble_eq_true rfl) ⟨Nat.le_of_ble_eq_true rfl, Nat.le_of_ble_eq_true rfl⟩ dX8_countGuards_13 ⟨rfl, iv, i_this⟩ (fun r_13 S2_13 h_13 => ?_)
    obtain ⟨v13, rfl, n_v13, q_v13⟩ := h_13
    obtain rfl := q_v13.symm
    refine v_ifnonnull (tgt := 23) C dX8_countGuards_16 (by decide) (fun b16 c_16 => ?_) (fun c_16 => ?_)
    · skip
      subst c_16
      have i_b16 := nOK_some n_v13 rfl
      refine v_iconst (v := 1) C dX8_countGuards_23 (by decide) ?_
      refine v_iadd C dX8_countGuards_24 ?_
      refine v_istore_n C dX8_countGuards_25 (by decide) (by first | rfl | simp [okS, cat_rf]) ?_
      refine v_iinc C dX8_countGuards_26 rfl rfl (by decide) (by first | rfl | simp [okS, cat_rf]) ?_
      refine v_goto (tgt := 4) C dX8_countGuards_29 (by decide) ?_
      exact ih_4 _ (_, _) (upm_lt c_7) ⟨iv, i_this, rfl⟩
    · skip
      subst c_16
      refine v_iconst (v := 0) C dX8_countGuards_19 (by decide) ?_
      refine v_goto (tgt := 24) C dX8_countGuards_20 (by decide) ?_
      refine v_iadd C dX8_countGuards_24 ?_
      refine v_istore_n C dX8_countGuards_25 (by decide) (by first | rfl | simp [okS, cat_rf]) ?_
      refine v_iinc C dX8_countGuards_26 rfl rfl (by decide) (by first | rfl | simp [okS, cat_rf]) ?_
      refine v_goto (tgt := 4) C dX8_countGuards_29 (by decide) ?_
      exact ih_4 _ (_, _) (upm_lt c_7) ⟨iv, i_this, rfl⟩
end
section
theorem xn {S : Mem} {r : Nat} {X : Nat → Prop} (h : ¬ r ∈ mL S) : ∀ a, a ∈ mL S → a = r → X a := fun a ha z => absurd (z ▸ ha) h
theorem mo_put {S S' : Mem} {g a : Nat} {v : Option Nat} (e : S' = sO S g a v) : mO S' g a = v := by rw [e, mO_sO, if_pos ⟨rfl, rfl⟩]
theorem mo_sO {S S' : Mem} {g a g' a' : Nat} {v o : Option Nat} (e : S' = sO S g' a' v) (n : g ≠ g' ∨ a ≠ a') (h : mO S g a = o) : mO S' g a = o := by rw [e, mO_sO, if_neg (fun z => n.elim (fun n => n z.1) (fun n => n z.2))]; exact h
theorem mo_sI {S S' : Mem} {g a g' a' : Nat} {v : Int32} {o : Option Nat} (e : S' = sI S g' a' v) (h : mO S g a = o) : mO S' g a = o := by rw [e, mO_sI]; exact h
theorem mo_sJ {S S' : Mem} {g a g' a' : Nat} {v : Int64} {o : Option Nat} (e : S' = sJ S g' a' v) (h : mO S g a = o) : mO S' g a = o := by rw [e, mO_sJ]; exact h
theorem mo_sA {S S' : Mem} {g a a' i : Nat} {v : Int32} {o : Option Nat} (e : S' = sA S a' i v) (h : mO S g a = o) : mO S' g a = o := by rw [e, mO_sA]; exact h
theorem mo_sFill {S S' : Mem} {g a a' n : Nat} {v : Int32} {o : Option Nat} (e : S' = sFill S a' n v) (h : mO S g a = o) : mO S' g a = o := by rw [e, mO_sFill]; exact h
theorem mo_sArr {S S' : Mem} {g a a' k n : Nat} {o : Option Nat} (e : S' = sArr S a' k n) (h : mO S g a = o) : mO S' g a = o := by rw [e, mO_sArr]; exact h
theorem mo_sNew {S S' : Mem} {g a a' c : Nat} {o : Option Nat} (e : S' = sNew S a' c) (n : a ≠ a') (h : mO S g a = o) : mO S' g a = o := by rw [e, mO_sNew, if_neg n]; exact h
theorem mo_ext {S S' : Mem} {X : Nat → Prop} {g a k : Nat} {o : Option Nat} (x : ext S S' X) (i : is S a k) (n : ¬ X a) (h : mO S g a = o) : mO S' g a = o := by rw [(x.2 a i.1 n).2.1]; exact h
theorem mI_newE {S S' : Mem} {a c : Nat} (e : S' = sNew S a c) (g : Nat) : mI S' g a = 0 := by rw [e, mI_sNew, if_pos rfl]
theorem mI_A {S S' : Mem} {g a a' i : Nat} {v : Int32} (e : S' = sA S a' i v) : mI S' g a = mI S g a := by rw [e, mI_sA]
theorem i32_sc {v : Int32} {n : Nat} (h : vp_in v n) (hn : n ≤ 1000) : ∃ k, k + 1 ≤ n ∧ v + 1 = nI (k + 1) := by
  obtain ⟨h1, h2⟩ := vp_in_iff.mp h
  refine ⟨v.toInt.toNat, by omega, Int32.toInt_inj.mp ?_⟩
  have e : (v + 1).toInt = v.toInt + 1 := by
    rw [Int32.toInt_add, show (1 : Int32).toInt = 1 from rfl, Int.bmod_def]
    split <;> omega
  rw [e]
  show _ = (Int32.ofNat _).toInt
  rw [show Int32.ofNat (v.toInt.toNat + 1) = Int32.ofInt ((v.toInt.toNat + 1 : Nat) : Int) from (Int32.ofInt_eq_ofNat ..).symm, Int32.toInt_ofInt, show Int32.size = 4294967296 from rfl, Int.bmod_def]
  split <;> omega
theorem inv_len {M : Nat → Prop} {E : List Nat} {S S' : Mem} {a : Nat} {v : Int32} (e : S' = sI S 194 a (v + 1)) (h : INV M E S) (hv : vp_in v 20) : INV M E S' := by
  obtain ⟨k, h1, h2⟩ := i32_sc hv (by decide)
  exact inv_sIn e h h2 ⟨fun _ => h1, fun z => by cases z⟩
theorem ct_cons {l : Launch} {y : MethodName} {cc : ByteArray} {maxL : Nat} {ret : Option FieldType} {f mc ms lo : Nat} {Pre Pre' : Mem → List Value → Prop} {Post Post' : Mem → List Value → Option Value → Mem → Prop} (h : Ct l y cc maxL ret f mc ms lo Pre Post) (h0 : ∀ S av, Pre' S av → Pre S av) (hp : ∀ S av r S', Pre' S av → Post S av r S' → Post' S av r S') : Ct l y cc maxL ret f mc ms lo Pre' Post' := fun D G bs S av hpre p e ha hc hk s m args below hf h1 h2 h3 => by
  obtain ⟨t, o, g1, g2, g3, ⟨⟨r, S', e1, e2, e3⟩, e4⟩, g5⟩ := h D G bs S av (h0 _ _ hpre) p e ha hc hk s m args below hf h1 h2 h3
  exact ⟨t, o, g1, g2, g3, ⟨⟨r, S', e1, hp _ _ _ _ hpre e2, e3⟩, e4⟩, g5⟩
theorem FT_c3 : ∀ q ∈ FT, q.1 / 64 = 3 → q = (192, 11, 20, false) ∨ q = (193, 11, 20, false) := by decide +kernel
theorem FT_c8 : ∀ q ∈ FT, q.1 / 64 = 8 → q = (512, 3, 0, false) ∨ q = (513, 16, 12, false) ∨ q = (514, 16, 12, false) := by decide +kernel
theorem FT_c5 : ∀ q ∈ FT, q.1 / 64 = 5 → q = (325, 11, 8, false) ∨ q = (326, 11, 8, false) ∨ q = (327, 11, 8, false) := by decide +kernel
theorem FT_c2 : ∀ q ∈ FT, q.1 / 64 = 2 → q = (130, 3, 0, false) ∨ q = (131, 11, 5, false) ∨ q = (133, 16, 12, false) ∨ q = (134, 13, 240, false) ∨ q = (136, 11, 240, false) ∨ q = (137, 11, 240, false) ∨ q = (139, 11, 12, false) ∨ q = (140, 12, 4, false) := by decide +kernel
theorem sc_X3_init (l : Launch) (M : Nat → Prop) (E : List Nat) (h : Nat) : Ct l yX3_init cX3_init 1 none 1 2 40 23 (fun S av => av = [.ref h] ∧ INV M (h :: E) S ∧ is S h 3 ∧ mI S 194 h = 0) (fun S _ r S' => r = none ∧ INV M E S' ∧ ext S S' (fun a => a = h)) := by
  refine ct_cons (ct_X3_init l h) (fun S av k => ⟨k.1, k.2.2.1⟩) ?_
  rintro S av r S' ⟨_, iv, i, z⟩ ⟨e0, r1, r2, n1, n2, n3, e⟩
  have la := lineAt_nLineE e i n1 n2 n3
  have m1 := inv_new iv n1
  have m2 := inv_new iv n2
  have g1 := inv_sArr (kd := 11) (n := 20) rfl iv n1 (by decide)
  have g2 := inv_sO (g := 192) (a := h) (v := some r1) rfl g1 (Or.inl List.mem_cons_self)
  have n2' : ¬ r2 ∈ mL (sO (sArr S r1 11 20) 192 h (some r1)) := by
    rw [mL_sO, mL_sArr]
    exact fun z => (List.mem_append.mp z).elim n2 (fun z => n3 (List.mem_singleton.mp z))
  have g3 := inv_sArr (kd := 11) (n := 20) rfl g2 n2' (by decide)
  have g4 := inv_sO (g := 193) (a := h) (v := some r2) rfl g3 (Or.inl List.mem_cons_self)
  have g5 := inv_sFill (a := r2) (n := 20) (v := -1) (S' := S') e g4
  refine ⟨e0, inv_done g5 la.1.2 ?_ (fun _ => ⟨0, by decide, ?_⟩) (fun z => by cases z), x_nLine e n1 n2 n3⟩
  · intro q hq hc
    rcases FT_c3 q hq hc with rfl | rfl
    · exact Or.inr ⟨_, la.2.1, Or.inr ⟨by decide, la.2.2.1, m1⟩⟩
    · exact Or.inr ⟨_, la.2.2.2.1, Or.inr ⟨by decide, la.2.2.2.2, m2⟩⟩
  · rw [e, mI_nLine, z]; rfl
theorem dX3_empty_0 : decode cX3_empty 0 = .ok (.aload_n 0, 1) := by decide +kernel
theorem dX3_empty_1 : decode cX3_empty 1 = .ok (.getfield 15, 3) := by decide +kernel
theorem dX3_empty_4 : decode cX3_empty 4 = .ok (.iconst (-1), 1) := by decide +kernel
theorem dX3_empty_5 : decode cX3_empty 5 = .ok (.invokestatic 18, 3) := by decide +kernel
theorem dX3_empty_8 : decode cX3_empty 8 = .ok (.aload_n 0, 1) := by decide +kernel
theorem dX3_empty_9 : decode cX3_empty 9 = .ok (.iconst 0, 1) := by decide +kernel
theorem dX3_empty_10 : decode cX3_empty 10 = .ok (.putfield 24, 3) := by decide +kernel
theorem dX3_empty_13 : decode cX3_empty 13 = .ok (.return_, 1) := by decide +kernel
set_option maxRecDepth 100000 in
set_option maxHeartbeats 4000000 in
theorem st_X3_empty (l : Launch) (M : Nat → Prop) (h : Nat) : Ct l yX3_empty cX3_empty 1 none 1 0 0 23 (fun S av => av = [.ref h] ∧ INV M [] S ∧ is S h 3) (fun S _ r S' => r = none ∧ INV M [] S' ∧ ext S S' (fun a => ¬ M a ∧ mK S a ∈ [3, 11])) := by
  refine ct_of (by decide) (fun S av h => by obtain ⟨rfl, iv, i_this⟩ := h; exact Nat.le_of_ble_eq_true rfl) ?_
  intro p e s m args below meth c D G bs S av C hr hin hpre
  obtain ⟨rfl, iv, i_this⟩ := hpre
  have E0 : ext S S (fun a => ¬ M a ∧ mK S a ∈ [3, 11]) := ext_rfl
  refine v_aload_n C dX3_empty_0 rfl ?_
  obtain ⟨r1, e_r1, i_r1, m_r1⟩ := T193 iv i_this List.not_mem_nil
  refine r3_15 (b := r1) C i_this e_r1 dX3_empty_1 ?_
  refine v_iconst (v := -1) C dX3_empty_4 (by decide) ?_
  refine v_callS (As := [_, _]) (n := 2) C (ct_J7_fill_53178 l _ _ _) rfl ⟨wd54, wd55, wd56, wd57⟩ hy_J7_fill_53178 rfl ⟨Nat.le_of_ble_eq_true rfl, Nat.le_of_ble_eq_true rfl⟩ (Nat.le_of_ble_eq_true rfl) ⟨Nat.le_of_ble_eq_true rfl, Nat.le_of_ble_eq_true rfl⟩ dX3_empty_5 ⟨rfl, i_r1, by decide⟩ (fun r_5 S2_5 h_5 => ?_)
  obtain ⟨rfl, e_5⟩ := h_5
  have iv' := inv_sFill e_5 iv
  have x_5 := x_sFill e_5
  have E0' := ext_tr E0 x_5 (xk_A E0 i_r1 m_r1 (by decide))
  have E0 := E0'
  have i_this := is_ext x_5 i_this
  have i_r1 := isA_ext x_5 i_r1
  have iv := iv'
  refine v_aload_n C dX3_empty_8 rfl ?_
  refine v_iconst (v := 0) C dX3_empty_9 (by decide) ?_
  refine p3_24 C i_this dX3_empty_10 ?_
  refine V.gen (fun S2_10 e_10 => ?_)
  have iv' := inv_sIn e_10 iv (n := 0) rfl ⟨fun _ => by decide, fun _ => by decide⟩
  have x_10 := x_sI e_10
  have E0' := ext_tr E0 x_10 (xk_is E0 i_this iv (by decide) (by decide))
  have E0 := E0'
  have i_this := is_ext x_10 i_this
  have i_r1 := isA_ext x_10 i_r1
  have iv := iv'
  refine v_vret C hr (Nat.le_of_ble_eq_true rfl) (Nat.le_of_ble_eq_true rfl) dX3_empty_13 ?_
  exact ⟨rfl, iv, E0⟩
theorem dX3_add_0 : decode cX3_add 0 = .ok (.iload_n 1, 1) := by decide +kernel
theorem dX3_add_1 : decode cX3_add 1 = .ok (.bipush 20, 2) := by decide +kernel
theorem dX3_add_3 : decode cX3_add 3 = .ok (.invokestatic 28, 3) := by decide +kernel
theorem dX3_add_6 : decode cX3_add 6 = .ok (.ifCond .eq 45, 3) := by decide +kernel
theorem dX3_add_9 : decode cX3_add 9 = .ok (.aload_n 0, 1) := by decide +kernel
theorem dX3_add_10 : decode cX3_add 10 = .ok (.getfield 24, 3) := by decide +kernel
theorem dX3_add_13 : decode cX3_add 13 = .ok (.bipush 20, 2) := by decide +kernel
theorem dX3_add_15 : decode cX3_add 15 = .ok (.invokestatic 28, 3) := by decide +kernel
theorem dX3_add_18 : decode cX3_add 18 = .ok (.ifCond .eq 33, 3) := by decide +kernel
theorem dX3_add_21 : decode cX3_add 21 = .ok (.aload_n 0, 1) := by decide +kernel
theorem dX3_add_22 : decode cX3_add 22 = .ok (.getfield 9, 3) := by decide +kernel
theorem dX3_add_25 : decode cX3_add 25 = .ok (.aload_n 0, 1) := by decide +kernel
theorem dX3_add_26 : decode cX3_add 26 = .ok (.getfield 24, 3) := by decide +kernel
theorem dX3_add_29 : decode cX3_add 29 = .ok (.iload_n 1, 1) := by decide +kernel
theorem dX3_add_30 : decode cX3_add 30 = .ok (.iastore, 1) := by decide +kernel
theorem dX3_add_31 : decode cX3_add 31 = .ok (.aload_n 0, 1) := by decide +kernel
theorem dX3_add_32 : decode cX3_add 32 = .ok (.getfield 15, 3) := by decide +kernel
theorem dX3_add_35 : decode cX3_add 35 = .ok (.iload_n 1, 1) := by decide +kernel
theorem dX3_add_36 : decode cX3_add 36 = .ok (.aload_n 0, 1) := by decide +kernel
theorem dX3_add_37 : decode cX3_add 37 = .ok (.getfield 24, 3) := by decide +kernel
theorem dX3_add_40 : decode cX3_add 40 = .ok (.iastore, 1) := by decide +kernel
theorem dX3_add_41 : decode cX3_add 41 = .ok (.aload_n 0, 1) := by decide +kernel
theorem dX3_add_42 : decode cX3_add 42 = .ok (.dup, 1) := by decide +kernel
theorem dX3_add_43 : decode cX3_add 43 = .ok (.getfield 24, 3) := by decide +kernel
theorem dX3_add_46 : decode cX3_add 46 = .ok (.iconst 1, 1) := by decide +kernel
theorem dX3_add_47 : decode cX3_add 47 = .ok (.iadd, 1) := by decide +kernel
theorem dX3_add_48 : decode cX3_add 48 = .ok (.putfield 24, 3) := by decide +kernel
theorem dX3_add_51 : decode cX3_add 51 = .ok (.return_, 1) := by decide +kernel
set_option maxRecDepth 100000 in
set_option maxHeartbeats 4000000 in
theorem st_X3_add (l : Launch) (M : Nat → Prop) (h : Nat) (p0 : Int32) : Ct l yX3_add cX3_add 2 none 1 0 0 21 (fun S av => av = [.ref h, .int p0] ∧ INV M [] S ∧ is S h 3) (fun S _ r S' => r = none ∧ INV M [] S' ∧ ext S S' (fun a => ¬ M a ∧ mK S a ∈ [3, 11])) := by
  refine ct_of (by decide) (fun S av h => by obtain ⟨rfl, iv, i_this⟩ := h; exact Nat.le_of_ble_eq_true rfl) ?_
  intro p e s m args below meth c D G bs S av C hr hin hpre
  obtain ⟨rfl, iv, i_this⟩ := hpre
  have E0 : ext S S (fun a => ¬ M a ∧ mK S a ∈ [3, 11]) := ext_rfl
  refine v_iload_n C dX3_add_0 rfl ?_
  refine v_bipush (v := 20) C dX3_add_1 (by decide) ?_
  refine v_callSN (As := [_, _]) (n := 2) C (sb_isBelow l _ _) rfl ⟨(by decide +kernel), wd141, wd2, wd142⟩ hy_X9_isBelow rfl ⟨Nat.le_of_ble_eq_true rfl, Nat.le_of_ble_eq_true rfl⟩ (Nat.le_of_ble_eq_true rfl) ⟨Nat.le_of_ble_eq_true rfl, Nat.le_of_ble_eq_true rfl⟩ dX3_add_3 rfl (fun r_3 S2_3 h_3 => ?_)
  obtain ⟨v3, rfl, p_v3, q_v3⟩ := h_3
  obtain rfl := q_v3.symm
  refine v_if_eq (tgt := 51) C dX3_add_6 (by decide) (fun c_6 => ?_) (fun c_6 => ?_)
  · skip
    refine v_vret C hr (Nat.le_of_ble_eq_true rfl) (Nat.le_of_ble_eq_true rfl) dX3_add_51 ?_
    exact ⟨rfl, iv, E0⟩
  · skip
    refine v_aload_n C dX3_add_9 rfl ?_
    refine g3_24 C i_this dX3_add_10 ?_
    refine v_topi (fun v10 e_v10 => ?_)
    refine v_bipush (v := 20) C dX3_add_13 (by decide) ?_
    refine v_callSN (As := [_, _]) (n := 2) C (sb_isBelow l _ _) rfl ⟨(by decide +kernel), wd141, wd2, wd142⟩ hy_X9_isBelow rfl ⟨Nat.le_of_ble_eq_true rfl, Nat.le_of_ble_eq_true rfl⟩ (Nat.le_of_ble_eq_true rfl) ⟨Nat.le_of_ble_eq_true rfl, Nat.le_of_ble_eq_true rfl⟩ dX3_add_15 rfl (fun r_15 S4_15 h_15 => ?_)
    obtain ⟨v15, rfl, p_v15, q_v15⟩ := h_15
    obtain rfl := q_v15.symm
    refine v_if_eq (tgt := 51) C dX3_add_18 (by decide) (fun c_18 => ?_) (fun c_18 => ?_)
    · skip
      refine v_vret C hr (Nat.le_of_ble_eq_true rfl) (Nat.le_of_ble_eq_true rfl) dX3_add_51 ?_
      exact ⟨rfl, iv, E0⟩
    · skip
      refine v_aload_n C dX3_add_21 rfl ?_
      obtain ⟨r22, e_r22, i_r22, m_r22⟩ := T192 iv i_this List.not_mem_nil
      refine r3_9 (b := r22) C i_this e_r22 dX3_add_22 ?_
      refine v_aload_n C dX3_add_25 rfl ?_
      refine g3_24 C i_this dX3_add_26 ?_
      refine v_topi (fun v26 e_v26 => ?_)
      refine v_iload_n C dX3_add_29 rfl ?_
      refine v_iast C i_r22 (eq_in (e_v26.trans e_v10.symm) (bI_ne p_v15 c_18 rfl)) dX3_add_30 ?_
      refine V.gen (fun S6_30 e_30 => ?_)
      have iv' := inv_sA e_30 iv
      have x_30 := x_sA e_30
      have E0' := ext_tr E0 x_30 (xk_A E0 i_r22 m_r22 (by decide))
      have E0 := E0'
      have i_this := is_ext x_30 i_this
      have i_r22 := isA_ext x_30 i_r22
      have iv := iv'
      refine v_aload_n C dX3_add_31 rfl ?_
      obtain ⟨r32, e_r32, i_r32, m_r32⟩ := T193 iv i_this List.not_mem_nil
      refine r3_15 (b := r32) C i_this e_r32 dX3_add_32 ?_
      refine v_iload_n C dX3_add_35 rfl ?_
      refine v_aload_n C dX3_add_36 rfl ?_
      refine g3_24 C i_this dX3_add_37 ?_
      refine v_topi (fun v37 e_v37 => ?_)
      refine v_iast C i_r32 (bI_ne p_v3 c_6 rfl) dX3_add_40 ?_
      refine V.gen (fun S6_40 e_40 => ?_)
      have iv' := inv_sA e_40 iv
      have x_40 := x_sA e_40
      have E0' := ext_tr E0 x_40 (xk_A E0 i_r32 m_r32 (by decide))
      have E0 := E0'
      have i_this := is_ext x_40 i_this
      have i_r22 := isA_ext x_40 i_r22
      have i_r32 := isA_ext x_40 i_r32
      have iv := iv'
      refine v_aload_n C dX3_add_41 rfl ?_
      refine v_dup C dX3_add_42 rfl ?_
      refine g3_24 C i_this dX3_add_43 ?_
      refine v_topi (fun v43 e_v43 => ?_)
      refine v_iconst (v := 1) C dX3_add_46 (by decide) ?_
      refine v_iadd C dX3_add_47 ?_
      refine p3_24 C i_this dX3_add_48 ?_
      refine V.gen (fun S6_48 e_48 => ?_)
      have iv' := inv_len e_48 iv (eq_in (e_v43.trans ((mI_A e_40).trans ((mI_A e_30).trans e_v10.symm))) (bI_ne p_v15 c_18 rfl))
      have x_48 := x_sI e_48
      have E0' := ext_tr E0 x_48 (xk_is E0 i_this iv (by decide) (by decide))
      have E0 := E0'
      have i_this := is_ext x_48 i_this
      have i_r22 := isA_ext x_48 i_r22
      have i_r32 := isA_ext x_48 i_r32
      have iv := iv'
      refine v_vret C hr (Nat.le_of_ble_eq_true rfl) (Nat.le_of_ble_eq_true rfl) dX3_add_51 ?_
      exact ⟨rfl, iv, E0⟩
theorem dX3_addAll_0 : decode cX3_addAll 0 = .ok (.iconst 0, 1) := by decide +kernel
theorem dX3_addAll_1 : decode cX3_addAll 1 = .ok (.istore_n 2, 1) := by decide +kernel
theorem dX3_addAll_2 : decode cX3_addAll 2 = .ok (.iload_n 2, 1) := by decide +kernel
theorem dX3_addAll_3 : decode cX3_addAll 3 = .ok (.aload_n 1, 1) := by decide +kernel
theorem dX3_addAll_4 : decode cX3_addAll 4 = .ok (.getfield 24, 3) := by decide +kernel
theorem dX3_addAll_7 : decode cX3_addAll 7 = .ok (.if_icmp .ge 18, 3) := by decide +kernel
theorem dX3_addAll_10 : decode cX3_addAll 10 = .ok (.aload_n 0, 1) := by decide +kernel
theorem dX3_addAll_11 : decode cX3_addAll 11 = .ok (.aload_n 1, 1) := by decide +kernel
theorem dX3_addAll_12 : decode cX3_addAll 12 = .ok (.iload_n 2, 1) := by decide +kernel
theorem dX3_addAll_13 : decode cX3_addAll 13 = .ok (.invokevirtual 32, 3) := by decide +kernel
theorem dX3_addAll_16 : decode cX3_addAll 16 = .ok (.invokevirtual 36, 3) := by decide +kernel
theorem dX3_addAll_19 : decode cX3_addAll 19 = .ok (.iinc 2 1, 3) := by decide +kernel
theorem dX3_addAll_22 : decode cX3_addAll 22 = .ok (.goto (-20), 3) := by decide +kernel
theorem dX3_addAll_25 : decode cX3_addAll 25 = .ok (.return_, 1) := by decide +kernel
set_option maxRecDepth 100000 in
set_option maxHeartbeats 4000000 in
theorem st_X3_addAll (l : Launch) (M : Nat → Prop) (h : Nat) (p0 : Nat) : Ct l yX3_addAll cX3_addAll 3 none 2 0 0 42 (fun S av => av = [.ref h, .ref p0] ∧ INV M [] S ∧ is S h 3 ∧ is S p0 3) (fun S _ r S' => r = none ∧ INV M [] S' ∧ ext S S' (fun a => ¬ M a ∧ mK S a ∈ [3, 11])) := by
  refine ct_of (by decide) (fun S av h => by obtain ⟨rfl, iv, i_this, i_p0⟩ := h; exact Nat.le_of_ble_eq_true rfl) ?_
  intro p e s m args below meth c D G bs S av C hr hin hpre
  obtain ⟨rfl, iv, i_this, i_p0⟩ := hpre
  have E0 : ext S S (fun a => ¬ M a ∧ mK S a ∈ [3, 11]) := ext_rfl
  refine v_iconst (v := 0) C dX3_addAll_0 (by decide) ?_
  refine v_istore_n C dX3_addAll_1 (by decide) (by first | rfl | simp [okS, cat_rf]) ?_
  refine v_loop (fun (t : Int32) lv0 => (lv0.set 2 (some (.int t)))) (fun (S1 : Mem) (t : Int32) => INV M [] S1 ∧ is S1 h 3 ∧ is S1 p0 3 ∧ ext S S1 (fun a => ¬ M a ∧ mK S a ∈ [3, 11])) (fun (S1 : Mem) (t : Int32) => upm t) (t := _) rfl ⟨iv, i_this, i_p0, E0⟩ ?_
  intro L2 t h_2 ih_2
  revert h_2 ih_2
  revert t
  intro t0_2 h_2 ih_2
  obtain ⟨iv, i_this, i_p0, E0⟩ := h_2
  try dsimp only
  refine v_iload_n C dX3_addAll_2 rfl ?_
  refine v_aload_n C dX3_addAll_3 rfl ?_
  refine g3_24 C i_p0 dX3_addAll_4 ?_
  refine v_topi (fun v4 e_v4 => ?_)
  refine v_icmp_ge (tgt := 25) C dX3_addAll_7 (by decide) (fun c_7 => ?_) (fun c_7 => ?_)
  · skip
    refine v_vret C hr (Nat.le_of_ble_eq_true rfl) (Nat.le_of_ble_eq_true rfl) dX3_addAll_25 ?_
    exact ⟨rfl, iv, E0⟩
  · skip
    refine v_aload_n C dX3_addAll_10 rfl ?_
    refine v_aload_n C dX3_addAll_11 rfl ?_
    refine v_iload_n C dX3_addAll_12 rfl ?_
    refine v_callV (As := [_]) (n := 1) C (st_X3_at l _ _ _) rfl i_p0 (by decide) rfl ⟨wd228, wd187, wd188, wd45, wd189⟩ ⟨rfl, hy_X3_at⟩ rfl ⟨Nat.le_of_ble_eq_true rfl, Nat.le_of_ble_eq_true rfl⟩ (Nat.le_of_ble_eq_true rfl) ⟨Nat.le_of_ble_eq_true rfl, Nat.le_of_ble_eq_true rfl⟩ dX3_addAll_13 ⟨rfl, iv, i_p0⟩ (fun r_13 S2_13 h_13 => ?_)
    obtain ⟨v13, rfl, q_v13⟩ := h_13
    obtain rfl := q_v13.symm
    refine v_callV (As := [_]) (n := 1) C (st_X3_add l _ _ _) rfl i_this (by decide) rfl ⟨wd229, wd167, wd168, wd45, wd169⟩ ⟨rfl, hy_X3_add⟩ rfl ⟨Nat.le_of_ble_eq_true rfl, Nat.le_of_ble_eq_true rfl⟩ (Nat.le_of_ble_eq_true rfl) ⟨Nat.le_of_ble_eq_true rfl, Nat.le_of_ble_eq_true rfl⟩ dX3_addAll_16 ⟨rfl, iv, i_this⟩ (fun r_16 S2_16 h_16 => ?_)
    obtain ⟨rfl, iv2, x_16⟩ := h_16
    have i_this := is_ext x_16 i_this
    have i_p0 := is_ext x_16 i_p0
    have E0' := ext_tr E0 x_16 (xk_call E0 (by decide))
    have E0 := E0'
    have iv := iv2
    refine v_iinc C dX3_addAll_19 rfl rfl (by decide) (by first | rfl | simp [okS, cat_rf]) ?_
    refine v_goto (tgt := 2) C dX3_addAll_22 (by decide) ?_
    exact ih_2 _ _ (upm_lt c_7) ⟨iv, i_this, i_p0, E0⟩
theorem dX5_addOp_0 : decode cX5_addOp 0 = .ok (.aload_n 0, 1) := by decide +kernel
theorem dX5_addOp_1 : decode cX5_addOp 1 = .ok (.getfield 38, 3) := by decide +kernel
theorem dX5_addOp_4 : decode cX5_addOp 4 = .ok (.bipush 8, 2) := by decide +kernel
theorem dX5_addOp_6 : decode cX5_addOp 6 = .ok (.invokestatic 41, 3) := by decide +kernel
theorem dX5_addOp_9 : decode cX5_addOp 9 = .ok (.ifCond .eq 43, 3) := by decide +kernel
theorem dX5_addOp_12 : decode cX5_addOp 12 = .ok (.aload_n 0, 1) := by decide +kernel
theorem dX5_addOp_13 : decode cX5_addOp 13 = .ok (.getfield 9, 3) := by decide +kernel
theorem dX5_addOp_16 : decode cX5_addOp 16 = .ok (.aload_n 0, 1) := by decide +kernel
theorem dX5_addOp_17 : decode cX5_addOp 17 = .ok (.getfield 38, 3) := by decide +kernel
theorem dX5_addOp_20 : decode cX5_addOp 20 = .ok (.iload_n 1, 1) := by decide +kernel
theorem dX5_addOp_21 : decode cX5_addOp 21 = .ok (.iastore, 1) := by decide +kernel
theorem dX5_addOp_22 : decode cX5_addOp 22 = .ok (.aload_n 0, 1) := by decide +kernel
theorem dX5_addOp_23 : decode cX5_addOp 23 = .ok (.getfield 15, 3) := by decide +kernel
theorem dX5_addOp_26 : decode cX5_addOp 26 = .ok (.aload_n 0, 1) := by decide +kernel
theorem dX5_addOp_27 : decode cX5_addOp 27 = .ok (.getfield 38, 3) := by decide +kernel
theorem dX5_addOp_30 : decode cX5_addOp 30 = .ok (.iload_n 2, 1) := by decide +kernel
theorem dX5_addOp_31 : decode cX5_addOp 31 = .ok (.iastore, 1) := by decide +kernel
theorem dX5_addOp_32 : decode cX5_addOp 32 = .ok (.aload_n 0, 1) := by decide +kernel
theorem dX5_addOp_33 : decode cX5_addOp 33 = .ok (.getfield 18, 3) := by decide +kernel
theorem dX5_addOp_36 : decode cX5_addOp 36 = .ok (.aload_n 0, 1) := by decide +kernel
theorem dX5_addOp_37 : decode cX5_addOp 37 = .ok (.getfield 38, 3) := by decide +kernel
theorem dX5_addOp_40 : decode cX5_addOp 40 = .ok (.iload_n 3, 1) := by decide +kernel
theorem dX5_addOp_41 : decode cX5_addOp 41 = .ok (.iastore, 1) := by decide +kernel
theorem dX5_addOp_42 : decode cX5_addOp 42 = .ok (.aload_n 0, 1) := by decide +kernel
theorem dX5_addOp_43 : decode cX5_addOp 43 = .ok (.dup, 1) := by decide +kernel
theorem dX5_addOp_44 : decode cX5_addOp 44 = .ok (.getfield 38, 3) := by decide +kernel
theorem dX5_addOp_47 : decode cX5_addOp 47 = .ok (.iconst 1, 1) := by decide +kernel
theorem dX5_addOp_48 : decode cX5_addOp 48 = .ok (.iadd, 1) := by decide +kernel
theorem dX5_addOp_49 : decode cX5_addOp 49 = .ok (.putfield 38, 3) := by decide +kernel
theorem dX5_addOp_52 : decode cX5_addOp 52 = .ok (.aload_n 0, 1) := by decide +kernel
theorem dX5_addOp_53 : decode cX5_addOp 53 = .ok (.getfield 38, 3) := by decide +kernel
theorem dX5_addOp_56 : decode cX5_addOp 56 = .ok (.ireturn, 1) := by decide +kernel
set_option maxRecDepth 100000 in
set_option maxHeartbeats 4000000 in
theorem st_X5_addOp (l : Launch) (M : Nat → Prop) (h : Nat) (p0 : Int32) (p1 : Int32) (p2 : Int32) : Ct l yX5_addOp cX5_addOp 4 (some .int) 1 0 0 21 (fun S av => av = [.ref h, .int p0, .int p1, .int p2] ∧ INV M [] S ∧ is S h 5) (fun S _ r S' => ∃ v, r = some (.int v) ∧ INV M [] S' ∧ ext S S' (fun a => ¬ M a ∧ mK S a ∈ [5, 11])) := by
  refine ct_of (by decide) (fun S av h => by obtain ⟨rfl, iv, i_this⟩ := h; exact Nat.le_of_ble_eq_true rfl) ?_
  intro p e s m args below meth c D G bs S av C hr hin hpre
  obtain ⟨rfl, iv, i_this⟩ := hpre
  have E0 : ext S S (fun a => ¬ M a ∧ mK S a ∈ [5, 11]) := ext_rfl
  refine v_aload_n C dX5_addOp_0 rfl ?_
  refine g5_38 C i_this dX5_addOp_1 ?_
  refine v_topi (fun v1 e_v1 => ?_)
  refine v_bipush (v := 8) C dX5_addOp_4 (by decide) ?_
  refine v_callSN (As := [_, _]) (n := 2) C (sb_isBelow l _ _) rfl ⟨(by decide +kernel), wd141, wd2, wd142⟩ hy_X9_isBelow rfl ⟨Nat.le_of_ble_eq_true rfl, Nat.le_of_ble_eq_true rfl⟩ (Nat.le_of_ble_eq_true rfl) ⟨Nat.le_of_ble_eq_true rfl, Nat.le_of_ble_eq_true rfl⟩ dX5_addOp_6 rfl (fun r_6 S2_6 h_6 => ?_)
  obtain ⟨v6, rfl, p_v6, q_v6⟩ := h_6
  obtain rfl := q_v6.symm
  refine v_if_eq (tgt := 52) C dX5_addOp_9 (by decide) (fun c_9 => ?_) (fun c_9 => ?_)
  · skip
    refine v_aload_n C dX5_addOp_52 rfl ?_
    refine g5_38 C i_this dX5_addOp_53 ?_
    refine v_topi (fun v53 e_v53 => ?_)
    refine v_iret C hr (Nat.le_of_ble_eq_true rfl) (Nat.le_of_ble_eq_true rfl) dX5_addOp_56 ?_
    exact ⟨_, rfl, iv, E0⟩
  · skip
    refine v_aload_n C dX5_addOp_12 rfl ?_
    obtain ⟨r13, e_r13, i_r13, m_r13⟩ := T325 iv i_this List.not_mem_nil
    refine r5_9 (b := r13) C i_this e_r13 dX5_addOp_13 ?_
    refine v_aload_n C dX5_addOp_16 rfl ?_
    refine g5_38 C i_this dX5_addOp_17 ?_
    refine v_topi (fun v17 e_v17 => ?_)
    refine v_iload_n C dX5_addOp_20 rfl ?_
    refine v_iast C i_r13 (eq_in (e_v17.trans e_v1.symm) (bI_ne p_v6 c_9 rfl)) dX5_addOp_21 ?_
    refine V.gen (fun S4_21 e_21 => ?_)
    have iv' := inv_sA e_21 iv
    have x_21 := x_sA e_21
    have E0' := ext_tr E0 x_21 (xk_A E0 i_r13 m_r13 (by decide))
    have E0 := E0'
    have i_this := is_ext x_21 i_this
    have i_r13 := isA_ext x_21 i_r13
    have iv := iv'
    refine v_aload_n C dX5_addOp_22 rfl ?_
    obtain ⟨r23, e_r23, i_r23, m_r23⟩ := T326 iv i_this List.not_mem_nil
    refine r5_15 (b := r23) C i_this e_r23 dX5_addOp_23 ?_
    refine v_aload_n C dX5_addOp_26 rfl ?_
    refine g5_38 C i_this dX5_addOp_27 ?_
    refine v_topi (fun v27 e_v27 => ?_)
    refine v_iload_n C dX5_addOp_30 rfl ?_
    refine v_iast C i_r23 (eq_in (e_v27.trans ((mI_A e_21).trans e_v1.symm)) (bI_ne p_v6 c_9 rfl)) dX5_addOp_31 ?_
    refine V.gen (fun S4_31 e_31 => ?_)
    have iv' := inv_sA e_31 iv
    have x_31 := x_sA e_31
    have E0' := ext_tr E0 x_31 (xk_A E0 i_r23 m_r23 (by decide))
    have E0 := E0'
    have i_this := is_ext x_31 i_this
    have i_r13 := isA_ext x_31 i_r13
    have i_r23 := isA_ext x_31 i_r23
    have iv := iv'
    refine v_aload_n C dX5_addOp_32 rfl ?_
    obtain ⟨r33, e_r33, i_r33, m_r33⟩ := T327 iv i_this List.not_mem_nil
    refine r5_18 (b := r33) C i_this e_r33 dX5_addOp_33 ?_
    refine v_aload_n C dX5_addOp_36 rfl ?_
    refine g5_38 C i_this dX5_addOp_37 ?_
    refine v_topi (fun v37 e_v37 => ?_)
    refine v_iload_n C dX5_addOp_40 rfl ?_
    refine v_iast C i_r33 (eq_in (e_v37.trans ((mI_A e_31).trans ((mI_A e_21).trans e_v1.symm))) (bI_ne p_v6 c_9 rfl)) dX5_addOp_41 ?_
    refine V.gen (fun S4_41 e_41 => ?_)
    have iv' := inv_sA e_41 iv
    have x_41 := x_sA e_41
    have E0' := ext_tr E0 x_41 (xk_A E0 i_r33 m_r33 (by decide))
    have E0 := E0'
    have i_this := is_ext x_41 i_this
    have i_r13 := isA_ext x_41 i_r13
    have i_r23 := isA_ext x_41 i_r23
    have i_r33 := isA_ext x_41 i_r33
    have iv := iv'
    refine v_aload_n C dX5_addOp_42 rfl ?_
    refine v_dup C dX5_addOp_43 rfl ?_
    refine g5_38 C i_this dX5_addOp_44 ?_
    refine v_topi (fun v44 e_v44 => ?_)
    refine v_iconst (v := 1) C dX5_addOp_47 (by decide) ?_
    refine v_iadd C dX5_addOp_48 ?_
    refine p5_38 C i_this dX5_addOp_49 ?_
    refine V.gen (fun S4_49 e_49 => ?_)
    have iv' := inv_sI e_49 iv (by decide) (by decide)
    have x_49 := x_sI e_49
    have E0' := ext_tr E0 x_49 (xk_is E0 i_this iv (by decide) (by decide))
    have E0 := E0'
    have i_this := is_ext x_49 i_this
    have i_r13 := isA_ext x_49 i_r13
    have i_r23 := isA_ext x_49 i_r23
    have i_r33 := isA_ext x_49 i_r33
    have iv := iv'
    refine v_aload_n C dX5_addOp_52 rfl ?_
    refine g5_38 C i_this dX5_addOp_53 ?_
    refine v_topi (fun v53 e_v53 => ?_)
    refine v_iret C hr (Nat.le_of_ble_eq_true rfl) (Nat.le_of_ble_eq_true rfl) dX5_addOp_56 ?_
    exact ⟨_, rfl, iv, E0⟩
theorem dX8_init_0 : decode cX8_init 0 = .ok (.aload_n 0, 1) := by decide +kernel
theorem dX8_init_1 : decode cX8_init 1 = .ok (.invokespecial 3, 3) := by decide +kernel
theorem dX8_init_4 : decode cX8_init 4 = .ok (.aload_n 0, 1) := by decide +kernel
theorem dX8_init_5 : decode cX8_init 5 = .ok (.new 9, 3) := by decide +kernel
theorem dX8_init_8 : decode cX8_init 8 = .ok (.dup, 1) := by decide +kernel
theorem dX8_init_9 : decode cX8_init 9 = .ok (.invokespecial 11, 3) := by decide +kernel
theorem dX8_init_12 : decode cX8_init 12 = .ok (.putfield 12, 3) := by decide +kernel
theorem dX8_init_15 : decode cX8_init 15 = .ok (.aload_n 0, 1) := by decide +kernel
theorem dX8_init_16 : decode cX8_init 16 = .ok (.bipush 12, 2) := by decide +kernel
theorem dX8_init_18 : decode cX8_init 18 = .ok (.anewarray 18, 3) := by decide +kernel
theorem dX8_init_21 : decode cX8_init 21 = .ok (.putfield 20, 3) := by decide +kernel
theorem dX8_init_24 : decode cX8_init 24 = .ok (.aload_n 0, 1) := by decide +kernel
theorem dX8_init_25 : decode cX8_init 25 = .ok (.bipush 12, 2) := by decide +kernel
theorem dX8_init_27 : decode cX8_init 27 = .ok (.anewarray 18, 3) := by decide +kernel
theorem dX8_init_30 : decode cX8_init 30 = .ok (.putfield 24, 3) := by decide +kernel
theorem dX8_init_33 : decode cX8_init 33 = .ok (.return_, 1) := by decide +kernel
set_option maxRecDepth 100000 in
set_option maxHeartbeats 4000000 in
theorem st_X8_init (l : Launch) (M : Nat → Prop) (E : List Nat) (h : Nat) : Ct l yX8_init cX8_init 1 none 2 5 67 43 (fun S av => av = [.ref h] ∧ INV M (h :: E) S ∧ is S h 8) (fun S _ r S' => r = none ∧ INV M E S' ∧ ext S S' (fun a => a = h)) := by
  refine ct_of (by decide) (fun S av h => by obtain ⟨rfl, iv, i_this⟩ := h; exact Nat.le_of_ble_eq_true rfl) ?_
  intro p e s m args below meth c D G bs S av C hr hin hpre
  obtain ⟨rfl, iv, i_this⟩ := hpre
  have E0 : ext S S (fun a => a = h) := ext_rfl
  refine v_aload_n C dX8_init_0 rfl ?_
  refine v_objInit C wd216 wd11 wd12 dX8_init_1 (Nat.le_of_ble_eq_true rfl) (Nat.le_of_ble_eq_true rfl) ?_
  refine v_aload_n C dX8_init_4 rfl ?_
  refine v_new C (ci := 3) (by decide) rfl inlX3 tyX3_ok wd217 wd44 wd45 nfX3 (Nat.le_of_ble_eq_true rfl) (Nat.le_of_ble_eq_true rfl) dX8_init_5 (fun a5 n_a5 => ?_)
  have nn_a5 := fun z => n_a5 (E0.1 a5 z).1
  refine V.gen (fun S2_5 e_5 => ?_)
  have iv' := inv_sNew e_5 iv n_a5 (by decide)
  have x_5 := x_sNew e_5 n_a5
  have E0' := ext_tr E0 x_5 (fun _ _ z => z.elim)
  have E0 := E0'
  have i_this := is_ext x_5 i_this
  have iv := iv'
  have i_a5 := is_sNewE e_5 n_a5
  have z_a5 := mI_newE e_5
  refine v_dup C dX8_init_8 rfl ?_
  refine v_callI (As := []) (n := 0) C (sc_X3_init l _ _ _) rfl ⟨wd222, wd49, wd45, wd50⟩ rfl hy_X3_init rfl ⟨Nat.le_of_ble_eq_true rfl, Nat.le_of_ble_eq_true rfl⟩ (Nat.le_of_ble_eq_true rfl) ⟨Nat.le_of_ble_eq_true rfl, Nat.le_of_ble_eq_true rfl⟩ dX8_init_9 ⟨rfl, iv, i_a5, z_a5 194⟩ (fun r_9 S2_9 h_9 => ?_)
  obtain ⟨rfl, iv2, x_9⟩ := h_9
  have E0' := ext_tr E0 x_9 (xn nn_a5)
  have E0 := E0'
  have i_this := is_ext x_9 i_this
  have i_a5 := is_ext x_9 i_a5
  have iv := iv2
  refine p8_12 (v := some _) C i_this (hin rfl) dX8_init_12 ?_
  refine V.gen (fun S2_12 e_12 => ?_)
  have iv' := inv_sO e_12 iv (Or.inl List.mem_cons_self)
  have x_12 := x_sO e_12
  have E0' := ext_tr E0 x_12 (fun _ _ z => z)
  have E0 := E0'
  have i_this := is_ext x_12 i_this
  have i_a5 := is_ext x_12 i_a5
  have iv := iv'
  have o_512 := mo_put e_12
  refine v_aload_n C dX8_init_15 rfl ?_
  refine v_bipush (v := 12) C dX8_init_16 (by decide) ?_
  refine v_newrefs C (kd := 16) (N := 12) (t0 := 5) (by decide) (by decide +kernel) wd219 rfl (by decide) (by decide) (Nat.le_of_ble_eq_true rfl) (Nat.le_of_ble_eq_true rfl) (Nat.le_of_ble_eq_true rfl) dX8_init_18 (fun a18 n_a18 => ?_)
  have nn_a18 := fun z => n_a18 (E0.1 a18 z).1
  have m_a18 := inv_new iv n_a18
  refine V.gen (fun S2_18 e_18 => ?_)
  have iv' := inv_sArr e_18 iv n_a18 (by decide)
  have x_18 := x_sArr e_18 n_a18
  have E0' := ext_tr E0 x_18 (fun _ _ z => z.elim)
  have E0 := E0'
  have o_512 := mo_sArr e_18 o_512
  have i_this := is_ext x_18 i_this
  have i_a5 := is_ext x_18 i_a5
  have iv := iv'
  have i_a18 := isA_sArrE e_18 n_a18
  refine p8_20 (v := some _) C i_this (hin rfl) dX8_init_21 ?_
  refine V.gen (fun S2_21 e_21 => ?_)
  have iv' := inv_sO e_21 iv (Or.inl List.mem_cons_self)
  have x_21 := x_sO e_21
  have E0' := ext_tr E0 x_21 (fun _ _ z => z)
  have E0 := E0'
  have o_512 := mo_sO e_21 (Or.inl (by decide)) o_512
  have i_this := is_ext x_21 i_this
  have i_a5 := is_ext x_21 i_a5
  have i_a18 := isA_ext x_21 i_a18
  have iv := iv'
  have o_513 := mo_put e_21
  refine v_aload_n C dX8_init_24 rfl ?_
  refine v_bipush (v := 12) C dX8_init_25 (by decide) ?_
  refine v_newrefs C (kd := 16) (N := 12) (t0 := 5) (by decide) (by decide +kernel) wd219 rfl (by decide) (by decide) (Nat.le_of_ble_eq_true rfl) (Nat.le_of_ble_eq_true rfl) (Nat.le_of_ble_eq_true rfl) dX8_init_27 (fun a27 n_a27 => ?_)
  have nn_a27 := fun z => n_a27 (E0.1 a27 z).1
  have m_a27 := inv_new iv n_a27
  refine V.gen (fun S2_27 e_27 => ?_)
  have iv' := inv_sArr e_27 iv n_a27 (by decide)
  have x_27 := x_sArr e_27 n_a27
  have E0' := ext_tr E0 x_27 (fun _ _ z => z.elim)
  have E0 := E0'
  have o_512 := mo_sArr e_27 o_512
  have o_513 := mo_sArr e_27 o_513
  have i_this := is_ext x_27 i_this
  have i_a5 := is_ext x_27 i_a5
  have i_a18 := isA_ext x_27 i_a18
  have iv := iv'
  have i_a27 := isA_sArrE e_27 n_a27
  refine p8_24 (v := some _) C i_this (hin rfl) dX8_init_30 ?_
  refine V.gen (fun S2_30 e_30 => ?_)
  have iv' := inv_sO e_30 iv (Or.inl List.mem_cons_self)
  have x_30 := x_sO e_30
  have E0' := ext_tr E0 x_30 (fun _ _ z => z)
  have E0 := E0'
  have o_512 := mo_sO e_30 (Or.inl (by decide)) o_512
  have o_513 := mo_sO e_30 (Or.inl (by decide)) o_513
  have i_this := is_ext x_30 i_this
  have i_a5 := is_ext x_30 i_a5
  have i_a18 := isA_ext x_30 i_a18
  have i_a27 := isA_ext x_30 i_a27
  have iv := iv'
  have o_514 := mo_put e_30
  refine v_vret C hr (Nat.le_of_ble_eq_true rfl) (Nat.le_of_ble_eq_true rfl) dX8_init_33 ?_
  refine ⟨rfl, inv_done iv i_this.2 ?_ (fun z => by cases z) (fun z => by cases z), E0⟩
  intro q hq hc
  rcases FT_c8 q hq hc with rfl | rfl | rfl
  · exact Or.inr ⟨_, o_512, Or.inl ⟨rfl, i_a5⟩⟩
  · exact Or.inr ⟨_, o_513, Or.inr ⟨by decide, i_a18, m_a18⟩⟩
  · exact Or.inr ⟨_, o_514, Or.inr ⟨by decide, i_a27, m_a27⟩⟩
theorem dX5_init_0 : decode cX5_init 0 = .ok (.aload_n 0, 1) := by decide +kernel
theorem dX5_init_1 : decode cX5_init 1 = .ok (.invokespecial 3, 3) := by decide +kernel
theorem dX5_init_4 : decode cX5_init 4 = .ok (.aload_n 0, 1) := by decide +kernel
theorem dX5_init_5 : decode cX5_init 5 = .ok (.bipush 8, 2) := by decide +kernel
theorem dX5_init_7 : decode cX5_init 7 = .ok (.newarray .int, 2) := by decide +kernel
theorem dX5_init_9 : decode cX5_init 9 = .ok (.putfield 9, 3) := by decide +kernel
theorem dX5_init_12 : decode cX5_init 12 = .ok (.aload_n 0, 1) := by decide +kernel
theorem dX5_init_13 : decode cX5_init 13 = .ok (.bipush 8, 2) := by decide +kernel
theorem dX5_init_15 : decode cX5_init 15 = .ok (.newarray .int, 2) := by decide +kernel
theorem dX5_init_17 : decode cX5_init 17 = .ok (.putfield 15, 3) := by decide +kernel
theorem dX5_init_20 : decode cX5_init 20 = .ok (.aload_n 0, 1) := by decide +kernel
theorem dX5_init_21 : decode cX5_init 21 = .ok (.bipush 8, 2) := by decide +kernel
theorem dX5_init_23 : decode cX5_init 23 = .ok (.newarray .int, 2) := by decide +kernel
theorem dX5_init_25 : decode cX5_init 25 = .ok (.putfield 18, 3) := by decide +kernel
theorem dX5_init_28 : decode cX5_init 28 = .ok (.aload_n 0, 1) := by decide +kernel
theorem dX5_init_29 : decode cX5_init 29 = .ok (.iload_n 1, 1) := by decide +kernel
theorem dX5_init_30 : decode cX5_init 30 = .ok (.putfield 21, 3) := by decide +kernel
theorem dX5_init_33 : decode cX5_init 33 = .ok (.aload_n 0, 1) := by decide +kernel
theorem dX5_init_34 : decode cX5_init 34 = .ok (.iload_n 2, 1) := by decide +kernel
theorem dX5_init_35 : decode cX5_init 35 = .ok (.putfield 25, 3) := by decide +kernel
theorem dX5_init_38 : decode cX5_init 38 = .ok (.aload_n 0, 1) := by decide +kernel
theorem dX5_init_39 : decode cX5_init 39 = .ok (.iload_n 3, 1) := by decide +kernel
theorem dX5_init_40 : decode cX5_init 40 = .ok (.putfield 28, 3) := by decide +kernel
theorem dX5_init_43 : decode cX5_init 43 = .ok (.aload_n 0, 1) := by decide +kernel
theorem dX5_init_44 : decode cX5_init 44 = .ok (.iload 4, 2) := by decide +kernel
theorem dX5_init_46 : decode cX5_init 46 = .ok (.putfield 31, 3) := by decide +kernel
theorem dX5_init_49 : decode cX5_init 49 = .ok (.aload_n 0, 1) := by decide +kernel
theorem dX5_init_50 : decode cX5_init 50 = .ok (.iload 5, 2) := by decide +kernel
theorem dX5_init_52 : decode cX5_init 52 = .ok (.putfield 34, 3) := by decide +kernel
theorem dX5_init_55 : decode cX5_init 55 = .ok (.return_, 1) := by decide +kernel
set_option maxRecDepth 100000 in
set_option maxHeartbeats 4000000 in
theorem st_X5_init (l : Launch) (M : Nat → Prop) (E : List Nat) (h : Nat) (p0 : Int32) (p1 : Int32) (p2 : Int32) (p3 : Int32) (p4 : Int32) : Ct l yX5_init cX5_init 6 none 1 3 24 14 (fun S av => av = [.ref h, .int p0, .int p1, .int p2, .int p3, .int p4] ∧ INV M (h :: E) S ∧ is S h 5 ∧ (p4 = 0 ∨ p4 = 1)) (fun S _ r S' => r = none ∧ INV M E S' ∧ ext S S' (fun a => a = h)) := by
  refine ct_of (by decide) (fun S av h => by obtain ⟨rfl, iv, i_this, z_p4⟩ := h; exact Nat.le_of_ble_eq_true rfl) ?_
  intro p e s m args below meth c D G bs S av C hr hin hpre
  obtain ⟨rfl, iv, i_this, z_p4⟩ := hpre
  have E0 : ext S S (fun a => a = h) := ext_rfl
  refine v_aload_n C dX5_init_0 rfl ?_
  refine v_objInit C wd351 wd11 wd12 dX5_init_1 (Nat.le_of_ble_eq_true rfl) (Nat.le_of_ble_eq_true rfl) ?_
  refine v_aload_n C dX5_init_4 rfl ?_
  refine v_bipush (v := 8) C dX5_init_5 (by decide) ?_
  refine v_newarr C (kd := 11) (N := 8) wd42 rfl (t0 := 0) rfl (by decide) (fun _ => cell_newI (Or.inl rfl)) (fun _ => vp_cell_i _ _ _) (by decide) (by decide) (Nat.le_of_ble_eq_true rfl) (Nat.le_of_ble_eq_true rfl) (Nat.le_of_ble_eq_true rfl) dX5_init_7 (fun a7 n_a7 => ?_)
  have nn_a7 := fun z => n_a7 (E0.1 a7 z).1
  have m_a7 := inv_new iv n_a7
  refine V.gen (fun S2_7 e_7 => ?_)
  have iv' := inv_sArr e_7 iv n_a7 (by decide)
  have x_7 := x_sArr e_7 n_a7
  have E0' := ext_tr E0 x_7 (fun _ _ z => z.elim)
  have E0 := E0'
  have i_this := is_ext x_7 i_this
  have iv := iv'
  have i_a7 := isA_sArrE e_7 n_a7
  refine p5_9 (v := some _) C i_this (hin rfl) dX5_init_9 ?_
  refine V.gen (fun S2_9 e_9 => ?_)
  have iv' := inv_sO e_9 iv (Or.inl List.mem_cons_self)
  have x_9 := x_sO e_9
  have E0' := ext_tr E0 x_9 (fun _ _ z => z)
  have E0 := E0'
  have i_this := is_ext x_9 i_this
  have i_a7 := isA_ext x_9 i_a7
  have iv := iv'
  have o_325 := mo_put e_9
  refine v_aload_n C dX5_init_12 rfl ?_
  refine v_bipush (v := 8) C dX5_init_13 (by decide) ?_
  refine v_newarr C (kd := 11) (N := 8) wd42 rfl (t0 := 0) rfl (by decide) (fun _ => cell_newI (Or.inl rfl)) (fun _ => vp_cell_i _ _ _) (by decide) (by decide) (Nat.le_of_ble_eq_true rfl) (Nat.le_of_ble_eq_true rfl) (Nat.le_of_ble_eq_true rfl) dX5_init_15 (fun a15 n_a15 => ?_)
  have nn_a15 := fun z => n_a15 (E0.1 a15 z).1
  have m_a15 := inv_new iv n_a15
  refine V.gen (fun S2_15 e_15 => ?_)
  have iv' := inv_sArr e_15 iv n_a15 (by decide)
  have x_15 := x_sArr e_15 n_a15
  have E0' := ext_tr E0 x_15 (fun _ _ z => z.elim)
  have E0 := E0'
  have o_325 := mo_sArr e_15 o_325
  have i_this := is_ext x_15 i_this
  have i_a7 := isA_ext x_15 i_a7
  have iv := iv'
  have i_a15 := isA_sArrE e_15 n_a15
  refine p5_15 (v := some _) C i_this (hin rfl) dX5_init_17 ?_
  refine V.gen (fun S2_17 e_17 => ?_)
  have iv' := inv_sO e_17 iv (Or.inl List.mem_cons_self)
  have x_17 := x_sO e_17
  have E0' := ext_tr E0 x_17 (fun _ _ z => z)
  have E0 := E0'
  have o_325 := mo_sO e_17 (Or.inl (by decide)) o_325
  have i_this := is_ext x_17 i_this
  have i_a7 := isA_ext x_17 i_a7
  have i_a15 := isA_ext x_17 i_a15
  have iv := iv'
  have o_326 := mo_put e_17
  refine v_aload_n C dX5_init_20 rfl ?_
  refine v_bipush (v := 8) C dX5_init_21 (by decide) ?_
  refine v_newarr C (kd := 11) (N := 8) wd42 rfl (t0 := 0) rfl (by decide) (fun _ => cell_newI (Or.inl rfl)) (fun _ => vp_cell_i _ _ _) (by decide) (by decide) (Nat.le_of_ble_eq_true rfl) (Nat.le_of_ble_eq_true rfl) (Nat.le_of_ble_eq_true rfl) dX5_init_23 (fun a23 n_a23 => ?_)
  have nn_a23 := fun z => n_a23 (E0.1 a23 z).1
  have m_a23 := inv_new iv n_a23
  refine V.gen (fun S2_23 e_23 => ?_)
  have iv' := inv_sArr e_23 iv n_a23 (by decide)
  have x_23 := x_sArr e_23 n_a23
  have E0' := ext_tr E0 x_23 (fun _ _ z => z.elim)
  have E0 := E0'
  have o_325 := mo_sArr e_23 o_325
  have o_326 := mo_sArr e_23 o_326
  have i_this := is_ext x_23 i_this
  have i_a7 := isA_ext x_23 i_a7
  have i_a15 := isA_ext x_23 i_a15
  have iv := iv'
  have i_a23 := isA_sArrE e_23 n_a23
  refine p5_18 (v := some _) C i_this (hin rfl) dX5_init_25 ?_
  refine V.gen (fun S2_25 e_25 => ?_)
  have iv' := inv_sO e_25 iv (Or.inl List.mem_cons_self)
  have x_25 := x_sO e_25
  have E0' := ext_tr E0 x_25 (fun _ _ z => z)
  have E0 := E0'
  have o_325 := mo_sO e_25 (Or.inl (by decide)) o_325
  have o_326 := mo_sO e_25 (Or.inl (by decide)) o_326
  have i_this := is_ext x_25 i_this
  have i_a7 := isA_ext x_25 i_a7
  have i_a15 := isA_ext x_25 i_a15
  have i_a23 := isA_ext x_25 i_a23
  have iv := iv'
  have o_327 := mo_put e_25
  refine v_aload_n C dX5_init_28 rfl ?_
  refine v_iload_n C dX5_init_29 rfl ?_
  refine p5_21 C i_this (hin rfl) dX5_init_30 ?_
  refine V.gen (fun S2_30 e_30 => ?_)
  have iv' := inv_sI e_30 iv (by decide) (by decide)
  have x_30 := x_sI e_30
  have E0' := ext_tr E0 x_30 (fun _ _ z => z)
  have E0 := E0'
  have o_325 := mo_sI e_30 o_325
  have o_326 := mo_sI e_30 o_326
  have o_327 := mo_sI e_30 o_327
  have i_this := is_ext x_30 i_this
  have i_a7 := isA_ext x_30 i_a7
  have i_a15 := isA_ext x_30 i_a15
  have i_a23 := isA_ext x_30 i_a23
  have iv := iv'
  refine v_aload_n C dX5_init_33 rfl ?_
  refine v_iload_n C dX5_init_34 rfl ?_
  refine p5_25 C i_this (hin rfl) dX5_init_35 ?_
  refine V.gen (fun S2_35 e_35 => ?_)
  have iv' := inv_sI e_35 iv (by decide) (by decide)
  have x_35 := x_sI e_35
  have E0' := ext_tr E0 x_35 (fun _ _ z => z)
  have E0 := E0'
  have o_325 := mo_sI e_35 o_325
  have o_326 := mo_sI e_35 o_326
  have o_327 := mo_sI e_35 o_327
  have i_this := is_ext x_35 i_this
  have i_a7 := isA_ext x_35 i_a7
  have i_a15 := isA_ext x_35 i_a15
  have i_a23 := isA_ext x_35 i_a23
  have iv := iv'
  refine v_aload_n C dX5_init_38 rfl ?_
  refine v_iload_n C dX5_init_39 rfl ?_
  refine p5_28 C i_this (hin rfl) dX5_init_40 ?_
  refine V.gen (fun S2_40 e_40 => ?_)
  have iv' := inv_sI e_40 iv (by decide) (by decide)
  have x_40 := x_sI e_40
  have E0' := ext_tr E0 x_40 (fun _ _ z => z)
  have E0 := E0'
  have o_325 := mo_sI e_40 o_325
  have o_326 := mo_sI e_40 o_326
  have o_327 := mo_sI e_40 o_327
  have i_this := is_ext x_40 i_this
  have i_a7 := isA_ext x_40 i_a7
  have i_a15 := isA_ext x_40 i_a15
  have i_a23 := isA_ext x_40 i_a23
  have iv := iv'
  refine v_aload_n C dX5_init_43 rfl ?_
  refine v_iload C dX5_init_44 rfl ?_
  refine p5_31 C i_this (hin rfl) dX5_init_46 ?_
  refine V.gen (fun S2_46 e_46 => ?_)
  have iv' := inv_sI e_46 iv (by decide) (by decide)
  have x_46 := x_sI e_46
  have E0' := ext_tr E0 x_46 (fun _ _ z => z)
  have E0 := E0'
  have o_325 := mo_sI e_46 o_325
  have o_326 := mo_sI e_46 o_326
  have o_327 := mo_sI e_46 o_327
  have i_this := is_ext x_46 i_this
  have i_a7 := isA_ext x_46 i_a7
  have i_a15 := isA_ext x_46 i_a15
  have i_a23 := isA_ext x_46 i_a23
  have iv := iv'
  refine v_aload_n C dX5_init_49 rfl ?_
  refine v_iload C dX5_init_50 rfl ?_
  refine p5_34 C i_this (hin rfl) z_p4 dX5_init_52 ?_
  refine V.gen (fun S2_52 e_52 => ?_)
  have iv' := inv_sI e_52 iv (by decide) (by decide)
  have x_52 := x_sI e_52
  have E0' := ext_tr E0 x_52 (fun _ _ z => z)
  have E0 := E0'
  have o_325 := mo_sI e_52 o_325
  have o_326 := mo_sI e_52 o_326
  have o_327 := mo_sI e_52 o_327
  have i_this := is_ext x_52 i_this
  have i_a7 := isA_ext x_52 i_a7
  have i_a15 := isA_ext x_52 i_a15
  have i_a23 := isA_ext x_52 i_a23
  have iv := iv'
  refine v_vret C hr (Nat.le_of_ble_eq_true rfl) (Nat.le_of_ble_eq_true rfl) dX5_init_55 ?_
  refine ⟨rfl, inv_done iv i_this.2 ?_ (fun z => by cases z) (fun z => by cases z), E0⟩
  intro q hq hc
  rcases FT_c5 q hq hc with rfl | rfl | rfl
  · exact Or.inr ⟨_, o_325, Or.inr ⟨by decide, i_a7, m_a7⟩⟩
  · exact Or.inr ⟨_, o_326, Or.inr ⟨by decide, i_a15, m_a15⟩⟩
  · exact Or.inr ⟨_, o_327, Or.inr ⟨by decide, i_a23, m_a23⟩⟩
theorem dX2_init_0 : decode cX2_init 0 = .ok (.aload_n 0, 1) := by decide +kernel
theorem dX2_init_1 : decode cX2_init 1 = .ok (.invokespecial 3, 3) := by decide +kernel
theorem dX2_init_4 : decode cX2_init 4 = .ok (.aload_n 0, 1) := by decide +kernel
theorem dX2_init_5 : decode cX2_init 5 = .ok (.new 9, 3) := by decide +kernel
theorem dX2_init_8 : decode cX2_init 8 = .ok (.dup, 1) := by decide +kernel
theorem dX2_init_9 : decode cX2_init 9 = .ok (.invokespecial 11, 3) := by decide +kernel
theorem dX2_init_12 : decode cX2_init 12 = .ok (.putfield 12, 3) := by decide +kernel
theorem dX2_init_15 : decode cX2_init 15 = .ok (.aload_n 0, 1) := by decide +kernel
theorem dX2_init_16 : decode cX2_init 16 = .ok (.iconst 5, 1) := by decide +kernel
theorem dX2_init_17 : decode cX2_init 17 = .ok (.newarray .int, 2) := by decide +kernel
theorem dX2_init_19 : decode cX2_init 19 = .ok (.putfield 18, 3) := by decide +kernel
theorem dX2_init_22 : decode cX2_init 22 = .ok (.aload_n 0, 1) := by decide +kernel
theorem dX2_init_23 : decode cX2_init 23 = .ok (.bipush 12, 2) := by decide +kernel
theorem dX2_init_25 : decode cX2_init 25 = .ok (.anewarray 22, 3) := by decide +kernel
theorem dX2_init_28 : decode cX2_init 28 = .ok (.putfield 24, 3) := by decide +kernel
theorem dX2_init_31 : decode cX2_init 31 = .ok (.aload_n 0, 1) := by decide +kernel
theorem dX2_init_32 : decode cX2_init 32 = .ok (.sipush 240, 3) := by decide +kernel
theorem dX2_init_35 : decode cX2_init 35 = .ok (.newarray .boolean, 2) := by decide +kernel
theorem dX2_init_37 : decode cX2_init 37 = .ok (.putfield 28, 3) := by decide +kernel
theorem dX2_init_40 : decode cX2_init 40 = .ok (.aload_n 0, 1) := by decide +kernel
theorem dX2_init_41 : decode cX2_init 41 = .ok (.sipush 240, 3) := by decide +kernel
theorem dX2_init_44 : decode cX2_init 44 = .ok (.newarray .int, 2) := by decide +kernel
theorem dX2_init_46 : decode cX2_init 46 = .ok (.putfield 32, 3) := by decide +kernel
theorem dX2_init_49 : decode cX2_init 49 = .ok (.aload_n 0, 1) := by decide +kernel
theorem dX2_init_50 : decode cX2_init 50 = .ok (.sipush 240, 3) := by decide +kernel
theorem dX2_init_53 : decode cX2_init 53 = .ok (.newarray .int, 2) := by decide +kernel
theorem dX2_init_55 : decode cX2_init 55 = .ok (.putfield 35, 3) := by decide +kernel
theorem dX2_init_58 : decode cX2_init 58 = .ok (.aload_n 0, 1) := by decide +kernel
theorem dX2_init_59 : decode cX2_init 59 = .ok (.bipush 12, 2) := by decide +kernel
theorem dX2_init_61 : decode cX2_init 61 = .ok (.newarray .int, 2) := by decide +kernel
theorem dX2_init_63 : decode cX2_init 63 = .ok (.putfield 38, 3) := by decide +kernel
theorem dX2_init_66 : decode cX2_init 66 = .ok (.aload_n 0, 1) := by decide +kernel
theorem dX2_init_67 : decode cX2_init 67 = .ok (.iconst 4, 1) := by decide +kernel
theorem dX2_init_68 : decode cX2_init 68 = .ok (.newarray .long, 2) := by decide +kernel
theorem dX2_init_70 : decode cX2_init 70 = .ok (.putfield 41, 3) := by decide +kernel
theorem dX2_init_73 : decode cX2_init 73 = .ok (.aload_n 0, 1) := by decide +kernel
theorem dX2_init_74 : decode cX2_init 74 = .ok (.iload_n 1, 1) := by decide +kernel
theorem dX2_init_75 : decode cX2_init 75 = .ok (.putfield 45, 3) := by decide +kernel
theorem dX2_init_78 : decode cX2_init 78 = .ok (.aload_n 0, 1) := by decide +kernel
theorem dX2_init_79 : decode cX2_init 79 = .ok (.iload_n 2, 1) := by decide +kernel
theorem dX2_init_80 : decode cX2_init 80 = .ok (.putfield 49, 3) := by decide +kernel
theorem dX2_init_83 : decode cX2_init 83 = .ok (.aload_n 0, 1) := by decide +kernel
theorem dX2_init_84 : decode cX2_init 84 = .ok (.getfield 32, 3) := by decide +kernel
theorem dX2_init_87 : decode cX2_init 87 = .ok (.iconst (-1), 1) := by decide +kernel
theorem dX2_init_88 : decode cX2_init 88 = .ok (.invokestatic 52, 3) := by decide +kernel
theorem dX2_init_91 : decode cX2_init 91 = .ok (.aload_n 0, 1) := by decide +kernel
theorem dX2_init_92 : decode cX2_init 92 = .ok (.getfield 35, 3) := by decide +kernel
theorem dX2_init_95 : decode cX2_init 95 = .ok (.iconst (-1), 1) := by decide +kernel
theorem dX2_init_96 : decode cX2_init 96 = .ok (.invokestatic 52, 3) := by decide +kernel
theorem dX2_init_99 : decode cX2_init 99 = .ok (.aload_n 0, 1) := by decide +kernel
theorem dX2_init_100 : decode cX2_init 100 = .ok (.getfield 38, 3) := by decide +kernel
theorem dX2_init_103 : decode cX2_init 103 = .ok (.iconst (-1), 1) := by decide +kernel
theorem dX2_init_104 : decode cX2_init 104 = .ok (.invokestatic 52, 3) := by decide +kernel
theorem dX2_init_107 : decode cX2_init 107 = .ok (.return_, 1) := by decide +kernel
set_option maxRecDepth 100000 in
set_option maxHeartbeats 4000000 in
theorem st_X2_init (l : Launch) (M : Nat → Prop) (E : List Nat) (h : Nat) (p0 : Int32) (p1 : Int32) : Ct l yX2_init cX2_init 3 none 2 10 796 43 (fun S av => av = [.ref h, .int p0, .int p1] ∧ INV M (h :: E) S ∧ is S h 2) (fun S _ r S' => r = none ∧ INV M E S' ∧ ext S S' (fun a => a = h)) := by
  refine ct_of (by decide) (fun S av h => by obtain ⟨rfl, iv, i_this⟩ := h; exact Nat.le_of_ble_eq_true rfl) ?_
  intro p e s m args below meth c D G bs S av C hr hin hpre
  obtain ⟨rfl, iv, i_this⟩ := hpre
  have E0 : ext S S (fun a => a = h) := ext_rfl
  refine v_aload_n C dX2_init_0 rfl ?_
  refine v_objInit C wd275 wd11 wd12 dX2_init_1 (Nat.le_of_ble_eq_true rfl) (Nat.le_of_ble_eq_true rfl) ?_
  refine v_aload_n C dX2_init_4 rfl ?_
  refine v_new C (ci := 3) (by decide) rfl inlX3 tyX3_ok wd276 wd44 wd45 nfX3 (Nat.le_of_ble_eq_true rfl) (Nat.le_of_ble_eq_true rfl) dX2_init_5 (fun a5 n_a5 => ?_)
  have nn_a5 := fun z => n_a5 (E0.1 a5 z).1
  refine V.gen (fun S2_5 e_5 => ?_)
  have iv' := inv_sNew e_5 iv n_a5 (by decide)
  have x_5 := x_sNew e_5 n_a5
  have E0' := ext_tr E0 x_5 (fun _ _ z => z.elim)
  have E0 := E0'
  have i_this := is_ext x_5 i_this
  have iv := iv'
  have i_a5 := is_sNewE e_5 n_a5
  have z_a5 := mI_newE e_5
  refine v_dup C dX2_init_8 rfl ?_
  refine v_callI (As := []) (n := 0) C (sc_X3_init l _ _ _) rfl ⟨wd288, wd49, wd45, wd50⟩ rfl hy_X3_init rfl ⟨Nat.le_of_ble_eq_true rfl, Nat.le_of_ble_eq_true rfl⟩ (Nat.le_of_ble_eq_true rfl) ⟨Nat.le_of_ble_eq_true rfl, Nat.le_of_ble_eq_true rfl⟩ dX2_init_9 ⟨rfl, iv, i_a5, z_a5 194⟩ (fun r_9 S2_9 h_9 => ?_)
  obtain ⟨rfl, iv2, x_9⟩ := h_9
  have E0' := ext_tr E0 x_9 (xn nn_a5)
  have E0 := E0'
  have i_this := is_ext x_9 i_this
  have i_a5 := is_ext x_9 i_a5
  have iv := iv2
  refine p2_12 (v := some _) C i_this (hin rfl) dX2_init_12 ?_
  refine V.gen (fun S2_12 e_12 => ?_)
  have iv' := inv_sO e_12 iv (Or.inl List.mem_cons_self)
  have x_12 := x_sO e_12
  have E0' := ext_tr E0 x_12 (fun _ _ z => z)
  have E0 := E0'
  have i_this := is_ext x_12 i_this
  have i_a5 := is_ext x_12 i_a5
  have iv := iv'
  have o_130 := mo_put e_12
  refine v_aload_n C dX2_init_15 rfl ?_
  refine v_iconst (v := 5) C dX2_init_16 (by decide) ?_
  refine v_newarr C (kd := 11) (N := 5) wd42 rfl (t0 := 0) rfl (by decide) (fun _ => cell_newI (Or.inl rfl)) (fun _ => vp_cell_i _ _ _) (by decide) (by decide) (Nat.le_of_ble_eq_true rfl) (Nat.le_of_ble_eq_true rfl) (Nat.le_of_ble_eq_true rfl) dX2_init_17 (fun a17 n_a17 => ?_)
  have nn_a17 := fun z => n_a17 (E0.1 a17 z).1
  have m_a17 := inv_new iv n_a17
  refine V.gen (fun S2_17 e_17 => ?_)
  have iv' := inv_sArr e_17 iv n_a17 (by decide)
  have x_17 := x_sArr e_17 n_a17
  have E0' := ext_tr E0 x_17 (fun _ _ z => z.elim)
  have E0 := E0'
  have o_130 := mo_sArr e_17 o_130
  have i_this := is_ext x_17 i_this
  have i_a5 := is_ext x_17 i_a5
  have iv := iv'
  have i_a17 := isA_sArrE e_17 n_a17
  refine p2_18 (v := some _) C i_this (hin rfl) dX2_init_19 ?_
  refine V.gen (fun S2_19 e_19 => ?_)
  have iv' := inv_sO e_19 iv (Or.inl List.mem_cons_self)
  have x_19 := x_sO e_19
  have E0' := ext_tr E0 x_19 (fun _ _ z => z)
  have E0 := E0'
  have o_130 := mo_sO e_19 (Or.inl (by decide)) o_130
  have i_this := is_ext x_19 i_this
  have i_a5 := is_ext x_19 i_a5
  have i_a17 := isA_ext x_19 i_a17
  have iv := iv'
  have o_131 := mo_put e_19
  refine v_aload_n C dX2_init_22 rfl ?_
  refine v_bipush (v := 12) C dX2_init_23 (by decide) ?_
  refine v_newrefs C (kd := 16) (N := 12) (t0 := 5) (by decide) (by decide +kernel) wd279 rfl (by decide) (by decide) (Nat.le_of_ble_eq_true rfl) (Nat.le_of_ble_eq_true rfl) (Nat.le_of_ble_eq_true rfl) dX2_init_25 (fun a25 n_a25 => ?_)
  have nn_a25 := fun z => n_a25 (E0.1 a25 z).1
  have m_a25 := inv_new iv n_a25
  refine V.gen (fun S2_25 e_25 => ?_)
  have iv' := inv_sArr e_25 iv n_a25 (by decide)
  have x_25 := x_sArr e_25 n_a25
  have E0' := ext_tr E0 x_25 (fun _ _ z => z.elim)
  have E0 := E0'
  have o_130 := mo_sArr e_25 o_130
  have o_131 := mo_sArr e_25 o_131
  have i_this := is_ext x_25 i_this
  have i_a5 := is_ext x_25 i_a5
  have i_a17 := isA_ext x_25 i_a17
  have iv := iv'
  have i_a25 := isA_sArrE e_25 n_a25
  refine p2_24 (v := some _) C i_this (hin rfl) dX2_init_28 ?_
  refine V.gen (fun S2_28 e_28 => ?_)
  have iv' := inv_sO e_28 iv (Or.inl List.mem_cons_self)
  have x_28 := x_sO e_28
  have E0' := ext_tr E0 x_28 (fun _ _ z => z)
  have E0 := E0'
  have o_130 := mo_sO e_28 (Or.inl (by decide)) o_130
  have o_131 := mo_sO e_28 (Or.inl (by decide)) o_131
  have i_this := is_ext x_28 i_this
  have i_a5 := is_ext x_28 i_a5
  have i_a17 := isA_ext x_28 i_a17
  have i_a25 := isA_ext x_28 i_a25
  have iv := iv'
  have o_133 := mo_put e_28
  refine v_aload_n C dX2_init_31 rfl ?_
  refine v_sipush (v := 240) C dX2_init_32 (by decide) ?_
  refine v_newarr C (kd := 13) (N := 240) wd87 rfl (t0 := 2) rfl (by decide) (fun _ => cell_newI (Or.inr rfl)) (fun _ => vp_cell_i _ _ _) (by decide) (by decide) (Nat.le_of_ble_eq_true rfl) (Nat.le_of_ble_eq_true rfl) (Nat.le_of_ble_eq_true rfl) dX2_init_35 (fun a35 n_a35 => ?_)
  have nn_a35 := fun z => n_a35 (E0.1 a35 z).1
  have m_a35 := inv_new iv n_a35
  refine V.gen (fun S2_35 e_35 => ?_)
  have iv' := inv_sArr e_35 iv n_a35 (by decide)
  have x_35 := x_sArr e_35 n_a35
  have E0' := ext_tr E0 x_35 (fun _ _ z => z.elim)
  have E0 := E0'
  have o_130 := mo_sArr e_35 o_130
  have o_131 := mo_sArr e_35 o_131
  have o_133 := mo_sArr e_35 o_133
  have i_this := is_ext x_35 i_this
  have i_a5 := is_ext x_35 i_a5
  have i_a17 := isA_ext x_35 i_a17
  have i_a25 := isA_ext x_35 i_a25
  have iv := iv'
  have i_a35 := isA_sArrE e_35 n_a35
  refine p2_28 (v := some _) C i_this (hin rfl) dX2_init_37 ?_
  refine V.gen (fun S2_37 e_37 => ?_)
  have iv' := inv_sO e_37 iv (Or.inl List.mem_cons_self)
  have x_37 := x_sO e_37
  have E0' := ext_tr E0 x_37 (fun _ _ z => z)
  have E0 := E0'
  have o_130 := mo_sO e_37 (Or.inl (by decide)) o_130
  have o_131 := mo_sO e_37 (Or.inl (by decide)) o_131
  have o_133 := mo_sO e_37 (Or.inl (by decide)) o_133
  have i_this := is_ext x_37 i_this
  have i_a5 := is_ext x_37 i_a5
  have i_a17 := isA_ext x_37 i_a17
  have i_a25 := isA_ext x_37 i_a25
  have i_a35 := isA_ext x_37 i_a35
  have iv := iv'
  have o_134 := mo_put e_37
  refine v_aload_n C dX2_init_40 rfl ?_
  refine v_sipush (v := 240) C dX2_init_41 (by decide) ?_
  refine v_newarr C (kd := 11) (N := 240) wd42 rfl (t0 := 0) rfl (by decide) (fun _ => cell_newI (Or.inl rfl)) (fun _ => vp_cell_i _ _ _) (by decide) (by decide) (Nat.le_of_ble_eq_true rfl) (Nat.le_of_ble_eq_true rfl) (Nat.le_of_ble_eq_true rfl) dX2_init_44 (fun a44 n_a44 => ?_)
  have nn_a44 := fun z => n_a44 (E0.1 a44 z).1
  have m_a44 := inv_new iv n_a44
  refine V.gen (fun S2_44 e_44 => ?_)
  have iv' := inv_sArr e_44 iv n_a44 (by decide)
  have x_44 := x_sArr e_44 n_a44
  have E0' := ext_tr E0 x_44 (fun _ _ z => z.elim)
  have E0 := E0'
  have o_130 := mo_sArr e_44 o_130
  have o_131 := mo_sArr e_44 o_131
  have o_133 := mo_sArr e_44 o_133
  have o_134 := mo_sArr e_44 o_134
  have i_this := is_ext x_44 i_this
  have i_a5 := is_ext x_44 i_a5
  have i_a17 := isA_ext x_44 i_a17
  have i_a25 := isA_ext x_44 i_a25
  have i_a35 := isA_ext x_44 i_a35
  have iv := iv'
  have i_a44 := isA_sArrE e_44 n_a44
  refine p2_32 (v := some _) C i_this (hin rfl) dX2_init_46 ?_
  refine V.gen (fun S2_46 e_46 => ?_)
  have iv' := inv_sO e_46 iv (Or.inl List.mem_cons_self)
  have x_46 := x_sO e_46
  have E0' := ext_tr E0 x_46 (fun _ _ z => z)
  have E0 := E0'
  have o_130 := mo_sO e_46 (Or.inl (by decide)) o_130
  have o_131 := mo_sO e_46 (Or.inl (by decide)) o_131
  have o_133 := mo_sO e_46 (Or.inl (by decide)) o_133
  have o_134 := mo_sO e_46 (Or.inl (by decide)) o_134
  have i_this := is_ext x_46 i_this
  have i_a5 := is_ext x_46 i_a5
  have i_a17 := isA_ext x_46 i_a17
  have i_a25 := isA_ext x_46 i_a25
  have i_a35 := isA_ext x_46 i_a35
  have i_a44 := isA_ext x_46 i_a44
  have iv := iv'
  have o_136 := mo_put e_46
  refine v_aload_n C dX2_init_49 rfl ?_
  refine v_sipush (v := 240) C dX2_init_50 (by decide) ?_
  refine v_newarr C (kd := 11) (N := 240) wd42 rfl (t0 := 0) rfl (by decide) (fun _ => cell_newI (Or.inl rfl)) (fun _ => vp_cell_i _ _ _) (by decide) (by decide) (Nat.le_of_ble_eq_true rfl) (Nat.le_of_ble_eq_true rfl) (Nat.le_of_ble_eq_true rfl) dX2_init_53 (fun a53 n_a53 => ?_)
  have nn_a53 := fun z => n_a53 (E0.1 a53 z).1
  have m_a53 := inv_new iv n_a53
  refine V.gen (fun S2_53 e_53 => ?_)
  have iv' := inv_sArr e_53 iv n_a53 (by decide)
  have x_53 := x_sArr e_53 n_a53
  have E0' := ext_tr E0 x_53 (fun _ _ z => z.elim)
  have E0 := E0'
  have o_130 := mo_sArr e_53 o_130
  have o_131 := mo_sArr e_53 o_131
  have o_133 := mo_sArr e_53 o_133
  have o_134 := mo_sArr e_53 o_134
  have o_136 := mo_sArr e_53 o_136
  have i_this := is_ext x_53 i_this
  have i_a5 := is_ext x_53 i_a5
  have i_a17 := isA_ext x_53 i_a17
  have i_a25 := isA_ext x_53 i_a25
  have i_a35 := isA_ext x_53 i_a35
  have i_a44 := isA_ext x_53 i_a44
  have iv := iv'
  have i_a53 := isA_sArrE e_53 n_a53
  refine p2_35 (v := some _) C i_this (hin rfl) dX2_init_55 ?_
  refine V.gen (fun S2_55 e_55 => ?_)
  have iv' := inv_sO e_55 iv (Or.inl List.mem_cons_self)
  have x_55 := x_sO e_55
  have E0' := ext_tr E0 x_55 (fun _ _ z => z)
  have E0 := E0'
  have o_130 := mo_sO e_55 (Or.inl (by decide)) o_130
  have o_131 := mo_sO e_55 (Or.inl (by decide)) o_131
  have o_133 := mo_sO e_55 (Or.inl (by decide)) o_133
  have o_134 := mo_sO e_55 (Or.inl (by decide)) o_134
  have o_136 := mo_sO e_55 (Or.inl (by decide)) o_136
  have i_this := is_ext x_55 i_this
  have i_a5 := is_ext x_55 i_a5
  have i_a17 := isA_ext x_55 i_a17
  have i_a25 := isA_ext x_55 i_a25
  have i_a35 := isA_ext x_55 i_a35
  have i_a44 := isA_ext x_55 i_a44
  have i_a53 := isA_ext x_55 i_a53
  have iv := iv'
  have o_137 := mo_put e_55
  refine v_aload_n C dX2_init_58 rfl ?_
  refine v_bipush (v := 12) C dX2_init_59 (by decide) ?_
  refine v_newarr C (kd := 11) (N := 12) wd42 rfl (t0 := 0) rfl (by decide) (fun _ => cell_newI (Or.inl rfl)) (fun _ => vp_cell_i _ _ _) (by decide) (by decide) (Nat.le_of_ble_eq_true rfl) (Nat.le_of_ble_eq_true rfl) (Nat.le_of_ble_eq_true rfl) dX2_init_61 (fun a61 n_a61 => ?_)
  have nn_a61 := fun z => n_a61 (E0.1 a61 z).1
  have m_a61 := inv_new iv n_a61
  refine V.gen (fun S2_61 e_61 => ?_)
  have iv' := inv_sArr e_61 iv n_a61 (by decide)
  have x_61 := x_sArr e_61 n_a61
  have E0' := ext_tr E0 x_61 (fun _ _ z => z.elim)
  have E0 := E0'
  have o_130 := mo_sArr e_61 o_130
  have o_131 := mo_sArr e_61 o_131
  have o_133 := mo_sArr e_61 o_133
  have o_134 := mo_sArr e_61 o_134
  have o_136 := mo_sArr e_61 o_136
  have o_137 := mo_sArr e_61 o_137
  have i_this := is_ext x_61 i_this
  have i_a5 := is_ext x_61 i_a5
  have i_a17 := isA_ext x_61 i_a17
  have i_a25 := isA_ext x_61 i_a25
  have i_a35 := isA_ext x_61 i_a35
  have i_a44 := isA_ext x_61 i_a44
  have i_a53 := isA_ext x_61 i_a53
  have iv := iv'
  have i_a61 := isA_sArrE e_61 n_a61
  refine p2_38 (v := some _) C i_this (hin rfl) dX2_init_63 ?_
  refine V.gen (fun S2_63 e_63 => ?_)
  have iv' := inv_sO e_63 iv (Or.inl List.mem_cons_self)
  have x_63 := x_sO e_63
  have E0' := ext_tr E0 x_63 (fun _ _ z => z)
  have E0 := E0'
  have o_130 := mo_sO e_63 (Or.inl (by decide)) o_130
  have o_131 := mo_sO e_63 (Or.inl (by decide)) o_131
  have o_133 := mo_sO e_63 (Or.inl (by decide)) o_133
  have o_134 := mo_sO e_63 (Or.inl (by decide)) o_134
  have o_136 := mo_sO e_63 (Or.inl (by decide)) o_136
  have o_137 := mo_sO e_63 (Or.inl (by decide)) o_137
  have i_this := is_ext x_63 i_this
  have i_a5 := is_ext x_63 i_a5
  have i_a17 := isA_ext x_63 i_a17
  have i_a25 := isA_ext x_63 i_a25
  have i_a35 := isA_ext x_63 i_a35
  have i_a44 := isA_ext x_63 i_a44
  have i_a53 := isA_ext x_63 i_a53
  have i_a61 := isA_ext x_63 i_a61
  have iv := iv'
  have o_139 := mo_put e_63
  refine v_aload_n C dX2_init_66 rfl ?_
  refine v_iconst (v := 4) C dX2_init_67 (by decide) ?_
  refine v_newarr C (kd := 12) (N := 4) wd73 rfl (t0 := 1) rfl (by decide) (fun _ => cell_newJ) (fun _ => vp_cell_l _ _ _) (by decide) (by decide) (Nat.le_of_ble_eq_true rfl) (Nat.le_of_ble_eq_true rfl) (Nat.le_of_ble_eq_true rfl) dX2_init_68 (fun a68 n_a68 => ?_)
  have nn_a68 := fun z => n_a68 (E0.1 a68 z).1
  have m_a68 := inv_new iv n_a68
  refine V.gen (fun S2_68 e_68 => ?_)
  have iv' := inv_sArr e_68 iv n_a68 (by decide)
  have x_68 := x_sArr e_68 n_a68
  have E0' := ext_tr E0 x_68 (fun _ _ z => z.elim)
  have E0 := E0'
  have o_130 := mo_sArr e_68 o_130
  have o_131 := mo_sArr e_68 o_131
  have o_133 := mo_sArr e_68 o_133
  have o_134 := mo_sArr e_68 o_134
  have o_136 := mo_sArr e_68 o_136
  have o_137 := mo_sArr e_68 o_137
  have o_139 := mo_sArr e_68 o_139
  have i_this := is_ext x_68 i_this
  have i_a5 := is_ext x_68 i_a5
  have i_a17 := isA_ext x_68 i_a17
  have i_a25 := isA_ext x_68 i_a25
  have i_a35 := isA_ext x_68 i_a35
  have i_a44 := isA_ext x_68 i_a44
  have i_a53 := isA_ext x_68 i_a53
  have i_a61 := isA_ext x_68 i_a61
  have iv := iv'
  have i_a68 := isA_sArrE e_68 n_a68
  refine p2_41 (v := some _) C i_this (hin rfl) dX2_init_70 ?_
  refine V.gen (fun S2_70 e_70 => ?_)
  have iv' := inv_sO e_70 iv (Or.inl List.mem_cons_self)
  have x_70 := x_sO e_70
  have E0' := ext_tr E0 x_70 (fun _ _ z => z)
  have E0 := E0'
  have o_130 := mo_sO e_70 (Or.inl (by decide)) o_130
  have o_131 := mo_sO e_70 (Or.inl (by decide)) o_131
  have o_133 := mo_sO e_70 (Or.inl (by decide)) o_133
  have o_134 := mo_sO e_70 (Or.inl (by decide)) o_134
  have o_136 := mo_sO e_70 (Or.inl (by decide)) o_136
  have o_137 := mo_sO e_70 (Or.inl (by decide)) o_137
  have o_139 := mo_sO e_70 (Or.inl (by decide)) o_139
  have i_this := is_ext x_70 i_this
  have i_a5 := is_ext x_70 i_a5
  have i_a17 := isA_ext x_70 i_a17
  have i_a25 := isA_ext x_70 i_a25
  have i_a35 := isA_ext x_70 i_a35
  have i_a44 := isA_ext x_70 i_a44
  have i_a53 := isA_ext x_70 i_a53
  have i_a61 := isA_ext x_70 i_a61
  have i_a68 := isA_ext x_70 i_a68
  have iv := iv'
  have o_140 := mo_put e_70
  refine v_aload_n C dX2_init_73 rfl ?_
  refine v_iload_n C dX2_init_74 rfl ?_
  refine p2_45 C i_this (hin rfl) dX2_init_75 ?_
  refine V.gen (fun S2_75 e_75 => ?_)
  have iv' := inv_sI e_75 iv (by decide) (by decide)
  have x_75 := x_sI e_75
  have E0' := ext_tr E0 x_75 (fun _ _ z => z)
  have E0 := E0'
  have o_130 := mo_sI e_75 o_130
  have o_131 := mo_sI e_75 o_131
  have o_133 := mo_sI e_75 o_133
  have o_134 := mo_sI e_75 o_134
  have o_136 := mo_sI e_75 o_136
  have o_137 := mo_sI e_75 o_137
  have o_139 := mo_sI e_75 o_139
  have o_140 := mo_sI e_75 o_140
  have i_this := is_ext x_75 i_this
  have i_a5 := is_ext x_75 i_a5
  have i_a17 := isA_ext x_75 i_a17
  have i_a25 := isA_ext x_75 i_a25
  have i_a35 := isA_ext x_75 i_a35
  have i_a44 := isA_ext x_75 i_a44
  have i_a53 := isA_ext x_75 i_a53
  have i_a61 := isA_ext x_75 i_a61
  have i_a68 := isA_ext x_75 i_a68
  have iv := iv'
  refine v_aload_n C dX2_init_78 rfl ?_
  refine v_iload_n C dX2_init_79 rfl ?_
  refine p2_49 C i_this (hin rfl) dX2_init_80 ?_
  refine V.gen (fun S2_80 e_80 => ?_)
  have iv' := inv_sI e_80 iv (by decide) (by decide)
  have x_80 := x_sI e_80
  have E0' := ext_tr E0 x_80 (fun _ _ z => z)
  have E0 := E0'
  have o_130 := mo_sI e_80 o_130
  have o_131 := mo_sI e_80 o_131
  have o_133 := mo_sI e_80 o_133
  have o_134 := mo_sI e_80 o_134
  have o_136 := mo_sI e_80 o_136
  have o_137 := mo_sI e_80 o_137
  have o_139 := mo_sI e_80 o_139
  have o_140 := mo_sI e_80 o_140
  have i_this := is_ext x_80 i_this
  have i_a5 := is_ext x_80 i_a5
  have i_a17 := isA_ext x_80 i_a17
  have i_a25 := isA_ext x_80 i_a25
  have i_a35 := isA_ext x_80 i_a35
  have i_a44 := isA_ext x_80 i_a44
  have i_a53 := isA_ext x_80 i_a53
  have i_a61 := isA_ext x_80 i_a61
  have i_a68 := isA_ext x_80 i_a68
  have iv := iv'
  refine v_aload_n C dX2_init_83 rfl ?_
  refine r2_32 C i_this o_136 dX2_init_84 ?_
  refine v_iconst (v := -1) C dX2_init_87 (by decide) ?_
  refine v_callS (As := [_, _]) (n := 2) C (ct_J7_fill_53178 l _ _ _) rfl ⟨wd289, wd55, wd56, wd57⟩ hy_J7_fill_53178 rfl ⟨Nat.le_of_ble_eq_true rfl, Nat.le_of_ble_eq_true rfl⟩ (Nat.le_of_ble_eq_true rfl) ⟨Nat.le_of_ble_eq_true rfl, Nat.le_of_ble_eq_true rfl⟩ dX2_init_88 ⟨rfl, i_a44, by decide⟩ (fun r_88 S2_88 h_88 => ?_)
  obtain ⟨rfl, e_88⟩ := h_88
  have iv' := inv_sFill e_88 iv
  have x_88 := x_sFill e_88
  have E0' := ext_tr E0 x_88 (xn nn_a44)
  have E0 := E0'
  have o_130 := mo_sFill e_88 o_130
  have o_131 := mo_sFill e_88 o_131
  have o_133 := mo_sFill e_88 o_133
  have o_134 := mo_sFill e_88 o_134
  have o_136 := mo_sFill e_88 o_136
  have o_137 := mo_sFill e_88 o_137
  have o_139 := mo_sFill e_88 o_139
  have o_140 := mo_sFill e_88 o_140
  have i_this := is_ext x_88 i_this
  have i_a5 := is_ext x_88 i_a5
  have i_a17 := isA_ext x_88 i_a17
  have i_a25 := isA_ext x_88 i_a25
  have i_a35 := isA_ext x_88 i_a35
  have i_a44 := isA_ext x_88 i_a44
  have i_a53 := isA_ext x_88 i_a53
  have i_a61 := isA_ext x_88 i_a61
  have i_a68 := isA_ext x_88 i_a68
  have iv := iv'
  refine v_aload_n C dX2_init_91 rfl ?_
  refine r2_35 C i_this o_137 dX2_init_92 ?_
  refine v_iconst (v := -1) C dX2_init_95 (by decide) ?_
  refine v_callS (As := [_, _]) (n := 2) C (ct_J7_fill_53178 l _ _ _) rfl ⟨wd289, wd55, wd56, wd57⟩ hy_J7_fill_53178 rfl ⟨Nat.le_of_ble_eq_true rfl, Nat.le_of_ble_eq_true rfl⟩ (Nat.le_of_ble_eq_true rfl) ⟨Nat.le_of_ble_eq_true rfl, Nat.le_of_ble_eq_true rfl⟩ dX2_init_96 ⟨rfl, i_a53, by decide⟩ (fun r_96 S2_96 h_96 => ?_)
  obtain ⟨rfl, e_96⟩ := h_96
  have iv' := inv_sFill e_96 iv
  have x_96 := x_sFill e_96
  have E0' := ext_tr E0 x_96 (xn nn_a53)
  have E0 := E0'
  have o_130 := mo_sFill e_96 o_130
  have o_131 := mo_sFill e_96 o_131
  have o_133 := mo_sFill e_96 o_133
  have o_134 := mo_sFill e_96 o_134
  have o_136 := mo_sFill e_96 o_136
  have o_137 := mo_sFill e_96 o_137
  have o_139 := mo_sFill e_96 o_139
  have o_140 := mo_sFill e_96 o_140
  have i_this := is_ext x_96 i_this
  have i_a5 := is_ext x_96 i_a5
  have i_a17 := isA_ext x_96 i_a17
  have i_a25 := isA_ext x_96 i_a25
  have i_a35 := isA_ext x_96 i_a35
  have i_a44 := isA_ext x_96 i_a44
  have i_a53 := isA_ext x_96 i_a53
  have i_a61 := isA_ext x_96 i_a61
  have i_a68 := isA_ext x_96 i_a68
  have iv := iv'
  refine v_aload_n C dX2_init_99 rfl ?_
  refine r2_38 C i_this o_139 dX2_init_100 ?_
  refine v_iconst (v := -1) C dX2_init_103 (by decide) ?_
  refine v_callS (As := [_, _]) (n := 2) C (ct_J7_fill_53178 l _ _ _) rfl ⟨wd289, wd55, wd56, wd57⟩ hy_J7_fill_53178 rfl ⟨Nat.le_of_ble_eq_true rfl, Nat.le_of_ble_eq_true rfl⟩ (Nat.le_of_ble_eq_true rfl) ⟨Nat.le_of_ble_eq_true rfl, Nat.le_of_ble_eq_true rfl⟩ dX2_init_104 ⟨rfl, i_a61, by decide⟩ (fun r_104 S2_104 h_104 => ?_)
  obtain ⟨rfl, e_104⟩ := h_104
  have iv' := inv_sFill e_104 iv
  have x_104 := x_sFill e_104
  have E0' := ext_tr E0 x_104 (xn nn_a61)
  have E0 := E0'
  have o_130 := mo_sFill e_104 o_130
  have o_131 := mo_sFill e_104 o_131
  have o_133 := mo_sFill e_104 o_133
  have o_134 := mo_sFill e_104 o_134
  have o_136 := mo_sFill e_104 o_136
  have o_137 := mo_sFill e_104 o_137
  have o_139 := mo_sFill e_104 o_139
  have o_140 := mo_sFill e_104 o_140
  have i_this := is_ext x_104 i_this
  have i_a5 := is_ext x_104 i_a5
  have i_a17 := isA_ext x_104 i_a17
  have i_a25 := isA_ext x_104 i_a25
  have i_a35 := isA_ext x_104 i_a35
  have i_a44 := isA_ext x_104 i_a44
  have i_a53 := isA_ext x_104 i_a53
  have i_a61 := isA_ext x_104 i_a61
  have i_a68 := isA_ext x_104 i_a68
  have iv := iv'
  refine v_vret C hr (Nat.le_of_ble_eq_true rfl) (Nat.le_of_ble_eq_true rfl) dX2_init_107 ?_
  refine ⟨rfl, inv_done iv i_this.2 ?_ (fun z => by cases z) (fun z => by cases z), E0⟩
  intro q hq hc
  rcases FT_c2 q hq hc with rfl | rfl | rfl | rfl | rfl | rfl | rfl | rfl
  · exact Or.inr ⟨_, o_130, Or.inl ⟨rfl, i_a5⟩⟩
  · exact Or.inr ⟨_, o_131, Or.inr ⟨by decide, i_a17, m_a17⟩⟩
  · exact Or.inr ⟨_, o_133, Or.inr ⟨by decide, i_a25, m_a25⟩⟩
  · exact Or.inr ⟨_, o_134, Or.inr ⟨by decide, i_a35, m_a35⟩⟩
  · exact Or.inr ⟨_, o_136, Or.inr ⟨by decide, i_a44, m_a44⟩⟩
  · exact Or.inr ⟨_, o_137, Or.inr ⟨by decide, i_a53, m_a53⟩⟩
  · exact Or.inr ⟨_, o_139, Or.inr ⟨by decide, i_a61, m_a61⟩⟩
  · exact Or.inr ⟨_, o_140, Or.inr ⟨by decide, i_a68, m_a68⟩⟩
end
