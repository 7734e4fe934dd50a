section
/-- a private method of a class that the tables say can be made, by its rows of tables_1 -/
def lw_okq (q : MethodName × Nat) : Prop := (q.1.cls ≠ "java/lang/invoke/MethodHandle" ∧ q.1.cls ≠ "java/lang/invoke/VarHandle") ∧ Cond.instantiable q.1.cls q.2 ∈ tables_1 ∧ Cond.privateMethod q.1 ∈ tables_1 ∧ Cond.instanceMethod q.1 ∈ tables_1
theorem lw_p0 : lw_okq (⟨"RopeWalk$History", "keep", "()V"⟩, 2) := ⟨⟨by decide +kernel, by decide +kernel⟩, List.mem_of_getElem? (i := 234) (by decide +kernel), List.mem_of_getElem? (i := 385) (by decide +kernel), List.mem_of_getElem? (i := 386) (by decide +kernel)⟩
theorem lw_p1 : lw_okq (⟨"RopeWalk$Yard", "canLay", "(IIII)Z"⟩, 8) := ⟨⟨by decide +kernel, by decide +kernel⟩, List.mem_of_getElem? (i := 29) (by decide +kernel), List.mem_of_getElem? (i := 430) (by decide +kernel), List.mem_of_getElem? (i := 431) (by decide +kernel)⟩
theorem lw_p2 : lw_okq (⟨"RopeWalk$Yard", "hoursLeft", "()I"⟩, 8) := ⟨⟨by decide +kernel, by decide +kernel⟩, List.mem_of_getElem? (i := 29) (by decide +kernel), List.mem_of_getElem? (i := 457) (by decide +kernel), List.mem_of_getElem? (i := 458) (by decide +kernel)⟩
theorem lw_p3 : lw_okq (⟨"RopeWalk$Stock", "move", "(IIII)V"⟩, 3) := ⟨⟨by decide +kernel, by decide +kernel⟩, List.mem_of_getElem? (i := 66) (by decide +kernel), List.mem_of_getElem? (i := 474) (by decide +kernel), List.mem_of_getElem? (i := 475) (by decide +kernel)⟩
theorem lw_p4 : lw_okq (⟨"RopeWalk$Stock", "remove", "(I)V"⟩, 3) := ⟨⟨by decide +kernel, by decide +kernel⟩, List.mem_of_getElem? (i := 66) (by decide +kernel), List.mem_of_getElem? (i := 503) (by decide +kernel), List.mem_of_getElem? (i := 504) (by decide +kernel)⟩
theorem lw_p5 : lw_okq (⟨"RopeWalk$Stock", "shortestFor", "(LRopeWalk$Order;LRopeWalk$Rules;)I"⟩, 3) := ⟨⟨by decide +kernel, by decide +kernel⟩, List.mem_of_getElem? (i := 66) (by decide +kernel), List.mem_of_getElem? (i := 558) (by decide +kernel), List.mem_of_getElem? (i := 559) (by decide +kernel)⟩
theorem lw_p6 : lw_okq (⟨"RopeWalk$Yard", "aboutRules", "(I)I"⟩, 8) := ⟨⟨by decide +kernel, by decide +kernel⟩, List.mem_of_getElem? (i := 29) (by decide +kernel), List.mem_of_getElem? (i := 625) (by decide +kernel), List.mem_of_getElem? (i := 626) (by decide +kernel)⟩
theorem lw_p7 : lw_okq (⟨"RopeWalk$Trial", "compare", "(II)V"⟩, 3) := ⟨⟨by decide +kernel, by decide +kernel⟩, List.mem_of_getElem? (i := 294) (by decide +kernel), List.mem_of_getElem? (i := 689) (by decide +kernel), List.mem_of_getElem? (i := 690) (by decide +kernel)⟩
theorem lw_p8 : lw_okq (⟨"RopeWalk$Stock", "longestLike", "(LRopeWalk$Piece;I)I"⟩, 3) := ⟨⟨by decide +kernel, by decide +kernel⟩, List.mem_of_getElem? (i := 66) (by decide +kernel), List.mem_of_getElem? (i := 708) (by decide +kernel), List.mem_of_getElem? (i := 709) (by decide +kernel)⟩
theorem lw_p9 : lw_okq (⟨"RopeWalk$Reader", "readSign", "(I)Z"⟩, 5) := ⟨⟨by decide +kernel, by decide +kernel⟩, List.mem_of_getElem? (i := 251) (by decide +kernel), List.mem_of_getElem? (i := 758) (by decide +kernel), List.mem_of_getElem? (i := 759) (by decide +kernel)⟩
theorem lw_p10 : lw_okq (⟨"RopeWalk$Reader", "here", "()I"⟩, 5) := ⟨⟨by decide +kernel, by decide +kernel⟩, List.mem_of_getElem? (i := 251) (by decide +kernel), List.mem_of_getElem? (i := 762) (by decide +kernel), List.mem_of_getElem? (i := 763) (by decide +kernel)⟩
theorem lw_p11 : lw_okq (⟨"RopeWalk$Reader", "readPart", "(I)Z"⟩, 5) := ⟨⟨by decide +kernel, by decide +kernel⟩, List.mem_of_getElem? (i := 251) (by decide +kernel), List.mem_of_getElem? (i := 826) (by decide +kernel), List.mem_of_getElem? (i := 827) (by decide +kernel)⟩
theorem lw_p12 : lw_okq (⟨"RopeWalk$Reader", "readDigit", "(II)Z"⟩, 5) := ⟨⟨by decide +kernel, by decide +kernel⟩, List.mem_of_getElem? (i := 251) (by decide +kernel), List.mem_of_getElem? (i := 830) (by decide +kernel), List.mem_of_getElem? (i := 831) (by decide +kernel)⟩
theorem lw_p13 : lw_okq (⟨"RopeWalk$Reader", "keep", "(I)V"⟩, 5) := ⟨⟨by decide +kernel, by decide +kernel⟩, List.mem_of_getElem? (i := 251) (by decide +kernel), List.mem_of_getElem? (i := 835) (by decide +kernel), List.mem_of_getElem? (i := 836) (by decide +kernel)⟩
theorem lw_p14 : lw_okq (⟨"RopeWalk$Reader", "readNumber", "()Z"⟩, 5) := ⟨⟨by decide +kernel, by decide +kernel⟩, List.mem_of_getElem? (i := 251) (by decide +kernel), List.mem_of_getElem? (i := 839) (by decide +kernel), List.mem_of_getElem? (i := 840) (by decide +kernel)⟩
theorem lw_p15 : lw_okq (⟨"RopeWalk", "doJob", "()I"⟩, 7) := ⟨⟨by decide +kernel, by decide +kernel⟩, List.mem_of_getElem? (i := 21) (by decide +kernel), List.mem_of_getElem? (i := 853) (by decide +kernel), List.mem_of_getElem? (i := 854) (by decide +kernel)⟩
def lw_privs_1 : List (MethodName × Nat) := [(⟨"RopeWalk$History", "keep", "()V"⟩, 2), (⟨"RopeWalk$Yard", "canLay", "(IIII)Z"⟩, 8), (⟨"RopeWalk$Yard", "hoursLeft", "()I"⟩, 8), (⟨"RopeWalk$Stock", "move", "(IIII)V"⟩, 3), (⟨"RopeWalk$Stock", "remove", "(I)V"⟩, 3), (⟨"RopeWalk$Stock", "shortestFor", "(LRopeWalk$Order;LRopeWalk$Rules;)I"⟩, 3), (⟨"RopeWalk$Yard", "aboutRules", "(I)I"⟩, 8), (⟨"RopeWalk$Trial", "compare", "(II)V"⟩, 3), (⟨"RopeWalk$Stock", "longestLike", "(LRopeWalk$Piece;I)I"⟩, 3), (⟨"RopeWalk$Reader", "readSign", "(I)Z"⟩, 5), (⟨"RopeWalk$Reader", "here", "()I"⟩, 5), (⟨"RopeWalk$Reader", "readPart", "(I)Z"⟩, 5), (⟨"RopeWalk$Reader", "readDigit", "(II)Z"⟩, 5), (⟨"RopeWalk$Reader", "keep", "(I)V"⟩, 5), (⟨"RopeWalk$Reader", "readNumber", "()Z"⟩, 5), (⟨"RopeWalk", "doJob", "()I"⟩, 7)]
theorem lw_r1 : ∀ q ∈ lw_privs_1, lw_okq q := List.forall_mem_cons.mpr ⟨lw_p0, List.forall_mem_cons.mpr ⟨lw_p1, List.forall_mem_cons.mpr ⟨lw_p2, List.forall_mem_cons.mpr ⟨lw_p3, List.forall_mem_cons.mpr ⟨lw_p4, List.forall_mem_cons.mpr ⟨lw_p5, List.forall_mem_cons.mpr ⟨lw_p6, List.forall_mem_cons.mpr ⟨lw_p7, List.forall_mem_cons.mpr ⟨lw_p8, List.forall_mem_cons.mpr ⟨lw_p9, List.forall_mem_cons.mpr ⟨lw_p10, List.forall_mem_cons.mpr ⟨lw_p11, List.forall_mem_cons.mpr ⟨lw_p12, List.forall_mem_cons.mpr ⟨lw_p13, List.forall_mem_cons.mpr ⟨lw_p14, List.forall_mem_cons.mpr ⟨lw_p15, fun _ h => absurd h List.not_mem_nil⟩⟩⟩⟩⟩⟩⟩⟩⟩⟩⟩⟩⟩⟩⟩⟩
theorem lw_p16 : lw_okq (⟨"RopeWalkModel", "record", "()V"⟩, 14) := ⟨⟨by decide +kernel, by decide +kernel⟩, List.mem_of_getElem? (i := 874) (by decide +kernel), List.mem_of_getElem? (i := 936) (by decide +kernel), List.mem_of_getElem? (i := 937) (by decide +kernel)⟩
theorem lw_p17 : lw_okq (⟨"RopeWalkModel", "canLay", "(IIII)Z"⟩, 14) := ⟨⟨by decide +kernel, by decide +kernel⟩, List.mem_of_getElem? (i := 874) (by decide +kernel), List.mem_of_getElem? (i := 960) (by decide +kernel), List.mem_of_getElem? (i := 961) (by decide +kernel)⟩
theorem lw_p18 : lw_okq (⟨"RopeWalkModel", "strandOf", "(I)I"⟩, 14) := ⟨⟨by decide +kernel, by decide +kernel⟩, List.mem_of_getElem? (i := 874) (by decide +kernel), List.mem_of_getElem? (i := 964) (by decide +kernel), List.mem_of_getElem? (i := 965) (by decide +kernel)⟩
theorem lw_p19 : lw_okq (⟨"RopeWalkModel", "yarnOf", "(I)I"⟩, 14) := ⟨⟨by decide +kernel, by decide +kernel⟩, List.mem_of_getElem? (i := 874) (by decide +kernel), List.mem_of_getElem? (i := 971) (by decide +kernel), List.mem_of_getElem? (i := 972) (by decide +kernel)⟩
theorem lw_p20 : lw_okq (⟨"RopeWalkModel", "hoursOf", "(II)I"⟩, 14) := ⟨⟨by decide +kernel, by decide +kernel⟩, List.mem_of_getElem? (i := 874) (by decide +kernel), List.mem_of_getElem? (i := 975) (by decide +kernel), List.mem_of_getElem? (i := 976) (by decide +kernel)⟩
theorem lw_p21 : lw_okq (⟨"RopeWalkModel", "leftHours", "()I"⟩, 14) := ⟨⟨by decide +kernel, by decide +kernel⟩, List.mem_of_getElem? (i := 874) (by decide +kernel), List.mem_of_getElem? (i := 979) (by decide +kernel), List.mem_of_getElem? (i := 980) (by decide +kernel)⟩
theorem lw_p22 : lw_okq (⟨"RopeWalkModel", "qualityOf", "(I)I"⟩, 14) := ⟨⟨by decide +kernel, by decide +kernel⟩, List.mem_of_getElem? (i := 874) (by decide +kernel), List.mem_of_getElem? (i := 983) (by decide +kernel), List.mem_of_getElem? (i := 984) (by decide +kernel)⟩
theorem lw_p23 : lw_okq (⟨"RopeWalkModel", "isPiece", "(I)Z"⟩, 14) := ⟨⟨by decide +kernel, by decide +kernel⟩, List.mem_of_getElem? (i := 874) (by decide +kernel), List.mem_of_getElem? (i := 991) (by decide +kernel), List.mem_of_getElem? (i := 992) (by decide +kernel)⟩
theorem lw_p24 : lw_okq (⟨"RopeWalkModel", "ofPiece", "(II)I"⟩, 14) := ⟨⟨by decide +kernel, by decide +kernel⟩, List.mem_of_getElem? (i := 874) (by decide +kernel), List.mem_of_getElem? (i := 995) (by decide +kernel), List.mem_of_getElem? (i := 996) (by decide +kernel)⟩
theorem lw_p25 : lw_okq (⟨"RopeWalkModel", "dropPiece", "(I)V"⟩, 14) := ⟨⟨by decide +kernel, by decide +kernel⟩, List.mem_of_getElem? (i := 874) (by decide +kernel), List.mem_of_getElem? (i := 999) (by decide +kernel), List.mem_of_getElem? (i := 1000) (by decide +kernel)⟩
theorem lw_p26 : lw_okq (⟨"RopeWalkModel", "strengthOf", "(I)I"⟩, 14) := ⟨⟨by decide +kernel, by decide +kernel⟩, List.mem_of_getElem? (i := 874) (by decide +kernel), List.mem_of_getElem? (i := 1007) (by decide +kernel), List.mem_of_getElem? (i := 1008) (by decide +kernel)⟩
theorem lw_p27 : lw_okq (⟨"RopeWalkModel", "cutFrom", "(II)I"⟩, 14) := ⟨⟨by decide +kernel, by decide +kernel⟩, List.mem_of_getElem? (i := 874) (by decide +kernel), List.mem_of_getElem? (i := 1011) (by decide +kernel), List.mem_of_getElem? (i := 1012) (by decide +kernel)⟩
theorem lw_p28 : lw_okq (⟨"RopeWalkModel", "isOrder", "(I)Z"⟩, 14) := ⟨⟨by decide +kernel, by decide +kernel⟩, List.mem_of_getElem? (i := 874) (by decide +kernel), List.mem_of_getElem? (i := 1025) (by decide +kernel), List.mem_of_getElem? (i := 1026) (by decide +kernel)⟩
theorem lw_p29 : lw_okq (⟨"RopeWalkModel", "bestPiece", "(I)I"⟩, 14) := ⟨⟨by decide +kernel, by decide +kernel⟩, List.mem_of_getElem? (i := 874) (by decide +kernel), List.mem_of_getElem? (i := 1029) (by decide +kernel), List.mem_of_getElem? (i := 1030) (by decide +kernel)⟩
theorem lw_p30 : lw_okq (⟨"RopeWalkModel", "suits", "(II)Z"⟩, 14) := ⟨⟨by decide +kernel, by decide +kernel⟩, List.mem_of_getElem? (i := 874) (by decide +kernel), List.mem_of_getElem? (i := 1033) (by decide +kernel), List.mem_of_getElem? (i := 1034) (by decide +kernel)⟩
theorem lw_p31 : lw_okq (⟨"RopeWalkModel", "orderAt", "(II)I"⟩, 14) := ⟨⟨by decide +kernel, by decide +kernel⟩, List.mem_of_getElem? (i := 874) (by decide +kernel), List.mem_of_getElem? (i := 1037) (by decide +kernel), List.mem_of_getElem? (i := 1038) (by decide +kernel)⟩
def lw_privs_2 : List (MethodName × Nat) := [(⟨"RopeWalkModel", "record", "()V"⟩, 14), (⟨"RopeWalkModel", "canLay", "(IIII)Z"⟩, 14), (⟨"RopeWalkModel", "strandOf", "(I)I"⟩, 14), (⟨"RopeWalkModel", "yarnOf", "(I)I"⟩, 14), (⟨"RopeWalkModel", "hoursOf", "(II)I"⟩, 14), (⟨"RopeWalkModel", "leftHours", "()I"⟩, 14), (⟨"RopeWalkModel", "qualityOf", "(I)I"⟩, 14), (⟨"RopeWalkModel", "isPiece", "(I)Z"⟩, 14), (⟨"RopeWalkModel", "ofPiece", "(II)I"⟩, 14), (⟨"RopeWalkModel", "dropPiece", "(I)V"⟩, 14), (⟨"RopeWalkModel", "strengthOf", "(I)I"⟩, 14), (⟨"RopeWalkModel", "cutFrom", "(II)I"⟩, 14), (⟨"RopeWalkModel", "isOrder", "(I)Z"⟩, 14), (⟨"RopeWalkModel", "bestPiece", "(I)I"⟩, 14), (⟨"RopeWalkModel", "suits", "(II)Z"⟩, 14), (⟨"RopeWalkModel", "orderAt", "(II)I"⟩, 14)]
theorem lw_r2 : ∀ q ∈ lw_privs_2, lw_okq q := List.forall_mem_cons.mpr ⟨lw_p16, List.forall_mem_cons.mpr ⟨lw_p17, List.forall_mem_cons.mpr ⟨lw_p18, List.forall_mem_cons.mpr ⟨lw_p19, List.forall_mem_cons.mpr ⟨lw_p20, List.forall_mem_cons.mpr ⟨lw_p21, List.forall_mem_cons.mpr ⟨lw_p22, List.forall_mem_cons.mpr ⟨lw_p23, List.forall_mem_cons.mpr ⟨lw_p24, List.forall_mem_cons.mpr ⟨lw_p25, List.forall_mem_cons.mpr ⟨lw_p26, List.forall_mem_cons.mpr ⟨lw_p27, List.forall_mem_cons.mpr ⟨lw_p28, List.forall_mem_cons.mpr ⟨lw_p29, List.forall_mem_cons.mpr ⟨lw_p30, List.forall_mem_cons.mpr ⟨lw_p31, fun _ h => absurd h List.not_mem_nil⟩⟩⟩⟩⟩⟩⟩⟩⟩⟩⟩⟩⟩⟩⟩⟩
theorem lw_p32 : lw_okq (⟨"RopeWalkModel", "cutFor", "(I)I"⟩, 14) := ⟨⟨by decide +kernel, by decide +kernel⟩, List.mem_of_getElem? (i := 874) (by decide +kernel), List.mem_of_getElem? (i := 1041) (by decide +kernel), List.mem_of_getElem? (i := 1042) (by decide +kernel)⟩
theorem lw_p33 : lw_okq (⟨"RopeWalkModel", "dropOrder", "(I)V"⟩, 14) := ⟨⟨by decide +kernel, by decide +kernel⟩, List.mem_of_getElem? (i := 874) (by decide +kernel), List.mem_of_getElem? (i := 1045) (by decide +kernel), List.mem_of_getElem? (i := 1046) (by decide +kernel)⟩
theorem lw_p34 : lw_okq (⟨"RopeWalkModel", "finesOf", "(I)I"⟩, 14) := ⟨⟨by decide +kernel, by decide +kernel⟩, List.mem_of_getElem? (i := 874) (by decide +kernel), List.mem_of_getElem? (i := 1057) (by decide +kernel), List.mem_of_getElem? (i := 1058) (by decide +kernel)⟩
theorem lw_p35 : lw_okq (⟨"RopeWalkModel", "suiting", "(I)I"⟩, 14) := ⟨⟨by decide +kernel, by decide +kernel⟩, List.mem_of_getElem? (i := 874) (by decide +kernel), List.mem_of_getElem? (i := 1069) (by decide +kernel), List.mem_of_getElem? (i := 1070) (by decide +kernel)⟩
theorem lw_p36 : lw_okq (⟨"RopeWalkModel", "newStrength", "(III)I"⟩, 14) := ⟨⟨by decide +kernel, by decide +kernel⟩, List.mem_of_getElem? (i := 874) (by decide +kernel), List.mem_of_getElem? (i := 1085) (by decide +kernel), List.mem_of_getElem? (i := 1086) (by decide +kernel)⟩
theorem lw_p37 : lw_okq (⟨"RopeWalkModel", "keep", "()V"⟩, 14) := ⟨⟨by decide +kernel, by decide +kernel⟩, List.mem_of_getElem? (i := 874) (by decide +kernel), List.mem_of_getElem? (i := 1101) (by decide +kernel), List.mem_of_getElem? (i := 1102) (by decide +kernel)⟩
theorem lw_p38 : lw_okq (⟨"RopeWalkModel", "comeBack", "()V"⟩, 14) := ⟨⟨by decide +kernel, by decide +kernel⟩, List.mem_of_getElem? (i := 874) (by decide +kernel), List.mem_of_getElem? (i := 1105) (by decide +kernel), List.mem_of_getElem? (i := 1106) (by decide +kernel)⟩
theorem lw_p39 : lw_okq (⟨"RopeWalkModel", "faultOf", "()I"⟩, 14) := ⟨⟨by decide +kernel, by decide +kernel⟩, List.mem_of_getElem? (i := 874) (by decide +kernel), List.mem_of_getElem? (i := 1134) (by decide +kernel), List.mem_of_getElem? (i := 1135) (by decide +kernel)⟩
theorem lw_p40 : lw_okq (⟨"RopeWalkModel", "readOne", "()V"⟩, 14) := ⟨⟨by decide +kernel, by decide +kernel⟩, List.mem_of_getElem? (i := 874) (by decide +kernel), List.mem_of_getElem? (i := 1138) (by decide +kernel), List.mem_of_getElem? (i := 1139) (by decide +kernel)⟩
theorem lw_p41 : lw_okq (⟨"RopeWalkModel", "sign", "()I"⟩, 14) := ⟨⟨by decide +kernel, by decide +kernel⟩, List.mem_of_getElem? (i := 874) (by decide +kernel), List.mem_of_getElem? (i := 1142) (by decide +kernel), List.mem_of_getElem? (i := 1143) (by decide +kernel)⟩
theorem lw_p42 : lw_okq (⟨"RopeWalkModel", "digit", "(II)I"⟩, 14) := ⟨⟨by decide +kernel, by decide +kernel⟩, List.mem_of_getElem? (i := 874) (by decide +kernel), List.mem_of_getElem? (i := 1146) (by decide +kernel), List.mem_of_getElem? (i := 1147) (by decide +kernel)⟩
theorem lw_p43 : lw_okq (⟨"RopeWalkModel", "need", "(I)V"⟩, 14) := ⟨⟨by decide +kernel, by decide +kernel⟩, List.mem_of_getElem? (i := 874) (by decide +kernel), List.mem_of_getElem? (i := 1150) (by decide +kernel), List.mem_of_getElem? (i := 1151) (by decide +kernel)⟩
theorem lw_p44 : lw_okq (⟨"RopeWalkModel", "number", "()I"⟩, 14) := ⟨⟨by decide +kernel, by decide +kernel⟩, List.mem_of_getElem? (i := 874) (by decide +kernel), List.mem_of_getElem? (i := 1154) (by decide +kernel), List.mem_of_getElem? (i := 1155) (by decide +kernel)⟩
theorem lw_p45 : lw_okq (⟨"RopeWalkModel", "carry", "(I)I"⟩, 14) := ⟨⟨by decide +kernel, by decide +kernel⟩, List.mem_of_getElem? (i := 874) (by decide +kernel), List.mem_of_getElem? (i := 1163) (by decide +kernel), List.mem_of_getElem? (i := 1164) (by decide +kernel)⟩
def lw_privs_3 : List (MethodName × Nat) := [(⟨"RopeWalkModel", "cutFor", "(I)I"⟩, 14), (⟨"RopeWalkModel", "dropOrder", "(I)V"⟩, 14), (⟨"RopeWalkModel", "finesOf", "(I)I"⟩, 14), (⟨"RopeWalkModel", "suiting", "(I)I"⟩, 14), (⟨"RopeWalkModel", "newStrength", "(III)I"⟩, 14), (⟨"RopeWalkModel", "keep", "()V"⟩, 14), (⟨"RopeWalkModel", "comeBack", "()V"⟩, 14), (⟨"RopeWalkModel", "faultOf", "()I"⟩, 14), (⟨"RopeWalkModel", "readOne", "()V"⟩, 14), (⟨"RopeWalkModel", "sign", "()I"⟩, 14), (⟨"RopeWalkModel", "digit", "(II)I"⟩, 14), (⟨"RopeWalkModel", "need", "(I)V"⟩, 14), (⟨"RopeWalkModel", "number", "()I"⟩, 14), (⟨"RopeWalkModel", "carry", "(I)I"⟩, 14)]
theorem lw_r3 : ∀ q ∈ lw_privs_3, lw_okq q := List.forall_mem_cons.mpr ⟨lw_p32, List.forall_mem_cons.mpr ⟨lw_p33, List.forall_mem_cons.mpr ⟨lw_p34, List.forall_mem_cons.mpr ⟨lw_p35, List.forall_mem_cons.mpr ⟨lw_p36, List.forall_mem_cons.mpr ⟨lw_p37, List.forall_mem_cons.mpr ⟨lw_p38, List.forall_mem_cons.mpr ⟨lw_p39, List.forall_mem_cons.mpr ⟨lw_p40, List.forall_mem_cons.mpr ⟨lw_p41, List.forall_mem_cons.mpr ⟨lw_p42, List.forall_mem_cons.mpr ⟨lw_p43, List.forall_mem_cons.mpr ⟨lw_p44, List.forall_mem_cons.mpr ⟨lw_p45, fun _ h => absurd h List.not_mem_nil⟩⟩⟩⟩⟩⟩⟩⟩⟩⟩⟩⟩⟩⟩
def lw_privs : List (MethodName × Nat) := lw_privs_1 ++ (lw_privs_2 ++ (lw_privs_3))
def lw_tbl : List Cond := k2_sels lw_privs ++ tables_1
theorem lw_privs_ok : ∀ q ∈ lw_privs, lw_okq q := by
  show ∀ q ∈ lw_privs_1 ++ (lw_privs_2 ++ (lw_privs_3)), lw_okq q
  exact List.forall_mem_append.mpr ⟨lw_r1, List.forall_mem_append.mpr ⟨lw_r2, lw_r3⟩⟩
end
section
def RX0 : String := "RopeWalk$Book"
def TX0 : u_T := fun k => match k with
  | 0 => ("RopeWalk$Book", "orders", "[LRopeWalk$Order;", true)
  | _ => ("RopeWalk$Book", "count", "I", false)
def tyX0 : Nat → FieldType := fun k => match k with
  | 0 => .array (.object "RopeWalk$Order")
  | _ => .int
abbrev wsX00 : List Cond := u_ws RX0 TX0 2
theorem nmX0 : ∀ a, a < 2 → ∀ b, b < 2 → a ≠ b → (TX0 a).2.1 ≠ (TX0 b).2.1 := by decide +kernel
theorem tyX0_ok : ∀ k, k < 2 → parseFieldDescriptor (TX0 k).2.2.1 = some (tyX0 k) := by decide +kernel
abbrev cX0_init : ByteArray := prog_2_method_1_code
def yX0_init : MethodName := ⟨RX0, "<init>", "()V"⟩
abbrev cX0_copyFrom : ByteArray := prog_2_method_2_code
def yX0_copyFrom : MethodName := ⟨RX0, "copyFrom", "(LRopeWalk$Book;)V"⟩
abbrev cX0_has : ByteArray := prog_2_method_3_code
def yX0_has : MethodName := ⟨RX0, "has", "(I)Z"⟩
abbrev cX0_isFull : ByteArray := prog_2_method_4_code
def yX0_isFull : MethodName := ⟨RX0, "isFull", "()Z"⟩
abbrev cX0_remove : ByteArray := prog_2_method_5_code
def yX0_remove : MethodName := ⟨RX0, "remove", "(I)V"⟩
abbrev cX0_lateRopes : ByteArray := prog_2_method_6_code
def yX0_lateRopes : MethodName := ⟨RX0, "lateRopes", "(II)I"⟩
def RX1 : String := "RopeWalk$History"
def TX1 : u_T := fun k => match k with
  | 0 => ("RopeWalk$History", "rows", "[LRopeWalk$Yard;", true)
  | _ => ("RopeWalk$History", "count", "I", false)
def tyX1 : Nat → FieldType := fun k => match k with
  | 0 => .array (.object "RopeWalk$Yard")
  | _ => .int
abbrev wsX10 : List Cond := u_ws RX1 TX1 2
theorem nmX1 : ∀ a, a < 2 → ∀ b, b < 2 → a ≠ b → (TX1 a).2.1 ≠ (TX1 b).2.1 := by decide +kernel
theorem tyX1_ok : ∀ k, k < 2 → parseFieldDescriptor (TX1 k).2.2.1 = some (tyX1 k) := by decide +kernel
abbrev cX1_init : ByteArray := prog_3_method_1_code
def yX1_init : MethodName := ⟨RX1, "<init>", "()V"⟩
abbrev cX1_prepare : ByteArray := prog_3_method_2_code
def yX1_prepare : MethodName := ⟨RX1, "prepare", "(LRopeWalk$Yard;)V"⟩
abbrev cX1_settle : ByteArray := prog_3_method_3_code
def yX1_settle : MethodName := ⟨RX1, "settle", "(I)I"⟩
abbrev cX1_keep : ByteArray := prog_3_method_4_code
def yX1_keep : MethodName := ⟨RX1, "keep", "()V"⟩
abbrev cX1_stepBack : ByteArray := prog_3_method_5_code
def yX1_stepBack : MethodName := ⟨RX1, "stepBack", "(LRopeWalk$Yard;)I"⟩
def RX2 : String := "RopeWalk$Order"
def TX2 : u_T := fun k => match k with
  | 0 => ("RopeWalk$Order", "fibre", "I", false)
  | 1 => ("RopeWalk$Order", "strength", "I", false)
  | 2 => ("RopeWalk$Order", "length", "I", false)
  | 3 => ("RopeWalk$Order", "wanted", "I", false)
  | 4 => ("RopeWalk$Order", "splicesAllowed", "Z", false)
  | 5 => ("RopeWalk$Order", "due", "I", false)
  | _ => ("RopeWalk$Order", "price", "I", false)
def tyX2 : Nat → FieldType := fun k => match k with
  | 0 => .int
  | 1 => .int
  | 2 => .int
  | 3 => .int
  | 4 => .boolean
  | 5 => .int
  | _ => .int
abbrev wsX20 : List Cond := u_ws RX2 TX2 7
theorem nmX2 : ∀ a, a < 7 → ∀ b, b < 7 → a ≠ b → (TX2 a).2.1 ≠ (TX2 b).2.1 := by decide +kernel
theorem tyX2_ok : ∀ k, k < 7 → parseFieldDescriptor (TX2 k).2.2.1 = some (tyX2 k) := by decide +kernel
abbrev cX2_init : ByteArray := prog_4_method_1_code
def yX2_init : MethodName := ⟨RX2, "<init>", "()V"⟩
abbrev cX2_copyFrom : ByteArray := prog_4_method_2_code
def yX2_copyFrom : MethodName := ⟨RX2, "copyFrom", "(LRopeWalk$Order;)V"⟩
def RX3 : String := "RopeWalk$Pad"
def TX3 : u_T := fun k => match k with
  | 0 => ("RopeWalk$Pad", "signs", "[C", true)
  | _ => ("RopeWalk$Pad", "length", "I", false)
def tyX3 : Nat → FieldType := fun k => match k with
  | 0 => .array .char
  | _ => .int
abbrev wsX30 : List Cond := u_ws RX3 TX3 2
theorem nmX3 : ∀ a, a < 2 → ∀ b, b < 2 → a ≠ b → (TX3 a).2.1 ≠ (TX3 b).2.1 := by decide +kernel
theorem tyX3_ok : ∀ k, k < 2 → parseFieldDescriptor (TX3 k).2.2.1 = some (tyX3 k) := by decide +kernel
abbrev cX3_init : ByteArray := prog_5_method_1_code
def yX3_init : MethodName := ⟨RX3, "<init>", "()V"⟩
abbrev cX3_append : ByteArray := prog_5_method_2_code
def yX3_append : MethodName := ⟨RX3, "append", "(J)I"⟩
abbrev cX3_codeAt : ByteArray := prog_5_method_3_code
def yX3_codeAt : MethodName := ⟨RX3, "codeAt", "(JI)I"⟩
abbrev cX3_countOf : ByteArray := prog_5_method_4_code
def yX3_countOf : MethodName := ⟨RX3, "countOf", "(J)I"⟩
abbrev cX3_clear : ByteArray := prog_5_method_5_code
def yX3_clear : MethodName := ⟨RX3, "clear", "()I"⟩
def RX4 : String := "RopeWalk$Piece"
def TX4 : u_T := fun k => match k with
  | 0 => ("RopeWalk$Piece", "fibre", "I", false)
  | 1 => ("RopeWalk$Piece", "strands", "I", false)
  | 2 => ("RopeWalk$Piece", "yarns", "I", false)
  | 3 => ("RopeWalk$Piece", "length", "I", false)
  | 4 => ("RopeWalk$Piece", "yarn", "I", false)
  | 5 => ("RopeWalk$Piece", "quality", "I", false)
  | _ => ("RopeWalk$Piece", "splices", "I", false)
def tyX4 : Nat → FieldType := fun k => match k with
  | 0 => .int
  | 1 => .int
  | 2 => .int
  | 3 => .int
  | 4 => .int
  | 5 => .int
  | _ => .int
abbrev wsX40 : List Cond := u_ws RX4 TX4 7
theorem nmX4 : ∀ a, a < 7 → ∀ b, b < 7 → a ≠ b → (TX4 a).2.1 ≠ (TX4 b).2.1 := by decide +kernel
theorem tyX4_ok : ∀ k, k < 7 → parseFieldDescriptor (TX4 k).2.2.1 = some (tyX4 k) := by decide +kernel
abbrev cX4_init : ByteArray := prog_6_method_1_code
def yX4_init : MethodName := ⟨RX4, "<init>", "()V"⟩
abbrev cX4_copyFrom : ByteArray := prog_6_method_2_code
def yX4_copyFrom : MethodName := ⟨RX4, "copyFrom", "(LRopeWalk$Piece;)V"⟩
abbrev cX4_isLike : ByteArray := prog_6_method_3_code
def yX4_isLike : MethodName := ⟨RX4, "isLike", "(LRopeWalk$Piece;)Z"⟩
abbrev cX4_yarnIn : ByteArray := prog_6_method_4_code
def yX4_yarnIn : MethodName := ⟨RX4, "yarnIn", "(I)I"⟩
def RX5 : String := "RopeWalk$Reader"
def TX5 : u_T := fun k => match k with
  | 0 => ("RopeWalk$Reader", "pad", "LRopeWalk$Pad;", true)
  | 1 => ("RopeWalk$Reader", "at", "I", false)
  | 2 => ("RopeWalk$Reader", "kind", "I", false)
  | 3 => ("RopeWalk$Reader", "numbers", "[I", true)
  | _ => ("RopeWalk$Reader", "found", "I", false)
def tyX5 : Nat → FieldType := fun k => match k with
  | 0 => .object "RopeWalk$Pad"
  | 1 => .int
  | 2 => .int
  | 3 => .array .int
  | _ => .int
abbrev wsX50 : List Cond := u_ws RX5 TX5 5
theorem nmX5 : ∀ a, a < 5 → ∀ b, b < 5 → a ≠ b → (TX5 a).2.1 ≠ (TX5 b).2.1 := by decide +kernel
theorem tyX5_ok : ∀ k, k < 5 → parseFieldDescriptor (TX5 k).2.2.1 = some (tyX5 k) := by decide +kernel
abbrev cX5_init : ByteArray := prog_7_method_1_code
def yX5_init : MethodName := ⟨RX5, "<init>", "()V"⟩
abbrev cX5_rewind : ByteArray := prog_7_method_2_code
def yX5_rewind : MethodName := ⟨RX5, "rewind", "()V"⟩
abbrev cX5_firstFault : ByteArray := prog_7_method_3_code
def yX5_firstFault : MethodName := ⟨RX5, "firstFault", "()I"⟩
abbrev cX5_nextJob : ByteArray := prog_7_method_4_code
def yX5_nextJob : MethodName := ⟨RX5, "nextJob", "()Z"⟩
abbrev cX5_shapeOf : ByteArray := prog_7_method_5_code
def yX5_shapeOf : MethodName := ⟨RX5, "shapeOf", "(I)Ljava/lang/String;"⟩
abbrev cX5_here : ByteArray := prog_7_method_6_code
def yX5_here : MethodName := ⟨RX5, "here", "()I"⟩
abbrev cX5_readPart : ByteArray := prog_7_method_7_code
def yX5_readPart : MethodName := ⟨RX5, "readPart", "(I)Z"⟩
abbrev cX5_readSign : ByteArray := prog_7_method_8_code
def yX5_readSign : MethodName := ⟨RX5, "readSign", "(I)Z"⟩
abbrev cX5_readDigit : ByteArray := prog_7_method_9_code
def yX5_readDigit : MethodName := ⟨RX5, "readDigit", "(II)Z"⟩
abbrev cX5_readNumber : ByteArray := prog_7_method_10_code
def yX5_readNumber : MethodName := ⟨RX5, "readNumber", "()Z"⟩
abbrev cX5_isDigit : ByteArray := prog_7_method_11_code
def yX5_isDigit : MethodName := ⟨RX5, "isDigit", "(I)Z"⟩
abbrev cX5_keep : ByteArray := prog_7_method_12_code
def yX5_keep : MethodName := ⟨RX5, "keep", "(I)V"⟩
def RX6 : String := "RopeWalk$Rules"
def TX6 : u_T := fun k => match k with
  | 0 => ("RopeWalk$Rules", "settings", "[I", true)
  | 1 => ("RopeWalk$Rules", "strengths", "[I", true)
  | _ => ("RopeWalk$Rules", "twists", "[I", true)
def tyX6 : Nat → FieldType := fun k => match k with
  | 0 => .array .int
  | 1 => .array .int
  | _ => .array .int
abbrev wsX60 : List Cond := u_ws RX6 TX6 3
theorem nmX6 : ∀ a, a < 3 → ∀ b, b < 3 → a ≠ b → (TX6 a).2.1 ≠ (TX6 b).2.1 := by decide +kernel
theorem tyX6_ok : ∀ k, k < 3 → parseFieldDescriptor (TX6 k).2.2.1 = some (tyX6 k) := by decide +kernel
abbrev cX6_init : ByteArray := prog_8_method_1_code
def yX6_init : MethodName := ⟨RX6, "<init>", "()V"⟩
abbrev cX6_copyFrom : ByteArray := prog_8_method_2_code
def yX6_copyFrom : MethodName := ⟨RX6, "copyFrom", "(LRopeWalk$Rules;)V"⟩
abbrev cX6_strandLength : ByteArray := prog_8_method_3_code
def yX6_strandLength : MethodName := ⟨RX6, "strandLength", "(I)I"⟩
abbrev cX6_yarnLength : ByteArray := prog_8_method_4_code
def yX6_yarnLength : MethodName := ⟨RX6, "yarnLength", "(I)I"⟩
abbrev cX6_lengthened : ByteArray := prog_8_method_5_code
def yX6_lengthened : MethodName := ⟨RX6, "lengthened", "(II)I"⟩
abbrev cX6_yarnFor : ByteArray := prog_8_method_6_code
def yX6_yarnFor : MethodName := ⟨RX6, "yarnFor", "(III)I"⟩
abbrev cX6_hoursFor : ByteArray := prog_8_method_7_code
def yX6_hoursFor : MethodName := ⟨RX6, "hoursFor", "(II)I"⟩
abbrev cX6_qualityNow : ByteArray := prog_8_method_8_code
def yX6_qualityNow : MethodName := ⟨RX6, "qualityNow", "(I)I"⟩
abbrev cX6_newStrength : ByteArray := prog_8_method_9_code
def yX6_newStrength : MethodName := ⟨RX6, "newStrength", "(III)I"⟩
abbrev cX6_strengthOf : ByteArray := prog_8_method_10_code
def yX6_strengthOf : MethodName := ⟨RX6, "strengthOf", "(LRopeWalk$Piece;)I"⟩
abbrev cX6_suits : ByteArray := prog_8_method_11_code
def yX6_suits : MethodName := ⟨RX6, "suits", "(LRopeWalk$Piece;LRopeWalk$Order;)Z"⟩
abbrev cX6_aboutNewRope : ByteArray := prog_8_method_12_code
def yX6_aboutNewRope : MethodName := ⟨RX6, "aboutNewRope", "(IIIII)I"⟩
abbrev cX6_fewestYarns : ByteArray := prog_8_method_13_code
def yX6_fewestYarns : MethodName := ⟨RX6, "fewestYarns", "(III)I"⟩
def RX7 : String := "RopeWalk$Stock"
def TX7 : u_T := fun k => match k with
  | 0 => ("RopeWalk$Stock", "pieces", "[LRopeWalk$Piece;", true)
  | 1 => ("RopeWalk$Stock", "count", "I", false)
  | _ => ("RopeWalk$Stock", "accounts", "[[I", true)
def tyX7 : Nat → FieldType := fun k => match k with
  | 0 => .array (.object "RopeWalk$Piece")
  | 1 => .int
  | _ => .array (.array .int)
abbrev wsX70 : List Cond := u_ws RX7 TX7 3
theorem nmX7 : ∀ a, a < 3 → ∀ b, b < 3 → a ≠ b → (TX7 a).2.1 ≠ (TX7 b).2.1 := by decide +kernel
theorem tyX7_ok : ∀ k, k < 3 → parseFieldDescriptor (TX7 k).2.2.1 = some (tyX7 k) := by decide +kernel
abbrev cX7_init : ByteArray := prog_9_method_1_code
def yX7_init : MethodName := ⟨RX7, "<init>", "()V"⟩
abbrev cX7_copyFrom : ByteArray := prog_9_method_2_code
def yX7_copyFrom : MethodName := ⟨RX7, "copyFrom", "(LRopeWalk$Stock;)V"⟩
abbrev cX7_has : ByteArray := prog_9_method_3_code
def yX7_has : MethodName := ⟨RX7, "has", "(I)Z"⟩
abbrev cX7_isFull : ByteArray := prog_9_method_4_code
def yX7_isFull : MethodName := ⟨RX7, "isFull", "()Z"⟩
abbrev cX7_move : ByteArray := prog_9_method_5_code
def yX7_move : MethodName := ⟨RX7, "move", "(IIII)V"⟩
abbrev cX7_addYarn : ByteArray := prog_9_method_6_code
def yX7_addYarn : MethodName := ⟨RX7, "addYarn", "(II)I"⟩
abbrev cX7_addRope : ByteArray := prog_9_method_7_code
def yX7_addRope : MethodName := ⟨RX7, "addRope", "(IIIILRopeWalk$Rules;)I"⟩
abbrev cX7_remove : ByteArray := prog_9_method_8_code
def yX7_remove : MethodName := ⟨RX7, "remove", "(I)V"⟩
abbrev cX7_splice : ByteArray := prog_9_method_9_code
def yX7_splice : MethodName := ⟨RX7, "splice", "(III)I"⟩
abbrev cX7_cut : ByteArray := prog_9_method_10_code
def yX7_cut : MethodName := ⟨RX7, "cut", "(IIII)V"⟩
abbrev cX7_cutFor : ByteArray := prog_9_method_11_code
def yX7_cutFor : MethodName := ⟨RX7, "cutFor", "(LRopeWalk$Order;LRopeWalk$Rules;)I"⟩
abbrev cX7_shortestFor : ByteArray := prog_9_method_12_code
def yX7_shortestFor : MethodName := ⟨RX7, "shortestFor", "(LRopeWalk$Order;LRopeWalk$Rules;)I"⟩
abbrev cX7_suitingCount : ByteArray := prog_9_method_13_code
def yX7_suitingCount : MethodName := ⟨RX7, "suitingCount", "(LRopeWalk$Order;LRopeWalk$Rules;)I"⟩
abbrev cX7_fewestFor : ByteArray := prog_9_method_14_code
def yX7_fewestFor : MethodName := ⟨RX7, "fewestFor", "(III)I"⟩
abbrev cX7_longestLike : ByteArray := prog_9_method_15_code
def yX7_longestLike : MethodName := ⟨RX7, "longestLike", "(LRopeWalk$Piece;I)I"⟩
def RX8 : String := "RopeWalk$Trial"
def TX8 : u_T := fun k => match k with
  | 0 => ("RopeWalk$Trial", "stocks", "[LRopeWalk$Stock;", true)
  | 1 => ("RopeWalk$Trial", "bestMask", "I", false)
  | _ => ("RopeWalk$Trial", "bestSum", "I", false)
def tyX8 : Nat → FieldType := fun k => match k with
  | 0 => .array (.object "RopeWalk$Stock")
  | 1 => .int
  | _ => .int
abbrev wsX80 : List Cond := u_ws RX8 TX8 3
theorem nmX8 : ∀ a, a < 3 → ∀ b, b < 3 → a ≠ b → (TX8 a).2.1 ≠ (TX8 b).2.1 := by decide +kernel
theorem tyX8_ok : ∀ k, k < 3 → parseFieldDescriptor (TX8 k).2.2.1 = some (tyX8 k) := by decide +kernel
abbrev cX8_init : ByteArray := prog_10_method_1_code
def yX8_init : MethodName := ⟨RX8, "<init>", "()V"⟩
abbrev cX8_fillOne : ByteArray := prog_10_method_2_code
def yX8_fillOne : MethodName := ⟨RX8, "fillOne", "(LRopeWalk$Yard;II)I"⟩
abbrev cX8_findBestSet : ByteArray := prog_10_method_3_code
def yX8_findBestSet : MethodName := ⟨RX8, "findBestSet", "(LRopeWalk$Yard;)V"⟩
abbrev cX8_choose : ByteArray := prog_10_method_4_code
def yX8_choose : MethodName := ⟨RX8, "choose", "(LRopeWalk$Trial;LRopeWalk$Yard;III)V"⟩
abbrev cX8_compare : ByteArray := prog_10_method_5_code
def yX8_compare : MethodName := ⟨RX8, "compare", "(II)V"⟩
def RX9 : String := "RopeWalk$Yard"
def TX9 : u_T := fun k => match k with
  | 0 => ("RopeWalk$Yard", "rules", "LRopeWalk$Rules;", true)
  | 1 => ("RopeWalk$Yard", "stock", "LRopeWalk$Stock;", true)
  | 2 => ("RopeWalk$Yard", "book", "LRopeWalk$Book;", true)
  | 3 => ("RopeWalk$Yard", "today", "I", false)
  | 4 => ("RopeWalk$Yard", "hoursUsed", "I", false)
  | 5 => ("RopeWalk$Yard", "ropesSold", "I", false)
  | 6 => ("RopeWalk$Yard", "got", "I", false)
  | _ => ("RopeWalk$Yard", "fines", "I", false)
def tyX9 : Nat → FieldType := fun k => match k with
  | 0 => .object "RopeWalk$Rules"
  | 1 => .object "RopeWalk$Stock"
  | 2 => .object "RopeWalk$Book"
  | 3 => .int
  | 4 => .int
  | 5 => .int
  | 6 => .int
  | _ => .int
abbrev wsX90 : List Cond := u_ws RX9 TX9 8
theorem nmX9 : ∀ a, a < 8 → ∀ b, b < 8 → a ≠ b → (TX9 a).2.1 ≠ (TX9 b).2.1 := by decide +kernel
theorem tyX9_ok : ∀ k, k < 8 → parseFieldDescriptor (TX9 k).2.2.1 = some (tyX9 k) := by decide +kernel
abbrev cX9_init : ByteArray := prog_11_method_1_code
def yX9_init : MethodName := ⟨RX9, "<init>", "()V"⟩
abbrev cX9_copyFrom : ByteArray := prog_11_method_2_code
def yX9_copyFrom : MethodName := ⟨RX9, "copyFrom", "(LRopeWalk$Yard;)V"⟩
abbrev cX9_changeSetting : ByteArray := prog_11_method_3_code
def yX9_changeSetting : MethodName := ⟨RX9, "changeSetting", "(II)I"⟩
abbrev cX9_changeFibre : ByteArray := prog_11_method_4_code
def yX9_changeFibre : MethodName := ⟨RX9, "changeFibre", "(III)I"⟩
abbrev cX9_spinYarn : ByteArray := prog_11_method_5_code
def yX9_spinYarn : MethodName := ⟨RX9, "spinYarn", "(II)I"⟩
abbrev cX9_layRope : ByteArray := prog_11_method_6_code
def yX9_layRope : MethodName := ⟨RX9, "layRope", "(IIII)I"⟩
abbrev cX9_canLay : ByteArray := prog_11_method_7_code
def yX9_canLay : MethodName := ⟨RX9, "canLay", "(IIII)Z"⟩
abbrev cX9_hoursLeft : ByteArray := prog_11_method_8_code
def yX9_hoursLeft : MethodName := ⟨RX9, "hoursLeft", "()I"⟩
abbrev cX9_longestRope : ByteArray := prog_11_method_9_code
def yX9_longestRope : MethodName := ⟨RX9, "longestRope", "(III)I"⟩
abbrev cX9_joinPieces : ByteArray := prog_11_method_10_code
def yX9_joinPieces : MethodName := ⟨RX9, "joinPieces", "(II)I"⟩
abbrev cX9_testPiece : ByteArray := prog_11_method_11_code
def yX9_testPiece : MethodName := ⟨RX9, "testPiece", "(I)I"⟩
abbrev cX9_takeOrder : ByteArray := prog_11_method_12_code
def yX9_takeOrder : MethodName := ⟨RX9, "takeOrder", "(IIIIII)I"⟩
abbrev cX9_fillOrder : ByteArray := prog_11_method_13_code
def yX9_fillOrder : MethodName := ⟨RX9, "fillOrder", "(I)I"⟩
abbrev cX9_dropOrder : ByteArray := prog_11_method_14_code
def yX9_dropOrder : MethodName := ⟨RX9, "dropOrder", "(I)I"⟩
abbrev cX9_passDays : ByteArray := prog_11_method_15_code
def yX9_passDays : MethodName := ⟨RX9, "passDays", "(I)I"⟩
abbrev cX9_finesOver : ByteArray := prog_11_method_16_code
def yX9_finesOver : MethodName := ⟨RX9, "finesOver", "(I)I"⟩
abbrev cX9_aboutPiece : ByteArray := prog_11_method_17_code
def yX9_aboutPiece : MethodName := ⟨RX9, "aboutPiece", "(II)I"⟩
abbrev cX9_aboutOrder : ByteArray := prog_11_method_18_code
def yX9_aboutOrder : MethodName := ⟨RX9, "aboutOrder", "(II)I"⟩
abbrev cX9_aboutAll : ByteArray := prog_11_method_19_code
def yX9_aboutAll : MethodName := ⟨RX9, "aboutAll", "(I)I"⟩
abbrev cX9_aboutRules : ByteArray := prog_11_method_20_code
def yX9_aboutRules : MethodName := ⟨RX9, "aboutRules", "(I)I"⟩
def RX10 : String := "RopeWalk"
def TX10 : u_T := fun k => match k with
  | 0 => ("RopeWalk", "yard", "LRopeWalk$Yard;", true)
  | 1 => ("RopeWalk", "history", "LRopeWalk$History;", true)
  | 2 => ("RopeWalk", "slots", "[LRopeWalk$Yard;", true)
  | 3 => ("RopeWalk", "saved", "[Z", true)
  | 4 => ("RopeWalk", "reader", "LRopeWalk$Reader;", true)
  | 5 => ("RopeWalk", "pad", "LRopeWalk$Pad;", true)
  | _ => ("RopeWalk", "trial", "LRopeWalk$Trial;", true)
def tyX10 : Nat → FieldType := fun k => match k with
  | 0 => .object "RopeWalk$Yard"
  | 1 => .object "RopeWalk$History"
  | 2 => .array (.object "RopeWalk$Yard")
  | 3 => .array .boolean
  | 4 => .object "RopeWalk$Reader"
  | 5 => .object "RopeWalk$Pad"
  | _ => .object "RopeWalk$Trial"
abbrev wsX100 : List Cond := u_ws RX10 TX10 7
theorem nmX10 : ∀ a, a < 7 → ∀ b, b < 7 → a ≠ b → (TX10 a).2.1 ≠ (TX10 b).2.1 := by decide +kernel
theorem tyX10_ok : ∀ k, k < 7 → parseFieldDescriptor (TX10 k).2.2.1 = some (tyX10 k) := by decide +kernel
abbrev cX10_init : ByteArray := prog_1_method_1_code
def yX10_init : MethodName := ⟨RX10, "<init>", "()V"⟩
abbrev cX10_set : ByteArray := prog_1_method_2_code
def yX10_set : MethodName := ⟨RX10, "set", "(II)I"⟩
abbrev cX10_fibre : ByteArray := prog_1_method_3_code
def yX10_fibre : MethodName := ⟨RX10, "fibre", "(III)I"⟩
abbrev cX10_spin : ByteArray := prog_1_method_4_code
def yX10_spin : MethodName := ⟨RX10, "spin", "(II)I"⟩
abbrev cX10_lay : ByteArray := prog_1_method_5_code
def yX10_lay : MethodName := ⟨RX10, "lay", "(IIII)I"⟩
abbrev cX10_join : ByteArray := prog_1_method_6_code
def yX10_join : MethodName := ⟨RX10, "join", "(II)I"⟩
abbrev cX10_test : ByteArray := prog_1_method_7_code
def yX10_test : MethodName := ⟨RX10, "test", "(I)I"⟩
abbrev cX10_order : ByteArray := prog_1_method_8_code
def yX10_order : MethodName := ⟨RX10, "order", "(IIIIII)I"⟩
abbrev cX10_fill : ByteArray := prog_1_method_9_code
def yX10_fill : MethodName := ⟨RX10, "fill", "(I)I"⟩
abbrev cX10_drop : ByteArray := prog_1_method_10_code
def yX10_drop : MethodName := ⟨RX10, "drop", "(I)I"⟩
abbrev cX10_pass : ByteArray := prog_1_method_11_code
def yX10_pass : MethodName := ⟨RX10, "pass", "(I)I"⟩
abbrev cX10_piece : ByteArray := prog_1_method_12_code
def yX10_piece : MethodName := ⟨RX10, "piece", "(II)I"⟩
abbrev cX10_ofOrder : ByteArray := prog_1_method_13_code
def yX10_ofOrder : MethodName := ⟨RX10, "ofOrder", "(II)I"⟩
abbrev cX10_count : ByteArray := prog_1_method_14_code
def yX10_count : MethodName := ⟨RX10, "count", "(I)I"⟩
abbrev cX10_account : ByteArray := prog_1_method_15_code
def yX10_account : MethodName := ⟨RX10, "account", "(II)I"⟩
abbrev cX10_takes : ByteArray := prog_1_method_16_code
def yX10_takes : MethodName := ⟨RX10, "takes", "(IIIII)I"⟩
abbrev cX10_longest : ByteArray := prog_1_method_17_code
def yX10_longest : MethodName := ⟨RX10, "longest", "(III)I"⟩
abbrev cX10_leastYarns : ByteArray := prog_1_method_18_code
def yX10_leastYarns : MethodName := ⟨RX10, "leastYarns", "(III)I"⟩
abbrev cX10_wouldFill : ByteArray := prog_1_method_19_code
def yX10_wouldFill : MethodName := ⟨RX10, "wouldFill", "(II)I"⟩
abbrev cX10_bestSet : ByteArray := prog_1_method_20_code
def yX10_bestSet : MethodName := ⟨RX10, "bestSet", "(I)I"⟩
abbrev cX10_fewestJoined : ByteArray := prog_1_method_21_code
def yX10_fewestJoined : MethodName := ⟨RX10, "fewestJoined", "(II)I"⟩
abbrev cX10_finesIn : ByteArray := prog_1_method_22_code
def yX10_finesIn : MethodName := ⟨RX10, "finesIn", "(I)I"⟩
abbrev cX10_put : ByteArray := prog_1_method_23_code
def yX10_put : MethodName := ⟨RX10, "put", "(J)I"⟩
abbrev cX10_wipe : ByteArray := prog_1_method_24_code
def yX10_wipe : MethodName := ⟨RX10, "wipe", "()I"⟩
abbrev cX10_fault : ByteArray := prog_1_method_25_code
def yX10_fault : MethodName := ⟨RX10, "fault", "()I"⟩
abbrev cX10_carryOut : ByteArray := prog_1_method_26_code
def yX10_carryOut : MethodName := ⟨RX10, "carryOut", "()I"⟩
abbrev cX10_doJob : ByteArray := prog_1_method_27_code
def yX10_doJob : MethodName := ⟨RX10, "doJob", "()I"⟩
abbrev cX10_undo : ByteArray := prog_1_method_28_code
def yX10_undo : MethodName := ⟨RX10, "undo", "()I"⟩
abbrev cX10_save : ByteArray := prog_1_method_29_code
def yX10_save : MethodName := ⟨RX10, "save", "(I)I"⟩
abbrev cX10_restore : ByteArray := prog_1_method_30_code
def yX10_restore : MethodName := ⟨RX10, "restore", "(I)I"⟩
abbrev cX10_inRange : ByteArray := prog_1_method_31_code
def yX10_inRange : MethodName := ⟨RX10, "inRange", "(III)Z"⟩
abbrev cX10_isFibre : ByteArray := prog_1_method_32_code
def yX10_isFibre : MethodName := ⟨RX10, "isFibre", "(I)Z"⟩
abbrev cX10_isMake : ByteArray := prog_1_method_33_code
def yX10_isMake : MethodName := ⟨RX10, "isMake", "(II)Z"⟩
def RX11 : String := "RopeWalkModel"
def TX11 : u_T := fun k => match k with
  | 0 => ("RopeWalkModel", "now", "[I", true)
  | 1 => ("RopeWalkModel", "kept", "[I", true)
  | 2 => ("RopeWalkModel", "history", "[I", true)
  | 3 => ("RopeWalkModel", "undos", "I", false)
  | 4 => ("RopeWalkModel", "saved", "[I", true)
  | 5 => ("RopeWalkModel", "isSaved", "[Z", true)
  | 6 => ("RopeWalkModel", "pad", "[I", true)
  | 7 => ("RopeWalkModel", "signs", "I", false)
  | 8 => ("RopeWalkModel", "isInText", "Z", false)
  | 9 => ("RopeWalkModel", "isUsed", "[Z", true)
  | 10 => ("RopeWalkModel", "jobs", "[I", true)
  | 11 => ("RopeWalkModel", "many", "I", false)
  | 12 => ("RopeWalkModel", "at", "I", false)
  | _ => ("RopeWalkModel", "isWrong", "Z", false)
def tyX11 : Nat → FieldType := fun k => match k with
  | 0 => .array .int
  | 1 => .array .int
  | 2 => .array .int
  | 3 => .int
  | 4 => .array .int
  | 5 => .array .boolean
  | 6 => .array .int
  | 7 => .int
  | 8 => .boolean
  | 9 => .array .boolean
  | 10 => .array .int
  | 11 => .int
  | 12 => .int
  | _ => .boolean
abbrev wsX110 : List Cond := u_ws RX11 TX11 14
theorem nmX11 : ∀ a, a < 14 → ∀ b, b < 14 → a ≠ b → (TX11 a).2.1 ≠ (TX11 b).2.1 := by decide +kernel
theorem tyX11_ok : ∀ k, k < 14 → parseFieldDescriptor (TX11 k).2.2.1 = some (tyX11 k) := by decide +kernel
abbrev cX11_init : ByteArray := prog_13_method_1_code
def yX11_init : MethodName := ⟨RX11, "<init>", "()V"⟩
abbrev cX11_in : ByteArray := prog_13_method_2_code
def yX11_in : MethodName := ⟨RX11, "in", "(III)Z"⟩
abbrev cX11_up : ByteArray := prog_13_method_3_code
def yX11_up : MethodName := ⟨RX11, "up", "(II)I"⟩
abbrev cX11_record : ByteArray := prog_13_method_4_code
def yX11_record : MethodName := ⟨RX11, "record", "()V"⟩
abbrev cX11_keep : ByteArray := prog_13_method_5_code
def yX11_keep : MethodName := ⟨RX11, "keep", "()V"⟩
abbrev cX11_comeBack : ByteArray := prog_13_method_6_code
def yX11_comeBack : MethodName := ⟨RX11, "comeBack", "()V"⟩
abbrev cX11_least : ByteArray := prog_13_method_7_code
def yX11_least : MethodName := ⟨RX11, "least", "(I)I"⟩
abbrev cX11_most : ByteArray := prog_13_method_8_code
def yX11_most : MethodName := ⟨RX11, "most", "(I)I"⟩
abbrev cX11_set : ByteArray := prog_13_method_9_code
def yX11_set : MethodName := ⟨RX11, "set", "(II)I"⟩
abbrev cX11_isFibre : ByteArray := prog_13_method_10_code
def yX11_isFibre : MethodName := ⟨RX11, "isFibre", "(I)Z"⟩
abbrev cX11_fibre : ByteArray := prog_13_method_11_code
def yX11_fibre : MethodName := ⟨RX11, "fibre", "(III)I"⟩
abbrev cX11_spin : ByteArray := prog_13_method_12_code
def yX11_spin : MethodName := ⟨RX11, "spin", "(II)I"⟩
abbrev cX11_strandOf : ByteArray := prog_13_method_13_code
def yX11_strandOf : MethodName := ⟨RX11, "strandOf", "(I)I"⟩
abbrev cX11_yarnOf : ByteArray := prog_13_method_14_code
def yX11_yarnOf : MethodName := ⟨RX11, "yarnOf", "(I)I"⟩
abbrev cX11_hoursOf : ByteArray := prog_13_method_15_code
def yX11_hoursOf : MethodName := ⟨RX11, "hoursOf", "(II)I"⟩
abbrev cX11_qualityOf : ByteArray := prog_13_method_16_code
def yX11_qualityOf : MethodName := ⟨RX11, "qualityOf", "(I)I"⟩
abbrev cX11_leftHours : ByteArray := prog_13_method_17_code
def yX11_leftHours : MethodName := ⟨RX11, "leftHours", "()I"⟩
abbrev cX11_areStrands : ByteArray := prog_13_method_18_code
def yX11_areStrands : MethodName := ⟨RX11, "areStrands", "(II)Z"⟩
abbrev cX11_canLay : ByteArray := prog_13_method_19_code
def yX11_canLay : MethodName := ⟨RX11, "canLay", "(IIII)Z"⟩
abbrev cX11_lay : ByteArray := prog_13_method_20_code
def yX11_lay : MethodName := ⟨RX11, "lay", "(IIII)I"⟩
abbrev cX11_isPiece : ByteArray := prog_13_method_21_code
def yX11_isPiece : MethodName := ⟨RX11, "isPiece", "(I)Z"⟩
abbrev cX11_ofPiece : ByteArray := prog_13_method_22_code
def yX11_ofPiece : MethodName := ⟨RX11, "ofPiece", "(II)I"⟩
abbrev cX11_strengthOf : ByteArray := prog_13_method_23_code
def yX11_strengthOf : MethodName := ⟨RX11, "strengthOf", "(I)I"⟩
abbrev cX11_dropPiece : ByteArray := prog_13_method_24_code
def yX11_dropPiece : MethodName := ⟨RX11, "dropPiece", "(I)V"⟩
abbrev cX11_cutFrom : ByteArray := prog_13_method_25_code
def yX11_cutFrom : MethodName := ⟨RX11, "cutFrom", "(II)I"⟩
abbrev cX11_join : ByteArray := prog_13_method_26_code
def yX11_join : MethodName := ⟨RX11, "join", "(II)I"⟩
abbrev cX11_test : ByteArray := prog_13_method_27_code
def yX11_test : MethodName := ⟨RX11, "test", "(I)I"⟩
abbrev cX11_isOrder : ByteArray := prog_13_method_28_code
def yX11_isOrder : MethodName := ⟨RX11, "isOrder", "(I)Z"⟩
abbrev cX11_orderAt : ByteArray := prog_13_method_29_code
def yX11_orderAt : MethodName := ⟨RX11, "orderAt", "(II)I"⟩
abbrev cX11_dropOrder : ByteArray := prog_13_method_30_code
def yX11_dropOrder : MethodName := ⟨RX11, "dropOrder", "(I)V"⟩
abbrev cX11_order : ByteArray := prog_13_method_31_code
def yX11_order : MethodName := ⟨RX11, "order", "(IIIIII)I"⟩
abbrev cX11_suits : ByteArray := prog_13_method_32_code
def yX11_suits : MethodName := ⟨RX11, "suits", "(II)Z"⟩
abbrev cX11_bestPiece : ByteArray := prog_13_method_33_code
def yX11_bestPiece : MethodName := ⟨RX11, "bestPiece", "(I)I"⟩
abbrev cX11_cutFor : ByteArray := prog_13_method_34_code
def yX11_cutFor : MethodName := ⟨RX11, "cutFor", "(I)I"⟩
abbrev cX11_fill : ByteArray := prog_13_method_35_code
def yX11_fill : MethodName := ⟨RX11, "fill", "(I)I"⟩
abbrev cX11_drop : ByteArray := prog_13_method_36_code
def yX11_drop : MethodName := ⟨RX11, "drop", "(I)I"⟩
abbrev cX11_pass : ByteArray := prog_13_method_37_code
def yX11_pass : MethodName := ⟨RX11, "pass", "(I)I"⟩
abbrev cX11_finesOf : ByteArray := prog_13_method_38_code
def yX11_finesOf : MethodName := ⟨RX11, "finesOf", "(I)I"⟩
abbrev cX11_piece : ByteArray := prog_13_method_39_code
def yX11_piece : MethodName := ⟨RX11, "piece", "(II)I"⟩
abbrev cX11_suiting : ByteArray := prog_13_method_40_code
def yX11_suiting : MethodName := ⟨RX11, "suiting", "(I)I"⟩
abbrev cX11_ofOrder : ByteArray := prog_13_method_41_code
def yX11_ofOrder : MethodName := ⟨RX11, "ofOrder", "(II)I"⟩
abbrev cX11_count : ByteArray := prog_13_method_42_code
def yX11_count : MethodName := ⟨RX11, "count", "(I)I"⟩
abbrev cX11_account : ByteArray := prog_13_method_43_code
def yX11_account : MethodName := ⟨RX11, "account", "(II)I"⟩
abbrev cX11_newStrength : ByteArray := prog_13_method_44_code
def yX11_newStrength : MethodName := ⟨RX11, "newStrength", "(III)I"⟩
abbrev cX11_takes : ByteArray := prog_13_method_45_code
def yX11_takes : MethodName := ⟨RX11, "takes", "(IIIII)I"⟩
abbrev cX11_longest : ByteArray := prog_13_method_46_code
def yX11_longest : MethodName := ⟨RX11, "longest", "(III)I"⟩
abbrev cX11_leastYarns : ByteArray := prog_13_method_47_code
def yX11_leastYarns : MethodName := ⟨RX11, "leastYarns", "(III)I"⟩
abbrev cX11_wouldFill : ByteArray := prog_13_method_48_code
def yX11_wouldFill : MethodName := ⟨RX11, "wouldFill", "(II)I"⟩
abbrev cX11_bestSet : ByteArray := prog_13_method_49_code
def yX11_bestSet : MethodName := ⟨RX11, "bestSet", "(I)I"⟩
abbrev cX11_fewestJoined : ByteArray := prog_13_method_50_code
def yX11_fewestJoined : MethodName := ⟨RX11, "fewestJoined", "(II)I"⟩
abbrev cX11_finesIn : ByteArray := prog_13_method_51_code
def yX11_finesIn : MethodName := ⟨RX11, "finesIn", "(I)I"⟩
abbrev cX11_sign : ByteArray := prog_13_method_52_code
def yX11_sign : MethodName := ⟨RX11, "sign", "()I"⟩
abbrev cX11_need : ByteArray := prog_13_method_53_code
def yX11_need : MethodName := ⟨RX11, "need", "(I)V"⟩
abbrev cX11_digit : ByteArray := prog_13_method_54_code
def yX11_digit : MethodName := ⟨RX11, "digit", "(II)I"⟩
abbrev cX11_number : ByteArray := prog_13_method_55_code
def yX11_number : MethodName := ⟨RX11, "number", "()I"⟩
abbrev cX11_readOne : ByteArray := prog_13_method_56_code
def yX11_readOne : MethodName := ⟨RX11, "readOne", "()V"⟩
abbrev cX11_faultOf : ByteArray := prog_13_method_57_code
def yX11_faultOf : MethodName := ⟨RX11, "faultOf", "()I"⟩
abbrev cX11_put : ByteArray := prog_13_method_58_code
def yX11_put : MethodName := ⟨RX11, "put", "(J)I"⟩
abbrev cX11_wipe : ByteArray := prog_13_method_59_code
def yX11_wipe : MethodName := ⟨RX11, "wipe", "()I"⟩
abbrev cX11_fault : ByteArray := prog_13_method_60_code
def yX11_fault : MethodName := ⟨RX11, "fault", "()I"⟩
abbrev cX11_carry : ByteArray := prog_13_method_61_code
def yX11_carry : MethodName := ⟨RX11, "carry", "(I)I"⟩
abbrev cX11_carryOut : ByteArray := prog_13_method_62_code
def yX11_carryOut : MethodName := ⟨RX11, "carryOut", "()I"⟩
abbrev cX11_undo : ByteArray := prog_13_method_63_code
def yX11_undo : MethodName := ⟨RX11, "undo", "()I"⟩
abbrev cX11_save : ByteArray := prog_13_method_64_code
def yX11_save : MethodName := ⟨RX11, "save", "(I)I"⟩
abbrev cX11_restore : ByteArray := prog_13_method_65_code
def yX11_restore : MethodName := ⟨RX11, "restore", "(I)I"⟩
def RJ6 : String := "java/lang/Integer"
def TJ6 : u_T := fun k => match k with
  | _ => ("", "", "", false)
def tyJ6 : Nat → FieldType := fun k => match k with
  | _ => .int
abbrev wsJ60 : List Cond := u_ws RJ6 TJ6 0
theorem nmJ6 : ∀ a, a < 0 → ∀ b, b < 0 → a ≠ b → (TJ6 a).2.1 ≠ (TJ6 b).2.1 := by decide +kernel
theorem tyJ6_ok : ∀ k, k < 0 → parseFieldDescriptor (TJ6 k).2.2.1 = some (tyJ6 k) := by decide +kernel
abbrev cJ6_bitCount_0f7a4 : ByteArray := prog_14_method_49_code
def yJ6_bitCount_0f7a4 : MethodName := ⟨RJ6, "bitCount", "(I)I"⟩
def RJ9 : String := "java/lang/Math"
def TJ9 : u_T := fun k => match k with
  | _ => ("", "", "", false)
def tyJ9 : Nat → FieldType := fun k => match k with
  | _ => .int
abbrev wsJ90 : List Cond := u_ws RJ9 TJ9 0
theorem nmJ9 : ∀ a, a < 0 → ∀ b, b < 0 → a ≠ b → (TJ9 a).2.1 ≠ (TJ9 b).2.1 := by decide +kernel
theorem tyJ9_ok : ∀ k, k < 0 → parseFieldDescriptor (TJ9 k).2.2.1 = some (tyJ9 k) := by decide +kernel
abbrev cJ9_abs_0f7a4 : ByteArray := prog_15_method_59_code
def yJ9_abs_0f7a4 : MethodName := ⟨RJ9, "abs", "(I)I"⟩
abbrev cJ9_max_7cf53 : ByteArray := prog_15_method_65_code
def yJ9_max_7cf53 : MethodName := ⟨RJ9, "max", "(II)I"⟩
abbrev cJ9_min_7cf53 : ByteArray := prog_15_method_69_code
def yJ9_min_7cf53 : MethodName := ⟨RJ9, "min", "(II)I"⟩
def RJ0 : String := "java/lang/String"
def TJ0 : u_T := fun k => match k with
  | _ => ("", "", "", false)
def tyJ0 : Nat → FieldType := fun k => match k with
  | _ => .int
abbrev wsJ00 : List Cond := u_ws RJ0 TJ0 0
theorem nmJ0 : ∀ a, a < 0 → ∀ b, b < 0 → a ≠ b → (TJ0 a).2.1 ≠ (TJ0 b).2.1 := by decide +kernel
theorem tyJ0_ok : ∀ k, k < 0 → parseFieldDescriptor (TJ0 k).2.2.1 = some (tyJ0 k) := by decide +kernel
abbrev cJ0_length_8abf5 : ByteArray := prog_16_method_54_code
def yJ0_length_8abf5 : MethodName := ⟨RJ0, "length", "()I"⟩
abbrev cJ0_isEmpty_aae02 : ByteArray := prog_16_method_55_code
def yJ0_isEmpty_aae02 : MethodName := ⟨RJ0, "isEmpty", "()Z"⟩
abbrev cJ0_charAt_5068e : ByteArray := prog_16_method_56_code
def yJ0_charAt_5068e : MethodName := ⟨RJ0, "charAt", "(I)C"⟩
abbrev cJ0_coder_7d493 : ByteArray := prog_16_method_152_code
def yJ0_coder_7d493 : MethodName := ⟨RJ0, "coder", "()B"⟩
abbrev cJ0_isLatin1_aae02 : ByteArray := prog_16_method_154_code
def yJ0_isLatin1_aae02 : MethodName := ⟨RJ0, "isLatin1", "()Z"⟩
abbrev cJ0_checkIndex_df160 : ByteArray := prog_16_method_155_code
def yJ0_checkIndex_df160 : MethodName := ⟨RJ0, "checkIndex", "(II)V"⟩
def RJ1 : String := "java/lang/StringLatin1"
def TJ1 : u_T := fun k => match k with
  | _ => ("", "", "", false)
def tyJ1 : Nat → FieldType := fun k => match k with
  | _ => .int
abbrev wsJ10 : List Cond := u_ws RJ1 TJ1 0
theorem nmJ1 : ∀ a, a < 0 → ∀ b, b < 0 → a ≠ b → (TJ1 a).2.1 ≠ (TJ1 b).2.1 := by decide +kernel
theorem tyJ1_ok : ∀ k, k < 0 → parseFieldDescriptor (TJ1 k).2.2.1 = some (tyJ1 k) := by decide +kernel
abbrev cJ1_charAt_3b067 : ByteArray := prog_17_method_2_code
def yJ1_charAt_3b067 : MethodName := ⟨RJ1, "charAt", "([BI)C"⟩
def RJ2 : String := "java/lang/StringUTF16"
def TJ2 : u_T := fun k => match k with
  | _ => ("", "", "", false)
def tyJ2 : Nat → FieldType := fun k => match k with
  | _ => .int
abbrev wsJ20 : List Cond := u_ws RJ2 TJ2 0
theorem nmJ2 : ∀ a, a < 0 → ∀ b, b < 0 → a ≠ b → (TJ2 a).2.1 ≠ (TJ2 b).2.1 := by decide +kernel
theorem tyJ2_ok : ∀ k, k < 0 → parseFieldDescriptor (TJ2 k).2.2.1 = some (tyJ2 k) := by decide +kernel
abbrev cJ2_getChar_3b067 : ByteArray := prog_18_method_5_code
def yJ2_getChar_3b067 : MethodName := ⟨RJ2, "getChar", "([BI)C"⟩
abbrev cJ2_length_9d52b : ByteArray := prog_18_method_6_code
def yJ2_length_9d52b : MethodName := ⟨RJ2, "length", "([B)I"⟩
abbrev cJ2_charAt_3b067 : ByteArray := prog_18_method_83_code
def yJ2_charAt_3b067 : MethodName := ⟨RJ2, "charAt", "([BI)C"⟩
abbrev cJ2_checkIndex_2214a : ByteArray := prog_18_method_91_code
def yJ2_checkIndex_2214a : MethodName := ⟨RJ2, "checkIndex", "(I[B)V"⟩
def RJ10 : String := "java/lang/System"
def TJ10 : u_T := fun k => match k with
  | _ => ("", "", "", false)
def tyJ10 : Nat → FieldType := fun k => match k with
  | _ => .int
abbrev wsJ100 : List Cond := u_ws RJ10 TJ10 0
theorem nmJ10 : ∀ a, a < 0 → ∀ b, b < 0 → a ≠ b → (TJ10 a).2.1 ≠ (TJ10 b).2.1 := by decide +kernel
theorem tyJ10_ok : ∀ k, k < 0 → parseFieldDescriptor (TJ10 k).2.2.1 = some (tyJ10 k) := by decide +kernel
def RJ3 : String := "jdk/internal/util/Preconditions"
def TJ3 : u_T := fun k => match k with
  | _ => ("", "", "", false)
def tyJ3 : Nat → FieldType := fun k => match k with
  | _ => .int
abbrev wsJ30 : List Cond := u_ws RJ3 TJ3 0
theorem nmJ3 : ∀ a, a < 0 → ∀ b, b < 0 → a ≠ b → (TJ3 a).2.1 ≠ (TJ3 b).2.1 := by decide +kernel
theorem tyJ3_ok : ∀ k, k < 0 → parseFieldDescriptor (TJ3 k).2.2.1 = some (tyJ3 k) := by decide +kernel
abbrev cJ3_checkIndex_8e157 : ByteArray := prog_20_method_11_code
def yJ3_checkIndex_8e157 : MethodName := ⟨RJ3, "checkIndex", "(IILjava/util/function/BiFunction;)I"⟩
def RL : String := "RopeWalkLaw"
abbrev cL_law : ByteArray := code
def yL_law : MethodName := ⟨RL, "law", "([I)Z"⟩
abbrev vwCl : List vw_C := [(RX0, TX0, 2), (RX1, TX1, 2), (RX2, TX2, 7), (RX3, TX3, 2), (RX4, TX4, 7), (RX5, TX5, 5), (RX6, TX6, 3), (RX7, TX7, 3), (RX8, TX8, 3), (RX9, TX9, 8), (RX10, TX10, 7), (RX11, TX11, 14)]
end
section
/-! values of the judgement: an int, a long, a cell of a kind, a text constant -/
abbrev rk_V : Type := Int32 ⊕ (Int64 ⊕ ((Nat × Nat) ⊕ Nat))
abbrev rk_i (x : Int32) : rk_V := Sum.inl x
abbrev rk_l (x : Int64) : rk_V := Sum.inr (Sum.inl x)
abbrev rk_a (k a : Nat) : rk_V := Sum.inr (Sum.inr (Sum.inl (k, a)))
abbrev rk_t (i : Nat) : rk_V := Sum.inr (Sum.inr (Sum.inr i))
/-- the world's fixed part: classes and slots, array classes, the first new address, frozen arrays, text constants -/
abbrev rk_W : Type := va_G × (Nat → ClassId) × Nat × (Nat → Nat × Nat × (Nat → Int32)) × (Nat → Nat) × (Nat → Nat)
abbrev rk_fz (w : rk_W) (i : Nat) : Nat × Nat × (Nat → Int32) := w.2.2.2.1 i
abbrev rk_A (w : rk_W) : Nat → Prop := fun q => w.2.2.1 ≤ q
def rk_v (w : rk_W) : rk_V → Value
  | .inl x => .int x
  | .inr (.inl x) => .long x
  | .inr (.inr (.inl q)) => .ref q.2
  | .inr (.inr (.inr i)) => .ref (w.2.2.2.2.1 i)
abbrev rk_Mm : Type := Nat → Nat → Nat → Int32
abbrev rk_Rm : Type := Nat → Nat → Nat → Nat
abbrev rk_Sh : Type := List Nat × (Nat → Nat)
abbrev rk_S : Type := rk_Sh × rk_Mm × rk_Rm
def rk_ok (w : rk_W) (kd : Nat → Nat) : rk_V → Prop
  | .inl _ => True
  | .inr (.inl _) => True
  | .inr (.inr (.inl q)) => (q.1 < 100 ∧ kd q.2 = q.1 ∧ q.1 ≠ 0) ∨ (100 ≤ q.1 ∧ q.1 < 106 ∧ q.2 = (rk_fz w (q.1 - 100)).1) ∨ (110 ≤ q.1 ∧ q.1 < 115 ∧ q.2 = w.2.2.2.2.2 (q.1 - 110))
  | .inr (.inr (.inr i)) => i < 5
def rk_oks (w : rk_W) (kd : Nat → Nat) (l : List rk_V) : Prop := ∀ v ∈ l, rk_ok w kd v
/-- the kinds: an object's class and the kinds of its fields (0: no cell), or an array's class, length and its elements' kind -/
def rk_kd (k : Nat) : (Nat × List Nat) ⊕ (Nat × Nat × Nat) := match k % 50 with
  | 1 => .inl (0, [13, 0])
  | 2 => .inl (1, [14, 0])
  | 3 => .inl (2, [0, 0, 0, 0, 0, 0, 0])
  | 4 => .inl (3, [15, 0])
  | 5 => .inl (4, [0, 0, 0, 0, 0, 0, 0])
  | 6 => .inl (5, [4, 0, 0, 16, 0])
  | 7 => .inl (6, [17, 18, 19])
  | 8 => .inl (7, [20, 0, 21])
  | 9 => .inl (8, [23, 0, 0])
  | 10 => .inl (9, [7, 8, 1, 0, 0, 0, 0, 0])
  | 11 => .inl (10, [10, 2, 24, 25, 6, 4, 9])
  | 12 => .inl (11, [26, 27, 28, 0, 29, 30, 31, 0, 0, 32, 33, 0, 0, 0])
  | 13 => .inr (3, 16, 3)
  | 14 => .inr (6, 7, 10)
  | 15 => .inr (1, 80, 0)
  | 16 => .inr (0, 4, 0)
  | 17 => .inr (0, 10, 0)
  | 18 => .inr (0, 3, 0)
  | 19 => .inr (0, 3, 0)
  | 20 => .inr (4, 24, 5)
  | 21 => .inr (7, 3, 22)
  | 22 => .inr (0, 6, 0)
  | 23 => .inr (5, 11, 8)
  | 24 => .inr (6, 2, 10)
  | 25 => .inr (2, 2, 0)
  | 26 => .inr (0, 340, 0)
  | 27 => .inr (0, 340, 0)
  | 28 => .inr (0, 2040, 0)
  | 29 => .inr (0, 680, 0)
  | 30 => .inr (2, 2, 0)
  | 31 => .inr (0, 80, 0)
  | 32 => .inr (2, 24, 0)
  | _ => .inr (0, 200, 0)
def rk_rk (k f : Nat) : Nat := match rk_kd k with
  | .inl q => q.2.getD f 0
  | .inr y => if f < y.2.1 then y.2.2 else 0
def rk_op (x : Nat) : Option Nat := if x = 0 then none else some x
def rk_fs (I : Nat → Nat → Int32) (R : Nat → Nat → Nat) (a : Nat) : Nat → List Nat → List Value
  | _, [] => []
  | k, f :: fs => (if f = 0 then .int (I a k) else va_rf (rk_op (R a k))) :: rk_fs I R a (k + 1) fs
def rk_ent (w : rk_W) (I : rk_Mm) (R : rk_Rm) (k a : Nat) : va_E := match rk_kd k with
  | .inl q => .inr (q.1, rk_fs (I (k % 50)) (R (k % 50)) a 0 q.2)
  | .inr y => .inl (w.2.1 y.1, y.2.1, if y.2.2 = 0 then .inl (I (k % 50) a) else .inr (.inr (.inr (.inr (fun j => rk_op (R (k % 50) a j))))))
abbrev rk_F (w : rk_W) (kd : Nat → Nat) (I : rk_Mm) (R : rk_Rm) : Nat → va_E := fun a => rk_ent w I R (kd a) a
def rk_WT (kd : Nat → Nat) (R : rk_Rm) : Prop := ∀ a f : Nat, kd a < 50 → rk_rk (kd a) f ≠ 0 → kd (R (kd a) a f) = rk_rk (kd a) f
def rk_HR (w : rk_W) (Sh : rk_Sh) (I : rk_Mm) (R : rk_Rm) (H : Heap) : Prop :=
  va_P w.1 vwCl ([] ++ va_pl Sh.1 (rk_F w Sh.2 I R)) H ∧ va_D (rk_A w) ([] ++ va_pl Sh.1 (rk_F w Sh.2 I R)) ∧ Sh.2 0 = 0 ∧ (∀ a, a ∈ Sh.1 ↔ Sh.2 a ≠ 0) ∧ rk_WT Sh.2 R
abbrev rk_tys (w : rk_W) : List (ClassId × FieldType) := [(w.2.1 0, .int), (w.2.1 1, .char), (w.2.1 2, .boolean), (w.2.1 3, .object RX2), (w.2.1 4, .object RX4), (w.2.1 5, .object RX7), (w.2.1 6, .object RX9), (w.2.1 7, .array .int)]

def rk_tbl : List Cond := lw_tbl.filter goodWord
theorem rk_tg : ∀ q ∈ rk_tbl, goodWord q = true := fun q h => (List.mem_filter.mp h).2
theorem rk_gi : GoodIn rk_tbl rk_tbl := fun q h => ⟨h, good_of_word (rk_tg q h)⟩
theorem rk_in {q : Cond} (h : q ∈ lw_tbl) (hg : goodWord q = true) : q ∈ rk_tbl := List.mem_filter.mpr ⟨h, hg⟩
def rk_nest : List (String × Nat × MethodName × String) := [("RopeWalk", 9, ⟨RX9, "<init>", "()V"⟩, "RopeWalk"), (RX7, 22, ⟨RX4, "<init>", "()V"⟩, "RopeWalk"), (RX0, 17, ⟨RX2, "<init>", "()V"⟩, "RopeWalk"), (RX1, 17, ⟨RX9, "<init>", "()V"⟩, "RopeWalk"), ("RopeWalk", 33, ⟨RX5, "<init>", "()V"⟩, "RopeWalk"), (RX5, 11, ⟨RX3, "<init>", "()V"⟩, "RopeWalk"),
  (RX9, 58, ⟨"RopeWalk", "inRange", "(III)Z"⟩, "RopeWalk"), (RX9, 72, ⟨"RopeWalk", "isFibre", "(I)Z"⟩, "RopeWalk"), (RX9, 92, ⟨"RopeWalk", "isMake", "(II)Z"⟩, "RopeWalk"), (RX7, 37, ⟨"RopeWalk", "inRange", "(III)Z"⟩, "RopeWalk"), (RX0, 26, ⟨"RopeWalk", "inRange", "(III)Z"⟩, "RopeWalk"), (RX3, 29, ⟨"RopeWalk", "inRange", "(III)Z"⟩, "RopeWalk"), (RX5, 89, ⟨"RopeWalk", "inRange", "(III)Z"⟩, "RopeWalk")]
def rk_strs : List (Nat × String) := [(68, "F+N"), (70, "F:SxN=N"), (72, "N&N"), (74, "N"), (76, "")]
def rk_slen : List Nat := [3, 7, 3, 1, 0]
def rk_sbyt : List (List Int32) := [[70, 43, 78], [70, 58, 83, 120, 78, 61, 78], [78, 38, 78], [78], []]
def rk_snm : List String := ["FIRST_SETTINGS", "LEAST_SETTINGS", "MOST_SETTINGS", "FIRST_STRENGTHS", "FIRST_TWISTS"]
def rk_KN (w : rk_W) (U : State) : Prop :=
  va_K w.1 vwCl (rk_tys w) U ∧ (∀ i, i < 6 → va_X (rk_fz w i).1 (rk_fz w i).2.1 (rk_fz w i).2.2 U U.heap ∧ (rk_fz w i).1 < w.2.2.1) ∧
  (∀ i, i < 5 → va_Z "RopeWalk" (rk_snm.getD i "") "[I" (.ref (rk_fz w i).1) (rk_A w) U U.heap) ∧
  (∀ q ∈ rk_nest, va_Nw (.methodLinkNest q.1 q.2.1 q.2.2.1 q.2.2.2) U) ∧
  (∀ (i : Nat) (q : Nat × String), rk_strs[i]? = some q → vk_R RX5 q.1 q.2 (w.2.2.2.2.1 i) U) ∧ vk_S 5 rk_slen rk_sbyt w.2.2.2.2.1 w.2.2.2.2.2 (rk_A w) U U.heap ∧
  (∀ C ∈ [RX2, RX4, RX7, RX9], va_AO C U) ∧ 0 < w.2.2.1 ∧ w.2.2.1 ≤ U.heap.size
theorem rk_KN.call {w : rk_W} {s U : State} {H : Heap} {locs : List Loc} (h : rk_KN w s) (hS : va_S (rk_A w) s.heap H locs) (hU : U.heap = H) (hW : s.WarmedH U.vm) : rk_KN w U := by
  obtain ⟨h1, h2, h3, h4, h5, h6, h7, h8, h9⟩ := h
  have hq : ∀ a : Nat, a < s.heap.size → ¬ rk_A w a → U.heap[a]? = s.heap[a]? := fun a g1 g2 => by rw [hU]; exact hS.2.1 a g1 g2
  refine ⟨h1.moved hW.alike, fun i hi => ⟨((h2 i hi).1.kept (hq _ ?_ ?_)).moved hW.alike, (h2 i hi).2⟩, fun i hi => ((h3 i hi).moved hW.alike).kept hq, fun q hq => va_Nw.warmM hW (h4 q hq), fun i q hiq => vk_R.warm hW (h5 i q hiq), (h6.moved hW.alike).kept hq, fun C hC => (h7 C hC).moved hW.alike, h8, ?_⟩
  · exact Nat.lt_of_lt_of_le (h2 i hi).2 h9
  · exact Nat.not_le.mpr (h2 i hi).2
  · rw [hU]; exact Nat.le_trans h9 hS.1
/-- a method: its name, bytes, locals, the type that it returns -/
abbrev rk_M : Type := MethodName × ByteArray × Nat × Option FieldType
abbrev rk_ws (M : rk_M) : List Cond := Cond.code M.1 M.2.1 M.2.2.1 M.2.2.2 :: rk_tbl
abbrev rk_rm (d mc ms : Nat) : Room := { frames := d, cells := mc, slots := ms, locals := 40 * d }
def rk_Cx (w : rk_W) (M : rk_M) (d mc ms : Nat) (p : Program) (Rm : Room) (s : State) (m : MethodId) (args : Array Value) (meth : Method) (c : Code) : Prop :=
  p.tables.exec = Jvm.exec ∧ c.code = M.2.1 ∧ meth.sig.returnType = M.2.2.2 ∧ c.maxLocals = M.2.2.1 ∧ s.vm.findClass M.1.cls = some m.cls ∧ (∀ q ∈ rk_tbl, q.before args s = true) ∧ meth.locks = false ∧ meth.name = M.1.name ∧ rk_KN w s ∧ d ≤ Rm.frames ∧ 40 * d ≤ Rm.locals ∧ mc ≤ Rm.cells ∧ ms ≤ Rm.slots
abbrev rk_ms (w : rk_W) (ls : List (Nat × rk_V)) : List (Nat × Value) := ls.map (fun q => (q.1, rk_v w q.2))
abbrev rk_Z : Type := rk_Sh × Nat × Nat
/-- the judgement: from here, with these locals, stack and heap, the machine comes to the goal -/
def rk_Wp (w : rk_W) (l : Launch) (M : rk_M) (d mc ms : Nat) (G : List Frame → Array Value → State → State → Prop) (pc : Nat) (ls : List (Nat × rk_V)) (st : List rk_V) (Z : rk_Z) (I : rk_Mm) (R : rk_Rm) : Prop :=
  ∀ (p : Program) (e : Env) (Rm : Room) (s : State) (m : MethodId) (args : Array Value) (below : List Frame) (meth : Method) (c : Code) (H : Heap) (locs : List Loc) (la : Array Slot),
    rk_Cx w M d mc ms p Rm s m args meth c → rk_oks w Z.1.2 st → rk_oks w Z.1.2 (ls.map (fun q => q.2)) → rk_HR w Z.1 I R H → va_S (rk_A w) s.heap H locs → lv_has la M.2.2.1 (rk_ms w ls) → W p l e Rm s m args below meth c H locs Z.2.1 Z.2.2 (G below args s) (F0 m pc la (st.map (rk_v w)))
theorem rk_oc {w : rk_W} {kd : Nat → Nat} {v : rk_V} {st : List rk_V} (h : rk_ok w kd v) (hs : rk_oks w kd st) : rk_oks w kd (v :: st) := fun x hx => (List.mem_cons.mp hx).elim (fun e => e ▸ h) (hs x)
theorem rk_ot {w : rk_W} {kd : Nat → Nat} {v : rk_V} {st : List rk_V} (hs : rk_oks w kd (v :: st)) : rk_oks w kd st := fun x hx => hs x (List.mem_cons_of_mem _ hx)
theorem rk_oh {w : rk_W} {kd : Nat → Nat} {v : rk_V} {st : List rk_V} (hs : rk_oks w kd (v :: st)) : rk_ok w kd v := hs v List.mem_cons_self
/-- a local, by its number -/
def rk_lk (i : Nat) : List (Nat × rk_V) → Option rk_V
  | [] => none
  | q :: t => bif Nat.beq q.1 i then some q.2 else rk_lk i t
def rk_is2 : rk_V → Bool
  | .inr (.inl _) => true
  | _ => false
/-- a store of one slot -/
def rk_rm1 (i : Nat) : List (Nat × rk_V) → List (Nat × rk_V)
  | [] => []
  | q :: t => bif (Nat.beq q.1 i || (Nat.beq (q.1 + 1) i && rk_is2 q.2)) then rk_rm1 i t else q :: rk_rm1 i t
def rk_rm2 (i : Nat) : List (Nat × rk_V) → List (Nat × rk_V)
  | [] => []
  | q :: t => bif (Nat.beq q.1 i || (Nat.beq q.1 (i + 1) || (Nat.beq (q.1 + 1) i && rk_is2 q.2))) then rk_rm2 i t else q :: rk_rm2 i t
theorem rk_lk_mem {i : Nat} {v : rk_V} : ∀ {ls : List (Nat × rk_V)}, rk_lk i ls = some v → (i, v) ∈ ls
  | [], h => by cases h
  | q :: t, h => by
    simp only [rk_lk] at h
    cases hb : Nat.beq q.1 i with
    | true =>
      rw [hb] at h
      have e1 : q.1 = i := Nat.eq_of_beq_eq_true hb
      have e2 : q.2 = v := Option.some.inj h
      rw [← e1, ← e2]
      exact List.mem_cons_self
    | false =>
      rw [hb] at h
      exact List.mem_cons_of_mem _ (rk_lk_mem h)
theorem rk_lv {w : rk_W} {la : Array Slot} {n i : Nat} {v : rk_V} {ls : List (Nat × rk_V)} (h : lv_has la n (rk_ms w ls)) (hl : rk_lk i ls = some v) : la[i]? = some (.val (rk_v w v)) := h.2.2 (i, rk_v w v) (List.mem_map.mpr ⟨(i, v), rk_lk_mem hl, rfl⟩)
theorem rk_lo {w : rk_W} {kd : Nat → Nat} {i : Nat} {v : rk_V} {ls : List (Nat × rk_V)} (h : rk_oks w kd (ls.map (fun q => q.2))) (hl : rk_lk i ls = some v) : rk_ok w kd v := h v (List.mem_map.mpr ⟨(i, v), rk_lk_mem hl, rfl⟩)
theorem rk_is2_cat (w : rk_W) (v : rk_V) : ((rk_v w v).category == 2) = rk_is2 v := by
  rcases v with x | x | x | x <;> rfl
theorem rk_beq (a b : Nat) : (a == b) = Nat.beq a b := by
  cases h : Nat.beq a b with
  | true => simp [Nat.eq_of_beq_eq_true h]
  | false => simp [Nat.ne_of_beq_eq_false h]
theorem rk_rm1_map (w : rk_W) (i : Nat) : ∀ ls : List (Nat × rk_V), (rk_ms w ls).filter (fun q => !(q.1 == i) && !(q.1 + 1 == i && q.2.category == 2)) = rk_ms w (rk_rm1 i ls)
  | [] => rfl
  | q :: t => by
    have ih := rk_rm1_map w i t
    simp only [rk_ms, List.map_cons, rk_rm1, List.filter_cons, rk_is2_cat] at ih ⊢
    rw [ih]
    rw [rk_beq q.1 i, rk_beq (q.1 + 1) i]
    cases Nat.beq q.1 i <;> cases Nat.beq (q.1 + 1) i <;> cases rk_is2 q.2 <;> rfl
theorem rk_rm2_map (w : rk_W) (i : Nat) : ∀ ls : List (Nat × rk_V), (rk_ms w ls).filter (fun q => !(q.1 == i) && (!(q.1 == i + 1) && !(q.1 + 1 == i && q.2.category == 2))) = rk_ms w (rk_rm2 i ls)
  | [] => rfl
  | q :: t => by
    have ih := rk_rm2_map w i t
    simp only [rk_ms, List.map_cons, rk_rm2, List.filter_cons, rk_is2_cat] at ih ⊢
    rw [ih]
    rw [rk_beq q.1 i, rk_beq (q.1 + 1) i, rk_beq q.1 (i + 1)]
    cases Nat.beq q.1 i <;> cases Nat.beq (q.1 + 1) i <;> cases Nat.beq q.1 (i + 1) <;> cases rk_is2 q.2 <;> rfl
theorem rk_rm1_ok {w : rk_W} {kd : Nat → Nat} {i : Nat} : ∀ {ls : List (Nat × rk_V)}, rk_oks w kd (ls.map (fun q => q.2)) → rk_oks w kd ((rk_rm1 i ls).map (fun q => q.2))
  | [], h => h
  | q :: t, h => by
    have ih := rk_rm1_ok (i := i) (rk_ot h)
    simp only [rk_rm1]
    cases (Nat.beq q.1 i || (Nat.beq (q.1 + 1) i && rk_is2 q.2)) with
    | true => exact ih
    | false => exact rk_oc (rk_oh h) ih
theorem rk_rm2_ok {w : rk_W} {kd : Nat → Nat} {i : Nat} : ∀ {ls : List (Nat × rk_V)}, rk_oks w kd (ls.map (fun q => q.2)) → rk_oks w kd ((rk_rm2 i ls).map (fun q => q.2))
  | [], h => h
  | q :: t, h => by
    have ih := rk_rm2_ok (i := i) (rk_ot h)
    simp only [rk_rm2]
    cases (Nat.beq q.1 i || (Nat.beq q.1 (i + 1) || (Nat.beq (q.1 + 1) i && rk_is2 q.2))) with
    | true => exact ih
    | false => exact rk_oc (rk_oh h) ih
end
section
section RKR
variable {w : rk_W} {l : Launch} {M : rk_M} {d mc ms : Nat} {G : List Frame → Array Value → State → State → Prop} {pc : Nat} {ls : List (Nat × rk_V)} {st : List rk_V} {Z : rk_Z} {I : rk_Mm} {R : rk_Rm}
theorem rk_iconst {n : Int} (v : Int32) (hd : decode M.2.1 pc = .ok (.iconst n, 1)) (hv : Int32.ofInt n = v) (kk : rk_Wp w l M d mc ms G (pc + 1) (ls) (rk_i v :: st) Z I R) : rk_Wp w l M d mc ms G (pc) (ls) (st) Z I R := by
  intro p e Rm s m args below meth cd H locs la C a1 a2 a3 a4 a5
  exact lv_iconst C.1 C.2.1 hd hv (kk p e Rm s m args below meth cd H locs la C (rk_oc trivial a1) a2 a3 a4 a5)
theorem rk_bipush {n : Int} (v : Int32) (hd : decode M.2.1 pc = .ok (.bipush n, 2)) (hv : (Int8.ofInt n).toInt32 = v) (kk : rk_Wp w l M d mc ms G (pc + 2) (ls) (rk_i v :: st) Z I R) : rk_Wp w l M d mc ms G (pc) (ls) (st) Z I R := by
  intro p e Rm s m args below meth cd H locs la C a1 a2 a3 a4 a5
  exact lv_bipush C.1 C.2.1 hd hv (kk p e Rm s m args below meth cd H locs la C (rk_oc trivial a1) a2 a3 a4 a5)
theorem rk_sipush {n : Int} (v : Int32) (hd : decode M.2.1 pc = .ok (.sipush n, 3)) (hv : (Int16.ofInt n).toInt32 = v) (kk : rk_Wp w l M d mc ms G (pc + 3) (ls) (rk_i v :: st) Z I R) : rk_Wp w l M d mc ms G (pc) (ls) (st) Z I R := by
  intro p e Rm s m args below meth cd H locs la C a1 a2 a3 a4 a5
  exact lv_sipush C.1 C.2.1 hd hv (kk p e Rm s m args below meth cd H locs la C (rk_oc trivial a1) a2 a3 a4 a5)
theorem rk_lconst {n : Fin 2} (v : Int64) (hd : decode M.2.1 pc = .ok (.lconst n, 1)) (hv : Int64.ofNat (n : Nat) = v) (kk : rk_Wp w l M d mc ms G (pc + 1) (ls) (rk_l v :: st) Z I R) : rk_Wp w l M d mc ms G (pc) (ls) (st) Z I R := by
  intro p e Rm s m args below meth cd H locs la C a1 a2 a3 a4 a5
  exact lv_lconst C.1 C.2.1 hd hv (kk p e Rm s m args below meth cd H locs la C (rk_oc trivial a1) a2 a3 a4 a5)
theorem rk_ldc {idx : Nat} (v : Int32) (hd : decode M.2.1 pc = .ok (.ldc idx, 2)) (hk : Cond.constant M.1.cls idx v ∈ rk_tbl) (kk : rk_Wp w l M d mc ms G (pc + 2) (ls) (rk_i v :: st) Z I R) : rk_Wp w l M d mc ms G (pc) (ls) (st) Z I R := by
  intro p e Rm s m args below meth cd H locs la C a1 a2 a3 a4 a5
  exact lv_ldc C.1 C.2.1 C.2.2.2.2.1 (C.2.2.2.2.2.1 _ hk) hd (kk p e Rm s m args below meth cd H locs la C (rk_oc trivial a1) a2 a3 a4 a5)
theorem rk_ldc2 {idx : Nat} (v : Int64) (hd : decode M.2.1 pc = .ok (.ldc2_w idx, 3)) (hk : Cond.constantLong M.1.cls idx v ∈ rk_tbl) (kk : rk_Wp w l M d mc ms G (pc + 3) (ls) (rk_l v :: st) Z I R) : rk_Wp w l M d mc ms G (pc) (ls) (st) Z I R := by
  intro p e Rm s m args below meth cd H locs la C a1 a2 a3 a4 a5
  exact lv_ldc2 C.1 C.2.1 C.2.2.2.2.1 (C.2.2.2.2.2.1 _ hk) hd (kk p e Rm s m args below meth cd H locs la C (rk_oc trivial a1) a2 a3 a4 a5)
theorem rk_iload_n {k : Fin 4} (i : Nat) {x : Int32} (hd : decode M.2.1 pc = .ok (.iload_n k, 1)) (hi : (k : Nat) = i) (hl : rk_lk i ls = some (rk_i x)) (kk : rk_Wp w l M d mc ms G (pc + 1) (ls) (rk_i x :: st) Z I R) : rk_Wp w l M d mc ms G (pc) (ls) (st) Z I R := by
  intro p e Rm s m args below meth cd H locs la C a1 a2 a3 a4 a5
  exact lv_iload_n C.1 C.2.1 hd hi (rk_lv a5 hl) (kk p e Rm s m args below meth cd H locs la C (rk_oc trivial a1) a2 a3 a4 a5)
theorem rk_iload {i : Nat} {x : Int32} (hd : decode M.2.1 pc = .ok (.iload i, 2)) (hl : rk_lk i ls = some (rk_i x)) (kk : rk_Wp w l M d mc ms G (pc + 2) (ls) (rk_i x :: st) Z I R) : rk_Wp w l M d mc ms G (pc) (ls) (st) Z I R := by
  intro p e Rm s m args below meth cd H locs la C a1 a2 a3 a4 a5
  exact lv_iload C.1 C.2.1 hd (rk_lv a5 hl) (kk p e Rm s m args below meth cd H locs la C (rk_oc trivial a1) a2 a3 a4 a5)
theorem rk_lload_n {k : Fin 4} (i : Nat) {x : Int64} (hd : decode M.2.1 pc = .ok (.lload_n k, 1)) (hi : (k : Nat) = i) (hl : rk_lk i ls = some (rk_l x)) (kk : rk_Wp w l M d mc ms G (pc + 1) (ls) (rk_l x :: st) Z I R) : rk_Wp w l M d mc ms G (pc) (ls) (st) Z I R := by
  intro p e Rm s m args below meth cd H locs la C a1 a2 a3 a4 a5
  exact lv_lload_n C.1 C.2.1 hd hi (rk_lv a5 hl) (kk p e Rm s m args below meth cd H locs la C (rk_oc trivial a1) a2 a3 a4 a5)
theorem rk_lload {i : Nat} {x : Int64} (hd : decode M.2.1 pc = .ok (.lload i, 2)) (hl : rk_lk i ls = some (rk_l x)) (kk : rk_Wp w l M d mc ms G (pc + 2) (ls) (rk_l x :: st) Z I R) : rk_Wp w l M d mc ms G (pc) (ls) (st) Z I R := by
  intro p e Rm s m args below meth cd H locs la C a1 a2 a3 a4 a5
  exact lv_lload C.1 C.2.1 hd (rk_lv a5 hl) (kk p e Rm s m args below meth cd H locs la C (rk_oc trivial a1) a2 a3 a4 a5)
theorem rk_aload_n {k : Fin 4} (i : Nat) {k0 a : Nat} (hd : decode M.2.1 pc = .ok (.aload_n k, 1)) (hi : (k : Nat) = i) (hl : rk_lk i ls = some (rk_a k0 a)) (kk : rk_Wp w l M d mc ms G (pc + 1) (ls) (rk_a k0 a :: st) Z I R) : rk_Wp w l M d mc ms G (pc) (ls) (st) Z I R := by
  intro p e Rm s m args below meth cd H locs la C a1 a2 a3 a4 a5
  exact lv_aload_n C.1 C.2.1 hd hi (rk_lv a5 hl) (kk p e Rm s m args below meth cd H locs la C (rk_oc (rk_lo a2 hl) a1) a2 a3 a4 a5)
theorem rk_aload {i : Nat} {k0 a : Nat} (hd : decode M.2.1 pc = .ok (.aload i, 2)) (hl : rk_lk i ls = some (rk_a k0 a)) (kk : rk_Wp w l M d mc ms G (pc + 2) (ls) (rk_a k0 a :: st) Z I R) : rk_Wp w l M d mc ms G (pc) (ls) (st) Z I R := by
  intro p e Rm s m args below meth cd H locs la C a1 a2 a3 a4 a5
  exact lv_aload C.1 C.2.1 hd (rk_lv a5 hl) (kk p e Rm s m args below meth cd H locs la C (rk_oc (rk_lo a2 hl) a1) a2 a3 a4 a5)
theorem rk_aloadT_n {k : Fin 4} (i : Nat) {a : Nat} (hd : decode M.2.1 pc = .ok (.aload_n k, 1)) (hi : (k : Nat) = i) (hl : rk_lk i ls = some (rk_t a)) (kk : rk_Wp w l M d mc ms G (pc + 1) (ls) (rk_t a :: st) Z I R) : rk_Wp w l M d mc ms G (pc) (ls) (st) Z I R := by
  intro p e Rm s m args below meth cd H locs la C a1 a2 a3 a4 a5
  exact lv_aload_n C.1 C.2.1 hd hi (rk_lv a5 hl) (kk p e Rm s m args below meth cd H locs la C (rk_oc (rk_lo a2 hl) a1) a2 a3 a4 a5)
theorem rk_aloadT {i : Nat} {a : Nat} (hd : decode M.2.1 pc = .ok (.aload i, 2)) (hl : rk_lk i ls = some (rk_t a)) (kk : rk_Wp w l M d mc ms G (pc + 2) (ls) (rk_t a :: st) Z I R) : rk_Wp w l M d mc ms G (pc) (ls) (st) Z I R := by
  intro p e Rm s m args below meth cd H locs la C a1 a2 a3 a4 a5
  exact lv_aload C.1 C.2.1 hd (rk_lv a5 hl) (kk p e Rm s m args below meth cd H locs la C (rk_oc (rk_lo a2 hl) a1) a2 a3 a4 a5)
theorem rk_istore_n {k : Fin 4} (i : Nat) {x : Int32} {ls' : List (Nat × rk_V)} (hd : decode M.2.1 pc = .ok (.istore_n k, 1)) (hi : (k : Nat) = i) (hn : i < M.2.2.1) (hs : (i, rk_i x) :: rk_rm1 i ls = ls') (kk : rk_Wp w l M d mc ms G (pc + 1) (ls') (st) Z I R) : rk_Wp w l M d mc ms G (pc) (ls) (rk_i x :: st) Z I R := by
  intro p e Rm s m args below meth cd H locs la C a1 a2 a3 a4 a5
  refine lv_istore_n (lv' := rk_ms w ls') C.1 C.2.1 hd hi a5 hn (by rw [rk_rm1_map, ← hs]; rfl) (fun la' h' => ?_)
  exact kk p e Rm s m args below meth cd H locs la' C (rk_ot a1) (by rw [← hs]; exact rk_oc (trivial) (rk_rm1_ok a2)) a3 a4 h'
theorem rk_istore {i : Nat} {x : Int32} {ls' : List (Nat × rk_V)} (hd : decode M.2.1 pc = .ok (.istore i, 2)) (hn : i < M.2.2.1) (hs : (i, rk_i x) :: rk_rm1 i ls = ls') (kk : rk_Wp w l M d mc ms G (pc + 2) (ls') (st) Z I R) : rk_Wp w l M d mc ms G (pc) (ls) (rk_i x :: st) Z I R := by
  intro p e Rm s m args below meth cd H locs la C a1 a2 a3 a4 a5
  refine lv_istore (lv' := rk_ms w ls') C.1 C.2.1 hd a5 hn (by rw [rk_rm1_map, ← hs]; rfl) (fun la' h' => ?_)
  exact kk p e Rm s m args below meth cd H locs la' C (rk_ot a1) (by rw [← hs]; exact rk_oc (trivial) (rk_rm1_ok a2)) a3 a4 h'
theorem rk_lstore_n {k : Fin 4} (i : Nat) {x : Int64} {ls' : List (Nat × rk_V)} (hd : decode M.2.1 pc = .ok (.lstore_n k, 1)) (hi : (k : Nat) = i) (hn : i + 1 < M.2.2.1) (hs : (i, rk_l x) :: rk_rm2 i ls = ls') (kk : rk_Wp w l M d mc ms G (pc + 1) (ls') (st) Z I R) : rk_Wp w l M d mc ms G (pc) (ls) (rk_l x :: st) Z I R := by
  intro p e Rm s m args below meth cd H locs la C a1 a2 a3 a4 a5
  refine lv_lstore_n (lv' := rk_ms w ls') C.1 C.2.1 hd hi a5 hn (by rw [rk_rm2_map, ← hs]; rfl) (fun la' h' => ?_)
  exact kk p e Rm s m args below meth cd H locs la' C (rk_ot a1) (by rw [← hs]; exact rk_oc (trivial) (rk_rm2_ok a2)) a3 a4 h'
theorem rk_lstore {i : Nat} {x : Int64} {ls' : List (Nat × rk_V)} (hd : decode M.2.1 pc = .ok (.lstore i, 2)) (hn : i + 1 < M.2.2.1) (hs : (i, rk_l x) :: rk_rm2 i ls = ls') (kk : rk_Wp w l M d mc ms G (pc + 2) (ls') (st) Z I R) : rk_Wp w l M d mc ms G (pc) (ls) (rk_l x :: st) Z I R := by
  intro p e Rm s m args below meth cd H locs la C a1 a2 a3 a4 a5
  refine lv_lstore (lv' := rk_ms w ls') C.1 C.2.1 hd a5 hn (by rw [rk_rm2_map, ← hs]; rfl) (fun la' h' => ?_)
  exact kk p e Rm s m args below meth cd H locs la' C (rk_ot a1) (by rw [← hs]; exact rk_oc (trivial) (rk_rm2_ok a2)) a3 a4 h'
theorem rk_astore_n {k : Fin 4} (i : Nat) {k0 a : Nat} {ls' : List (Nat × rk_V)} (hd : decode M.2.1 pc = .ok (.astore_n k, 1)) (hi : (k : Nat) = i) (hn : i < M.2.2.1) (hs : (i, rk_a k0 a) :: rk_rm1 i ls = ls') (kk : rk_Wp w l M d mc ms G (pc + 1) (ls') (st) Z I R) : rk_Wp w l M d mc ms G (pc) (ls) (rk_a k0 a :: st) Z I R := by
  intro p e Rm s m args below meth cd H locs la C a1 a2 a3 a4 a5
  refine lv_astore_n (lv' := rk_ms w ls') C.1 C.2.1 hd hi a5 hn (by rw [rk_rm1_map, ← hs]; rfl) (fun la' h' => ?_)
  exact kk p e Rm s m args below meth cd H locs la' C (rk_ot a1) (by rw [← hs]; exact rk_oc (rk_oh a1) (rk_rm1_ok a2)) a3 a4 h'
theorem rk_astore {i : Nat} {k0 a : Nat} {ls' : List (Nat × rk_V)} (hd : decode M.2.1 pc = .ok (.astore i, 2)) (hn : i < M.2.2.1) (hs : (i, rk_a k0 a) :: rk_rm1 i ls = ls') (kk : rk_Wp w l M d mc ms G (pc + 2) (ls') (st) Z I R) : rk_Wp w l M d mc ms G (pc) (ls) (rk_a k0 a :: st) Z I R := by
  intro p e Rm s m args below meth cd H locs la C a1 a2 a3 a4 a5
  refine lv_astore (lv' := rk_ms w ls') C.1 C.2.1 hd a5 hn (by rw [rk_rm1_map, ← hs]; rfl) (fun la' h' => ?_)
  exact kk p e Rm s m args below meth cd H locs la' C (rk_ot a1) (by rw [← hs]; exact rk_oc (rk_oh a1) (rk_rm1_ok a2)) a3 a4 h'
theorem rk_astoreT_n {k : Fin 4} (i : Nat) {a : Nat} {ls' : List (Nat × rk_V)} (hd : decode M.2.1 pc = .ok (.astore_n k, 1)) (hi : (k : Nat) = i) (hn : i < M.2.2.1) (hs : (i, rk_t a) :: rk_rm1 i ls = ls') (kk : rk_Wp w l M d mc ms G (pc + 1) (ls') (st) Z I R) : rk_Wp w l M d mc ms G (pc) (ls) (rk_t a :: st) Z I R := by
  intro p e Rm s m args below meth cd H locs la C a1 a2 a3 a4 a5
  refine lv_astore_n (lv' := rk_ms w ls') C.1 C.2.1 hd hi a5 hn (by rw [rk_rm1_map, ← hs]; rfl) (fun la' h' => ?_)
  exact kk p e Rm s m args below meth cd H locs la' C (rk_ot a1) (by rw [← hs]; exact rk_oc (rk_oh a1) (rk_rm1_ok a2)) a3 a4 h'
theorem rk_astoreT {i : Nat} {a : Nat} {ls' : List (Nat × rk_V)} (hd : decode M.2.1 pc = .ok (.astore i, 2)) (hn : i < M.2.2.1) (hs : (i, rk_t a) :: rk_rm1 i ls = ls') (kk : rk_Wp w l M d mc ms G (pc + 2) (ls') (st) Z I R) : rk_Wp w l M d mc ms G (pc) (ls) (rk_t a :: st) Z I R := by
  intro p e Rm s m args below meth cd H locs la C a1 a2 a3 a4 a5
  refine lv_astore (lv' := rk_ms w ls') C.1 C.2.1 hd a5 hn (by rw [rk_rm1_map, ← hs]; rfl) (fun la' h' => ?_)
  exact kk p e Rm s m args below meth cd H locs la' C (rk_ot a1) (by rw [← hs]; exact rk_oc (rk_oh a1) (rk_rm1_ok a2)) a3 a4 h'
theorem rk_getM {w : rk_W} {i : Nat} {v : rk_V} : ∀ {ls : List (Nat × rk_V)}, rk_lk i ls = some v → ∃ k : Nat, (rk_ms w ls)[k]? = some (i, rk_v w v) := fun h => List.getElem?_of_mem (List.mem_map.mpr ⟨(i, _), rk_lk_mem h, rfl⟩)
theorem rk_iinc {i : Nat} {n : Int} {x : Int32} (v : Int32) {ls' : List (Nat × rk_V)} (hd : decode M.2.1 pc = .ok (.iinc i n, 3)) (hn : i < M.2.2.1) (hl : rk_lk i ls = some (rk_i x)) (hv : Int32.ofInt n = v) (hs : (i, rk_i (x + v)) :: rk_rm1 i ls = ls') (kk : rk_Wp w l M d mc ms G (pc + 3) (ls') (st) Z I R) : rk_Wp w l M d mc ms G (pc) (ls) (st) Z I R := by
  intro p e Rm s m args below meth cd H locs la C a1 a2 a3 a4 a5
  obtain ⟨j, hj⟩ := rk_getM (w := w) hl
  refine lv_iinc (v := x + v) (lv' := rk_ms w ls') C.1 C.2.1 hd a5 hj (by rw [hv]) hn (by rw [rk_rm1_map, ← hs]; rfl) (fun la' h' => ?_)
  exact kk p e Rm s m args below meth cd H locs la' C a1 (by rw [← hs]; exact rk_oc trivial (rk_rm1_ok a2)) a3 a4 h'
theorem rk_iadd {x y : Int32} (hd : decode M.2.1 pc = .ok (.iadd, 1))  (kk : rk_Wp w l M d mc ms G (pc + 1) (ls) (rk_i (x + y) :: st) Z I R) : rk_Wp w l M d mc ms G (pc) (ls) (rk_i y :: rk_i x :: st) Z I R := by
  intro p e Rm s m args below meth cd H locs la C a1 a2 a3 a4 a5
  exact lv_iadd C.1 C.2.1 hd (kk p e Rm s m args below meth cd H locs la C (rk_oc trivial (rk_ot (rk_ot a1))) a2 a3 a4 a5)
theorem rk_isub {x y : Int32} (hd : decode M.2.1 pc = .ok (.isub, 1))  (kk : rk_Wp w l M d mc ms G (pc + 1) (ls) (rk_i (x - y) :: st) Z I R) : rk_Wp w l M d mc ms G (pc) (ls) (rk_i y :: rk_i x :: st) Z I R := by
  intro p e Rm s m args below meth cd H locs la C a1 a2 a3 a4 a5
  exact lv_isub C.1 C.2.1 hd (kk p e Rm s m args below meth cd H locs la C (rk_oc trivial (rk_ot (rk_ot a1))) a2 a3 a4 a5)
theorem rk_imul {x y : Int32} (hd : decode M.2.1 pc = .ok (.imul, 1))  (kk : rk_Wp w l M d mc ms G (pc + 1) (ls) (rk_i (x * y) :: st) Z I R) : rk_Wp w l M d mc ms G (pc) (ls) (rk_i y :: rk_i x :: st) Z I R := by
  intro p e Rm s m args below meth cd H locs la C a1 a2 a3 a4 a5
  exact lv_imul C.1 C.2.1 hd (kk p e Rm s m args below meth cd H locs la C (rk_oc trivial (rk_ot (rk_ot a1))) a2 a3 a4 a5)
theorem rk_iand {x y : Int32} (hd : decode M.2.1 pc = .ok (.iand, 1))  (kk : rk_Wp w l M d mc ms G (pc + 1) (ls) (rk_i (x &&& y) :: st) Z I R) : rk_Wp w l M d mc ms G (pc) (ls) (rk_i y :: rk_i x :: st) Z I R := by
  intro p e Rm s m args below meth cd H locs la C a1 a2 a3 a4 a5
  exact lv_iand C.1 C.2.1 hd (kk p e Rm s m args below meth cd H locs la C (rk_oc trivial (rk_ot (rk_ot a1))) a2 a3 a4 a5)
theorem rk_ior {x y : Int32} (hd : decode M.2.1 pc = .ok (.ior, 1))  (kk : rk_Wp w l M d mc ms G (pc + 1) (ls) (rk_i (x ||| y) :: st) Z I R) : rk_Wp w l M d mc ms G (pc) (ls) (rk_i y :: rk_i x :: st) Z I R := by
  intro p e Rm s m args below meth cd H locs la C a1 a2 a3 a4 a5
  exact lv_ior C.1 C.2.1 hd (kk p e Rm s m args below meth cd H locs la C (rk_oc trivial (rk_ot (rk_ot a1))) a2 a3 a4 a5)
theorem rk_ishl {x y : Int32} (hd : decode M.2.1 pc = .ok (.ishl, 1))  (kk : rk_Wp w l M d mc ms G (pc + 1) (ls) (rk_i (x <<< (y &&& 31)) :: st) Z I R) : rk_Wp w l M d mc ms G (pc) (ls) (rk_i y :: rk_i x :: st) Z I R := by
  intro p e Rm s m args below meth cd H locs la C a1 a2 a3 a4 a5
  exact lv_ishl C.1 C.2.1 hd (kk p e Rm s m args below meth cd H locs la C (rk_oc trivial (rk_ot (rk_ot a1))) a2 a3 a4 a5)
theorem rk_ishr {x y : Int32} (hd : decode M.2.1 pc = .ok (.ishr, 1))  (kk : rk_Wp w l M d mc ms G (pc + 1) (ls) (rk_i (x >>> (y &&& 31)) :: st) Z I R) : rk_Wp w l M d mc ms G (pc) (ls) (rk_i y :: rk_i x :: st) Z I R := by
  intro p e Rm s m args below meth cd H locs la C a1 a2 a3 a4 a5
  exact lv_ishr C.1 C.2.1 hd (kk p e Rm s m args below meth cd H locs la C (rk_oc trivial (rk_ot (rk_ot a1))) a2 a3 a4 a5)
theorem rk_ladd {x y : Int64} (hd : decode M.2.1 pc = .ok (.ladd, 1))  (kk : rk_Wp w l M d mc ms G (pc + 1) (ls) (rk_l (x + y) :: st) Z I R) : rk_Wp w l M d mc ms G (pc) (ls) (rk_l y :: rk_l x :: st) Z I R := by
  intro p e Rm s m args below meth cd H locs la C a1 a2 a3 a4 a5
  exact lv_ladd C.1 C.2.1 hd (kk p e Rm s m args below meth cd H locs la C (rk_oc trivial (rk_ot (rk_ot a1))) a2 a3 a4 a5)
theorem rk_lmul {x y : Int64} (hd : decode M.2.1 pc = .ok (.lmul, 1))  (kk : rk_Wp w l M d mc ms G (pc + 1) (ls) (rk_l (x * y) :: st) Z I R) : rk_Wp w l M d mc ms G (pc) (ls) (rk_l y :: rk_l x :: st) Z I R := by
  intro p e Rm s m args below meth cd H locs la C a1 a2 a3 a4 a5
  exact lv_lmul C.1 C.2.1 hd (kk p e Rm s m args below meth cd H locs la C (rk_oc trivial (rk_ot (rk_ot a1))) a2 a3 a4 a5)
theorem rk_land {x y : Int64} (hd : decode M.2.1 pc = .ok (.land, 1))  (kk : rk_Wp w l M d mc ms G (pc + 1) (ls) (rk_l (x &&& y) :: st) Z I R) : rk_Wp w l M d mc ms G (pc) (ls) (rk_l y :: rk_l x :: st) Z I R := by
  intro p e Rm s m args below meth cd H locs la C a1 a2 a3 a4 a5
  exact lv_land C.1 C.2.1 hd (kk p e Rm s m args below meth cd H locs la C (rk_oc trivial (rk_ot (rk_ot a1))) a2 a3 a4 a5)
theorem rk_lor {x y : Int64} (hd : decode M.2.1 pc = .ok (.lor, 1))  (kk : rk_Wp w l M d mc ms G (pc + 1) (ls) (rk_l (x ||| y) :: st) Z I R) : rk_Wp w l M d mc ms G (pc) (ls) (rk_l y :: rk_l x :: st) Z I R := by
  intro p e Rm s m args below meth cd H locs la C a1 a2 a3 a4 a5
  exact lv_lor C.1 C.2.1 hd (kk p e Rm s m args below meth cd H locs la C (rk_oc trivial (rk_ot (rk_ot a1))) a2 a3 a4 a5)
theorem rk_idiv {x y : Int32} (hd : decode M.2.1 pc = .ok (.idiv, 1)) (hy : ¬ y = 0) (kk : rk_Wp w l M d mc ms G (pc + 1) (ls) (rk_i (x / y) :: st) Z I R) : rk_Wp w l M d mc ms G (pc) (ls) (rk_i y :: rk_i x :: st) Z I R := by
  intro p e Rm s m args below meth cd H locs la C a1 a2 a3 a4 a5
  exact lv_idiv C.1 C.2.1 hd hy (kk p e Rm s m args below meth cd H locs la C (rk_oc trivial (rk_ot (rk_ot a1))) a2 a3 a4 a5)
theorem rk_irem {x y : Int32} (hd : decode M.2.1 pc = .ok (.irem, 1)) (hy : ¬ y = 0) (kk : rk_Wp w l M d mc ms G (pc + 1) (ls) (rk_i (x - x / y * y) :: st) Z I R) : rk_Wp w l M d mc ms G (pc) (ls) (rk_i y :: rk_i x :: st) Z I R := by
  intro p e Rm s m args below meth cd H locs la C a1 a2 a3 a4 a5
  exact lv_irem C.1 C.2.1 hd hy (kk p e Rm s m args below meth cd H locs la C (rk_oc trivial (rk_ot (rk_ot a1))) a2 a3 a4 a5)
theorem rk_ldiv {x y : Int64} (hd : decode M.2.1 pc = .ok (.ldiv, 1)) (hy : ¬ y = 0) (kk : rk_Wp w l M d mc ms G (pc + 1) (ls) (rk_l (x / y) :: st) Z I R) : rk_Wp w l M d mc ms G (pc) (ls) (rk_l y :: rk_l x :: st) Z I R := by
  intro p e Rm s m args below meth cd H locs la C a1 a2 a3 a4 a5
  exact lv_ldiv C.1 C.2.1 hd hy (kk p e Rm s m args below meth cd H locs la C (rk_oc trivial (rk_ot (rk_ot a1))) a2 a3 a4 a5)
theorem rk_ineg {x : Int32} (hd : decode M.2.1 pc = .ok (.ineg, 1))  (kk : rk_Wp w l M d mc ms G (pc + 1) (ls) (rk_i (-x) :: st) Z I R) : rk_Wp w l M d mc ms G (pc) (ls) (rk_i x :: st) Z I R := by
  intro p e Rm s m args below meth cd H locs la C a1 a2 a3 a4 a5
  exact lv_ineg C.1 C.2.1 hd (kk p e Rm s m args below meth cd H locs la C (rk_oc trivial (rk_ot a1)) a2 a3 a4 a5)
theorem rk_i2l {x : Int32} (hd : decode M.2.1 pc = .ok (.i2l, 1))  (kk : rk_Wp w l M d mc ms G (pc + 1) (ls) (rk_l x.toInt64 :: st) Z I R) : rk_Wp w l M d mc ms G (pc) (ls) (rk_i x :: st) Z I R := by
  intro p e Rm s m args below meth cd H locs la C a1 a2 a3 a4 a5
  exact lv_i2l C.1 C.2.1 hd rfl (kk p e Rm s m args below meth cd H locs la C (rk_oc trivial (rk_ot a1)) a2 a3 a4 a5)
theorem rk_l2i {x : Int64} (hd : decode M.2.1 pc = .ok (.l2i, 1))  (kk : rk_Wp w l M d mc ms G (pc + 1) (ls) (rk_i x.toInt32 :: st) Z I R) : rk_Wp w l M d mc ms G (pc) (ls) (rk_l x :: st) Z I R := by
  intro p e Rm s m args below meth cd H locs la C a1 a2 a3 a4 a5
  exact lv_l2i C.1 C.2.1 hd rfl (kk p e Rm s m args below meth cd H locs la C (rk_oc trivial (rk_ot a1)) a2 a3 a4 a5)
theorem rk_i2c {x : Int32} (hd : decode M.2.1 pc = .ok (.i2c, 1))  (kk : rk_Wp w l M d mc ms G (pc + 1) (ls) (rk_i (x.toUInt32 % 65536).toInt32 :: st) Z I R) : rk_Wp w l M d mc ms G (pc) (ls) (rk_i x :: st) Z I R := by
  intro p e Rm s m args below meth cd H locs la C a1 a2 a3 a4 a5
  exact lv_i2c C.1 C.2.1 hd rfl (kk p e Rm s m args below meth cd H locs la C (rk_oc trivial (rk_ot a1)) a2 a3 a4 a5)
theorem rk_lushr {x : Int64} {y : Int32} (hd : decode M.2.1 pc = .ok (.lushr, 1))  (kk : rk_Wp w l M d mc ms G (pc + 1) (ls) (rk_l (x.toUInt64 >>> (y.toInt64.toUInt64 &&& Int64.toUInt64 63)).toInt64 :: st) Z I R) : rk_Wp w l M d mc ms G (pc) (ls) (rk_i y :: rk_l x :: st) Z I R := by
  intro p e Rm s m args below meth cd H locs la C a1 a2 a3 a4 a5
  exact lv_lushr C.1 C.2.1 hd rfl (kk p e Rm s m args below meth cd H locs la C (rk_oc trivial (rk_ot (rk_ot a1))) a2 a3 a4 a5)
theorem rk_lshl {x : Int64} {y : Int32} (hd : decode M.2.1 pc = .ok (.lshl, 1))  (kk : rk_Wp w l M d mc ms G (pc + 1) (ls) (rk_l (x <<< (y.toInt64 &&& 63)) :: st) Z I R) : rk_Wp w l M d mc ms G (pc) (ls) (rk_i y :: rk_l x :: st) Z I R := by
  intro p e Rm s m args below meth cd H locs la C a1 a2 a3 a4 a5
  exact lv_lshl C.1 C.2.1 hd rfl (kk p e Rm s m args below meth cd H locs la C (rk_oc trivial (rk_ot (rk_ot a1))) a2 a3 a4 a5)
theorem rk_iushr {x y : Int32} (hd : decode M.2.1 pc = .ok (.iushr, 1))  (kk : rk_Wp w l M d mc ms G (pc + 1) (ls) (rk_i (x.toUInt32 >>> (y.toUInt32 &&& Int32.toUInt32 31)).toInt32 :: st) Z I R) : rk_Wp w l M d mc ms G (pc) (ls) (rk_i y :: rk_i x :: st) Z I R := by
  intro p e Rm s m args below meth cd H locs la C a1 a2 a3 a4 a5
  exact lv_iushr C.1 C.2.1 hd rfl (kk p e Rm s m args below meth cd H locs la C (rk_oc trivial (rk_ot (rk_ot a1))) a2 a3 a4 a5)
theorem rk_lcmp {x y : Int64} (hd : decode M.2.1 pc = .ok (.lcmp, 1))  (kk : rk_Wp w l M d mc ms G (pc + 1) (ls) (rk_i (lg_cmp x y) :: st) Z I R) : rk_Wp w l M d mc ms G (pc) (ls) (rk_l y :: rk_l x :: st) Z I R := by
  intro p e Rm s m args below meth cd H locs la C a1 a2 a3 a4 a5
  exact W.lcmp C.1 C.2.1 hd (kk p e Rm s m args below meth cd H locs la C (rk_oc trivial (rk_ot (rk_ot a1))) a2 a3 a4 a5)
theorem rk_c1 {w : rk_W} {v : rk_V} (h : rk_is2 v = false) : (rk_v w v).category = 1 := by
  rcases v with x | x | x | x
  · rfl
  · cases h
  · rfl
  · rfl
theorem rk_dup {v : rk_V} (hd : decode M.2.1 pc = .ok (.dup, 1)) (hc : rk_is2 v = false) (kk : rk_Wp w l M d mc ms G (pc + 1) (ls) (v :: v :: st) Z I R) : rk_Wp w l M d mc ms G (pc) (ls) (v :: st) Z I R := by
  intro p e Rm s m args below meth cd H locs la C a1 a2 a3 a4 a5
  exact lv_dup C.1 C.2.1 hd (rk_c1 hc) (kk p e Rm s m args below meth cd H locs la C (rk_oc (rk_oh a1) a1) a2 a3 a4 a5)
theorem rk_pop {v : rk_V} (hd : decode M.2.1 pc = .ok (.pop, 1)) (hc : rk_is2 v = false) (kk : rk_Wp w l M d mc ms G (pc + 1) (ls) (st) Z I R) : rk_Wp w l M d mc ms G (pc) (ls) (v :: st) Z I R := by
  intro p e Rm s m args below meth cd H locs la C a1 a2 a3 a4 a5
  exact lv_pop C.1 C.2.1 hd (rk_c1 hc) (kk p e Rm s m args below meth cd H locs la C (rk_ot a1) a2 a3 a4 a5)
theorem rk_dup_x1 {v u : rk_V} (hd : decode M.2.1 pc = .ok (.dup_x1, 1)) (hc : rk_is2 v = false) (hu : rk_is2 u = false) (kk : rk_Wp w l M d mc ms G (pc + 1) (ls) (v :: u :: v :: st) Z I R) : rk_Wp w l M d mc ms G (pc) (ls) (v :: u :: st) Z I R := by
  intro p e Rm s m args below meth cd H locs la C a1 a2 a3 a4 a5
  exact lv_dup_x1 C.1 C.2.1 hd (rk_c1 hc) (rk_c1 hu) (kk p e Rm s m args below meth cd H locs la C (rk_oc (rk_oh a1) (rk_oc (rk_oh (rk_ot a1)) (rk_oc (rk_oh a1) (rk_ot (rk_ot a1))))) a2 a3 a4 a5)
theorem rk_dup2 {v u : rk_V} (hd : decode M.2.1 pc = .ok (.dup2, 1)) (hc : rk_is2 v = false) (hu : rk_is2 u = false) (kk : rk_Wp w l M d mc ms G (pc + 1) (ls) (v :: u :: v :: u :: st) Z I R) : rk_Wp w l M d mc ms G (pc) (ls) (v :: u :: st) Z I R := by
  intro p e Rm s m args below meth cd H locs la C a1 a2 a3 a4 a5
  exact lv_dup2_11 C.1 C.2.1 hd (rk_c1 hc) (rk_c1 hu) (kk p e Rm s m args below meth cd H locs la C (rk_oc (rk_oh a1) (rk_oc (rk_oh (rk_ot a1)) a1)) a2 a3 a4 a5)
theorem rk_if_eq {x : Int32} {off : Int} (tgt : Nat) (hd : decode M.2.1 pc = .ok (.ifCond .eq off, 3)) (ht : (pc : Int) + off = (tgt : Int)) (kt : x = 0 → rk_Wp w l M d mc ms G (tgt) (ls) (st) Z I R) (kf : ¬ (x = 0) → rk_Wp w l M d mc ms G (pc + 3) (ls) (st) Z I R) : rk_Wp w l M d mc ms G (pc) (ls) (rk_i x :: st) Z I R := by
  intro p e Rm s m args below meth cd H locs la C a1 a2 a3 a4 a5
  exact lv_if_eq C.1 C.2.1 hd ht (fun h => kt h p e Rm s m args below meth cd H locs la C (rk_ot a1) a2 a3 a4 a5) (fun h => kf h p e Rm s m args below meth cd H locs la C (rk_ot a1) a2 a3 a4 a5)
theorem rk_if_ne {x : Int32} {off : Int} (tgt : Nat) (hd : decode M.2.1 pc = .ok (.ifCond .ne off, 3)) (ht : (pc : Int) + off = (tgt : Int)) (kt : ¬ x = 0 → rk_Wp w l M d mc ms G (tgt) (ls) (st) Z I R) (kf : x = 0 → rk_Wp w l M d mc ms G (pc + 3) (ls) (st) Z I R) : rk_Wp w l M d mc ms G (pc) (ls) (rk_i x :: st) Z I R := by
  intro p e Rm s m args below meth cd H locs la C a1 a2 a3 a4 a5
  exact lv_if_ne C.1 C.2.1 hd ht (fun h => kt h p e Rm s m args below meth cd H locs la C (rk_ot a1) a2 a3 a4 a5) (fun h => kf h p e Rm s m args below meth cd H locs la C (rk_ot a1) a2 a3 a4 a5)
theorem rk_if_lt {x : Int32} {off : Int} (tgt : Nat) (hd : decode M.2.1 pc = .ok (.ifCond .lt off, 3)) (ht : (pc : Int) + off = (tgt : Int)) (kt : x < 0 → rk_Wp w l M d mc ms G (tgt) (ls) (st) Z I R) (kf : ¬ (x < 0) → rk_Wp w l M d mc ms G (pc + 3) (ls) (st) Z I R) : rk_Wp w l M d mc ms G (pc) (ls) (rk_i x :: st) Z I R := by
  intro p e Rm s m args below meth cd H locs la C a1 a2 a3 a4 a5
  exact lv_if_lt C.1 C.2.1 hd ht (fun h => kt h p e Rm s m args below meth cd H locs la C (rk_ot a1) a2 a3 a4 a5) (fun h => kf h p e Rm s m args below meth cd H locs la C (rk_ot a1) a2 a3 a4 a5)
theorem rk_if_ge {x : Int32} {off : Int} (tgt : Nat) (hd : decode M.2.1 pc = .ok (.ifCond .ge off, 3)) (ht : (pc : Int) + off = (tgt : Int)) (kt : 0 ≤ x → rk_Wp w l M d mc ms G (tgt) (ls) (st) Z I R) (kf : ¬ (0 ≤ x) → rk_Wp w l M d mc ms G (pc + 3) (ls) (st) Z I R) : rk_Wp w l M d mc ms G (pc) (ls) (rk_i x :: st) Z I R := by
  intro p e Rm s m args below meth cd H locs la C a1 a2 a3 a4 a5
  exact lv_if_ge C.1 C.2.1 hd ht (fun h => kt h p e Rm s m args below meth cd H locs la C (rk_ot a1) a2 a3 a4 a5) (fun h => kf h p e Rm s m args below meth cd H locs la C (rk_ot a1) a2 a3 a4 a5)
theorem rk_if_gt {x : Int32} {off : Int} (tgt : Nat) (hd : decode M.2.1 pc = .ok (.ifCond .gt off, 3)) (ht : (pc : Int) + off = (tgt : Int)) (kt : 0 < x → rk_Wp w l M d mc ms G (tgt) (ls) (st) Z I R) (kf : ¬ (0 < x) → rk_Wp w l M d mc ms G (pc + 3) (ls) (st) Z I R) : rk_Wp w l M d mc ms G (pc) (ls) (rk_i x :: st) Z I R := by
  intro p e Rm s m args below meth cd H locs la C a1 a2 a3 a4 a5
  exact lv_if_gt C.1 C.2.1 hd ht (fun h => kt h p e Rm s m args below meth cd H locs la C (rk_ot a1) a2 a3 a4 a5) (fun h => kf h p e Rm s m args below meth cd H locs la C (rk_ot a1) a2 a3 a4 a5)
theorem rk_if_le {x : Int32} {off : Int} (tgt : Nat) (hd : decode M.2.1 pc = .ok (.ifCond .le off, 3)) (ht : (pc : Int) + off = (tgt : Int)) (kt : x ≤ 0 → rk_Wp w l M d mc ms G (tgt) (ls) (st) Z I R) (kf : ¬ (x ≤ 0) → rk_Wp w l M d mc ms G (pc + 3) (ls) (st) Z I R) : rk_Wp w l M d mc ms G (pc) (ls) (rk_i x :: st) Z I R := by
  intro p e Rm s m args below meth cd H locs la C a1 a2 a3 a4 a5
  exact lv_if_le C.1 C.2.1 hd ht (fun h => kt h p e Rm s m args below meth cd H locs la C (rk_ot a1) a2 a3 a4 a5) (fun h => kf h p e Rm s m args below meth cd H locs la C (rk_ot a1) a2 a3 a4 a5)
theorem rk_icmp_eq {x y : Int32} {off : Int} (tgt : Nat) (hd : decode M.2.1 pc = .ok (.if_icmp .eq off, 3)) (ht : (pc : Int) + off = (tgt : Int)) (kt : x = y → rk_Wp w l M d mc ms G (tgt) (ls) (st) Z I R) (kf : ¬ (x = y) → rk_Wp w l M d mc ms G (pc + 3) (ls) (st) Z I R) : rk_Wp w l M d mc ms G (pc) (ls) (rk_i y :: rk_i x :: st) Z I R := by
  intro p e Rm s m args below meth cd H locs la C a1 a2 a3 a4 a5
  exact lv_icmp_eq C.1 C.2.1 hd ht (fun h => kt h p e Rm s m args below meth cd H locs la C (rk_ot (rk_ot a1)) a2 a3 a4 a5) (fun h => kf h p e Rm s m args below meth cd H locs la C (rk_ot (rk_ot a1)) a2 a3 a4 a5)
theorem rk_icmp_ne {x y : Int32} {off : Int} (tgt : Nat) (hd : decode M.2.1 pc = .ok (.if_icmp .ne off, 3)) (ht : (pc : Int) + off = (tgt : Int)) (kt : ¬ x = y → rk_Wp w l M d mc ms G (tgt) (ls) (st) Z I R) (kf : x = y → rk_Wp w l M d mc ms G (pc + 3) (ls) (st) Z I R) : rk_Wp w l M d mc ms G (pc) (ls) (rk_i y :: rk_i x :: st) Z I R := by
  intro p e Rm s m args below meth cd H locs la C a1 a2 a3 a4 a5
  exact lv_icmp_ne C.1 C.2.1 hd ht (fun h => kt h p e Rm s m args below meth cd H locs la C (rk_ot (rk_ot a1)) a2 a3 a4 a5) (fun h => kf h p e Rm s m args below meth cd H locs la C (rk_ot (rk_ot a1)) a2 a3 a4 a5)
theorem rk_icmp_lt {x y : Int32} {off : Int} (tgt : Nat) (hd : decode M.2.1 pc = .ok (.if_icmp .lt off, 3)) (ht : (pc : Int) + off = (tgt : Int)) (kt : x < y → rk_Wp w l M d mc ms G (tgt) (ls) (st) Z I R) (kf : ¬ (x < y) → rk_Wp w l M d mc ms G (pc + 3) (ls) (st) Z I R) : rk_Wp w l M d mc ms G (pc) (ls) (rk_i y :: rk_i x :: st) Z I R := by
  intro p e Rm s m args below meth cd H locs la C a1 a2 a3 a4 a5
  exact lv_icmp_lt C.1 C.2.1 hd ht (fun h => kt h p e Rm s m args below meth cd H locs la C (rk_ot (rk_ot a1)) a2 a3 a4 a5) (fun h => kf h p e Rm s m args below meth cd H locs la C (rk_ot (rk_ot a1)) a2 a3 a4 a5)
theorem rk_icmp_ge {x y : Int32} {off : Int} (tgt : Nat) (hd : decode M.2.1 pc = .ok (.if_icmp .ge off, 3)) (ht : (pc : Int) + off = (tgt : Int)) (kt : y ≤ x → rk_Wp w l M d mc ms G (tgt) (ls) (st) Z I R) (kf : ¬ (y ≤ x) → rk_Wp w l M d mc ms G (pc + 3) (ls) (st) Z I R) : rk_Wp w l M d mc ms G (pc) (ls) (rk_i y :: rk_i x :: st) Z I R := by
  intro p e Rm s m args below meth cd H locs la C a1 a2 a3 a4 a5
  exact lv_icmp_ge C.1 C.2.1 hd ht (fun h => kt h p e Rm s m args below meth cd H locs la C (rk_ot (rk_ot a1)) a2 a3 a4 a5) (fun h => kf h p e Rm s m args below meth cd H locs la C (rk_ot (rk_ot a1)) a2 a3 a4 a5)
theorem rk_icmp_gt {x y : Int32} {off : Int} (tgt : Nat) (hd : decode M.2.1 pc = .ok (.if_icmp .gt off, 3)) (ht : (pc : Int) + off = (tgt : Int)) (kt : y < x → rk_Wp w l M d mc ms G (tgt) (ls) (st) Z I R) (kf : ¬ (y < x) → rk_Wp w l M d mc ms G (pc + 3) (ls) (st) Z I R) : rk_Wp w l M d mc ms G (pc) (ls) (rk_i y :: rk_i x :: st) Z I R := by
  intro p e Rm s m args below meth cd H locs la C a1 a2 a3 a4 a5
  exact lv_icmp_gt C.1 C.2.1 hd ht (fun h => kt h p e Rm s m args below meth cd H locs la C (rk_ot (rk_ot a1)) a2 a3 a4 a5) (fun h => kf h p e Rm s m args below meth cd H locs la C (rk_ot (rk_ot a1)) a2 a3 a4 a5)
theorem rk_icmp_le {x y : Int32} {off : Int} (tgt : Nat) (hd : decode M.2.1 pc = .ok (.if_icmp .le off, 3)) (ht : (pc : Int) + off = (tgt : Int)) (kt : x ≤ y → rk_Wp w l M d mc ms G (tgt) (ls) (st) Z I R) (kf : ¬ (x ≤ y) → rk_Wp w l M d mc ms G (pc + 3) (ls) (st) Z I R) : rk_Wp w l M d mc ms G (pc) (ls) (rk_i y :: rk_i x :: st) Z I R := by
  intro p e Rm s m args below meth cd H locs la C a1 a2 a3 a4 a5
  exact lv_icmp_le C.1 C.2.1 hd ht (fun h => kt h p e Rm s m args below meth cd H locs la C (rk_ot (rk_ot a1)) a2 a3 a4 a5) (fun h => kf h p e Rm s m args below meth cd H locs la C (rk_ot (rk_ot a1)) a2 a3 a4 a5)
theorem rk_goto {off : Int} (tgt : Nat) (hd : decode M.2.1 pc = .ok (.goto off, 3)) (ht : (pc : Int) + off = (tgt : Int)) (kk : rk_Wp w l M d mc ms G (tgt) (ls) (st) Z I R) : rk_Wp w l M d mc ms G (pc) (ls) (st) Z I R := by
  intro p e Rm s m args below meth cd H locs la C a1 a2 a3 a4 a5
  exact lv_goto C.1 C.2.1 hd ht (kk p e Rm s m args below meth cd H locs la C a1 a2 a3 a4 a5)
theorem rk_pc {pc' : Nat} (h : pc = pc') (kk : rk_Wp w l M d mc ms G (pc') (ls) (st) Z I R) : rk_Wp w l M d mc ms G (pc) (ls) (st) Z I R := h ▸ kk
/-- the cases of a table, from its first value on -/
def rk_cs (K : Nat → Prop) (pc : Nat) (x : Int32) : Int → List Int → Prop
  | _, [] => True
  | lo, o :: os => (x.toInt = lo → K (((pc : Int) + o).toNat)) ∧ rk_cs K pc x (lo + 1) os
theorem rk_cs_at {K : Nat → Prop} {pc : Nat} {x : Int32} : ∀ {os : List Int} {lo : Int}, rk_cs K pc x lo os → ∀ (j : Nat) (o : Int), os[j]? = some o → x.toInt = lo + j → K (((pc : Int) + o).toNat)
  | [], _, _, j, o, h, _ => by simp at h
  | q :: os, lo, hc, 0, o, h, hx => by
    rw [List.getElem?_cons_zero] at h
    cases h
    exact hc.1 (by rw [hx]; simp)
  | q :: os, lo, hc, j + 1, o, h, hx => by
    rw [List.getElem?_cons_succ] at h
    exact rk_cs_at hc.2 j o h (by rw [hx]; omega)
theorem rk_tsw {x : Int32} {dflt lo hi : Int} {offs : Array Int} {len : Nat} (dt : Nat) (hd : decode M.2.1 pc = .ok (.tableswitch dflt lo hi offs, len)) (hsz : (offs.size : Int) = hi - lo + 1) (hpos : offs.toList.all (fun o => decide (0 ≤ (pc : Int) + o)) = true) (hdt : (pc : Int) + dflt = (dt : Int))
    (kin : rk_cs (fun t => rk_Wp w l M d mc ms G (t) (ls) (st) Z I R) pc x lo offs.toList) (kout : (x.toInt < lo ∨ hi < x.toInt) → rk_Wp w l M d mc ms G (dt) (ls) (st) Z I R) : rk_Wp w l M d mc ms G (pc) (ls) (rk_i x :: st) Z I R := by
  intro p e Rm s m args below meth cd H locs la C a1 a2 a3 a4 a5
  by_cases h1 : x.toInt < lo ∨ hi < x.toInt
  · exact lv_tableOut C.1 C.2.1 hd h1 hdt (kout h1 p e Rm s m args below meth cd H locs la C (rk_ot a1) a2 a3 a4 a5)
  · have h2 : ¬ x.toInt < lo := fun h => h1 (Or.inl h)
    have h3 : ¬ hi < x.toInt := fun h => h1 (Or.inr h)
    have hlt : (x.toInt - lo).toNat < offs.size := by omega
    obtain ⟨o, ho⟩ : ∃ o, offs[(x.toInt - lo).toNat]? = some o := ⟨_, Array.getElem?_eq_getElem hlt⟩
    have ho2 : offs.toList[(x.toInt - lo).toNat]? = some o := by rw [Array.getElem?_toList]; exact ho
    have hp : 0 ≤ (pc : Int) + o := of_decide_eq_true (List.all_eq_true.mp hpos o (List.mem_of_getElem? ho2))
    exact lv_tableIn C.1 C.2.1 hd h2 h3 ho (tgt := ((pc : Int) + o).toNat) (by omega) (rk_cs_at kin _ o ho2 (by omega) p e Rm s m args below meth cd H locs la C (rk_ot a1) a2 a3 a4 a5)
/-- the cases of a lookup switch -/
def rk_ck (K : Nat → Prop) (pc : Nat) (x : Int32) : List (Int × Int) → Prop
  | [] => True
  | q :: os => (x.toInt = q.1 → K (((pc : Int) + q.2).toNat)) ∧ rk_ck K pc x os
theorem rk_lsw {x : Int32} {dflt : Int} {ps : Array (Int × Int)} {len : Nat} (dt : Nat) (hd : decode M.2.1 pc = .ok (.lookupswitch dflt ps, len)) (hp : (ps.toList.zip (ps.toList.drop 1)).all (fun (a, next) => a.1 < next.1) = true) (hpos : ps.toList.all (fun o => decide (0 ≤ (pc : Int) + o.2)) = true) (hdt : (pc : Int) + dflt = (dt : Int))
    (kin : rk_ck (fun t => rk_Wp w l M d mc ms G (t) (ls) (st) Z I R) pc x ps.toList) (kout : (ps.toList.all (fun q => decide (x.toInt ≠ q.1)) = true) → rk_Wp w l M d mc ms G (dt) (ls) (st) Z I R) : rk_Wp w l M d mc ms G (pc) (ls) (rk_i x :: st) Z I R := by
  intro p e Rm s m args below meth cd H locs la C a1 a2 a3 a4 a5
  have key : ∀ qs : List (Int × Int), rk_ck (fun t => rk_Wp w l M d mc ms G (t) (ls) (st) Z I R) pc x qs → qs.all (fun o => decide (0 ≤ (pc : Int) + o.2)) = true → (qs.all (fun q => decide (x.toInt ≠ q.1)) = true → rk_Wp w l M d mc ms G (dt) (ls) (st) Z I R) → ∃ tgt : Nat, (pc : Int) + Op.lookupswitch.offset qs dflt x.toInt = (tgt : Int) ∧ rk_Wp w l M d mc ms G (tgt) (ls) (st) Z I R := by
    intro qs
    induction qs with
    | nil => intro _ _ h; exact ⟨dt, hdt, h rfl⟩
    | cons q qs ih =>
      intro h1 h2 h3
      simp only [List.all_cons, Bool.and_eq_true, decide_eq_true_eq] at h2
      by_cases hx : x.toInt = q.1
      · refine ⟨((pc : Int) + q.2).toNat, ?_, h1.1 hx⟩
        have := h2.1
        simp [Op.lookupswitch.offset, hx]
        omega
      · obtain ⟨t, g1, g2⟩ := ih h1.2 h2.2 (fun h => h3 (by simp only [List.all_cons, Bool.and_eq_true, decide_eq_true_eq]; exact ⟨hx, h⟩))
        refine ⟨t, ?_, g2⟩
        rw [← g1]
        have hx2 : ¬ q.1 = x.toInt := fun h => hx h.symm
        simp [Op.lookupswitch.offset, hx, hx2]
  obtain ⟨tgt, g1, g2⟩ := key ps.toList kin hpos kout
  exact lv_lookup C.1 C.2.1 hd hp rfl g1 (g2 p e Rm s m args below meth cd H locs la C (rk_ot a1) a2 a3 a4 a5)
end RKR
end
section
def rk_uI (I : rk_Mm) (c a f : Nat) (x : Int32) : rk_Mm := fun c' a' f' => if c' = c ∧ a' = a ∧ f' = f then x else I c' a' f'
def rk_uR (R : rk_Rm) (c a f x : Nat) : rk_Rm := fun c' a' f' => if c' = c ∧ a' = a ∧ f' = f then x else R c' a' f'
theorem rk_uI_s {I : rk_Mm} {c a f : Nat} {x : Int32} : rk_uI I c a f x c a f = x := by simp [rk_uI]
theorem rk_uI_n {I : rk_Mm} {c a f c' a' f' : Nat} {x : Int32} (h : ¬ (c' = c ∧ a' = a ∧ f' = f)) : rk_uI I c a f x c' a' f' = I c' a' f' := by simp [rk_uI, h]
theorem rk_uR_s {R : rk_Rm} {c a f x : Nat} : rk_uR R c a f x c a f = x := by simp [rk_uR]
theorem rk_uR_n {R : rk_Rm} {c a f c' a' f' x : Nat} (h : ¬ (c' = c ∧ a' = a ∧ f' = f)) : rk_uR R c a f x c' a' f' = R c' a' f' := by simp [rk_uR, h]
theorem rk_fs_get {I : Nat → Nat → Int32} {R : Nat → Nat → Nat} {a : Nat} : ∀ {fts : List Nat} {j f ft : Nat}, fts[f]? = some ft → (rk_fs I R a j fts)[f]? = some (if ft = 0 then .int (I a (j + f)) else va_rf (rk_op (R a (j + f))))
  | [], _, _, _, h => by simp at h
  | q :: t, j, 0, ft, h => by
    rw [List.getElem?_cons_zero] at h
    cases h
    simp [rk_fs]
  | q :: t, j, f + 1, ft, h => by
    rw [List.getElem?_cons_succ] at h
    simp only [rk_fs, List.getElem?_cons_succ]
    rw [rk_fs_get h]
    simp [Nat.add_assoc, Nat.add_comm 1 f]
theorem rk_fs_len {I : Nat → Nat → Int32} {R : Nat → Nat → Nat} {a : Nat} : ∀ {fts : List Nat} {j : Nat}, (rk_fs I R a j fts).length = fts.length
  | [], _ => rfl
  | q :: t, j => by simp only [rk_fs, List.length_cons]; rw [rk_fs_len]
theorem rk_fs_congr {I I' : Nat → Nat → Int32} {R R' : Nat → Nat → Nat} {a : Nat} : ∀ {fts : List Nat} {j : Nat}, (∀ i : Nat, j ≤ i → I' a i = I a i) → (∀ i : Nat, j ≤ i → R' a i = R a i) → rk_fs I' R' a j fts = rk_fs I R a j fts
  | [], _, _, _ => rfl
  | q :: t, j, h1, h2 => by
    simp only [rk_fs]
    rw [h1 j (Nat.le_refl j), h2 j (Nat.le_refl j), rk_fs_congr (fun i hi => h1 i (by omega)) (fun i hi => h2 i (by omega))]
theorem rk_fs_set {I I' : Nat → Nat → Int32} {R R' : Nat → Nat → Nat} {a : Nat} {v : Value} : ∀ {fts : List Nat} {j f ft : Nat}, fts[f]? = some ft → (∀ i : Nat, i ≠ j + f → I' a i = I a i) → (∀ i : Nat, i ≠ j + f → R' a i = R a i) → v = (if ft = 0 then .int (I' a (j + f)) else va_rf (rk_op (R' a (j + f)))) → (rk_fs I R a j fts).set f v = rk_fs I' R' a j fts
  | [], _, _, _, h, _, _, _ => by simp at h
  | q :: t, j, 0, ft, h, h1, h2, hv => by
    rw [List.getElem?_cons_zero] at h
    cases h
    simp only [rk_fs, List.set_cons_zero]
    rw [hv, Nat.add_zero, rk_fs_congr (I := I) (I' := I') (R := R) (R' := R') (fun i hi => h1 i (by omega)) (fun i hi => h2 i (by omega))]
  | q :: t, j, f + 1, ft, h, h1, h2, hv => by
    rw [List.getElem?_cons_succ] at h
    simp only [rk_fs, List.set_cons_succ]
    rw [h1 j (by omega), h2 j (by omega), rk_fs_set (I' := I') (R' := R') h (fun i hi => h1 i (by omega)) (fun i hi => h2 i (by omega)) (by rw [hv, show j + (f + 1) = j + 1 + f by omega])]
theorem rk_ent_congr {w : rk_W} {I I' : rk_Mm} {R R' : rk_Rm} {k a : Nat} (h1 : ∀ j : Nat, I' (k % 50) a j = I (k % 50) a j) (h2 : ∀ j : Nat, R' (k % 50) a j = R (k % 50) a j) : rk_ent w I' R' k a = rk_ent w I R k a := by
  unfold rk_ent
  cases rk_kd k with
  | inl q => dsimp only; rw [rk_fs_congr (fun i _ => h1 i) (fun i _ => h2 i)]
  | inr y =>
    dsimp only
    have e1 : I' (k % 50) a = I (k % 50) a := funext h1
    have e2 : R' (k % 50) a = R (k % 50) a := funext h2
    rw [e1, e2]
theorem rk_at {w : rk_W} {Sh : rk_Sh} {I : rk_Mm} {R : rk_Rm} {H : Heap} (h : rk_HR w Sh I R H) {a k : Nat} (hk : Sh.2 a = k) (h0 : k ≠ 0) : a ∈ Sh.1 ∧ ∃ q0 : Nat, ([] ++ va_pl Sh.1 (rk_F w Sh.2 I R))[q0]? = some (a, rk_F w Sh.2 I R a) := by
  have ha : a ∈ Sh.1 := (h.2.2.2.1 a).mpr (by rw [hk]; exact h0)
  exact ⟨ha, va_pl_get ha⟩
theorem rk_HRset {w : rk_W} {Sh : rk_Sh} {I I' : rk_Mm} {R R' : rk_Rm} {H H1 : Heap} (h : rk_HR w Sh I R H) {a q0 : Nat} {e : va_E} (ha : a ∈ Sh.1) (hq : ([] ++ va_pl Sh.1 (rk_F w Sh.2 I R))[q0]? = some (a, rk_F w Sh.2 I R a))
    (he : e = rk_ent w I' R' (Sh.2 a) a) (h1 : ∀ c b j : Nat, b ≠ a → I' c b j = I c b j) (h2 : ∀ c b j : Nat, b ≠ a → R' c b j = R c b j) (hW : rk_WT Sh.2 R')
    (hP : va_P w.1 vwCl (([] ++ va_pl Sh.1 (rk_F w Sh.2 I R)).set q0 (a, e)) H1) (hD : va_D (rk_A w) (([] ++ va_pl Sh.1 (rk_F w Sh.2 I R)).set q0 (a, e))) : rk_HR w Sh I' R' H1 := by
  have e1 : ([] ++ va_pl Sh.1 (rk_F w Sh.2 I R)).set q0 (a, e) = [] ++ va_pl Sh.1 (rk_F w Sh.2 I' R') := by
    rw [va_pl_set h.2.1 ha hq]
    refine congrArg (fun l => [] ++ l) (va_pl_congr fun b => ?_)
    by_cases hb : b = a
    · subst hb
      rw [he]
      simp [va_up]
    · rw [va_up_ne _ _ hb]
      exact (rk_ent_congr (fun j => h1 _ b j hb) (fun j => h2 _ b j hb)).symm
  rw [e1] at hP hD
  exact ⟨hP, hD, h.2.2.1, h.2.2.2.1, hW⟩
theorem rk_inl {w : rk_W} {I : rk_Mm} {R : rk_Rm} {k c ci a : Nat} {fts : List Nat} (h : rk_kd k = .inl (ci, fts)) (hc : k % 50 = c) : rk_ent w I R k a = .inr (ci, rk_fs (I c) (R c) a 0 fts) := by
  subst hc; simp [rk_ent, h]
theorem rk_inr {w : rk_W} {I : rk_Mm} {R : rk_Rm} {k c n t a : Nat} (h : rk_kd k = .inr (t, n, 0)) (hc : k % 50 = c) : rk_ent w I R k a = .inl (w.2.1 t, n, .inl (I c a)) := by
  subst hc; simp [rk_ent, h]
theorem rk_inq {w : rk_W} {I : rk_Mm} {R : rk_Rm} {k c n t ek a : Nat} (h : rk_kd k = .inr (t, n, ek)) (h0 : ek ≠ 0) (hc : k % 50 = c) : rk_ent w I R k a = .inl (w.2.1 t, n, .inr (.inr (.inr (.inr (fun j => rk_op (R c a j)))))) := by
  subst hc; simp [rk_ent, h, h0]
theorem rk_kok {w : rk_W} {kd : Nat → Nat} {k a : Nat} (h : rk_ok w kd (rk_a k a)) (hk : k < 100) : kd a = k ∧ k ≠ 0 := by
  rcases h with h | h | h
  · exact ⟨h.2.1, h.2.2⟩
  · exact absurd h.1 (by show ¬ 100 ≤ k; omega)
  · exact absurd h.1 (by show ¬ 110 ≤ k; omega)
theorem rk_kin {w : rk_W} {kd : Nat → Nat} {k a : Nat} (hk : k < 100) (h0 : k ≠ 0) (h : kd a = k) : rk_ok w kd (rk_a k a) := Or.inl ⟨hk, h, h0⟩

section RKR
variable {w : rk_W} {l : Launch} {M : rk_M} {d mc ms : Nat} {G : List Frame → Array Value → State → State → Prop} {pc : Nat} {ls : List (Nat × rk_V)} {st : List rk_V} {Z : rk_Z} {I : rk_Mm} {R : rk_Rm}
theorem rk_getI (k c ci f : Nat) {C : String} {T : u_T} {N idx : Nat} {fts : List Nat} (hk : k < 100) (hkd : rk_kd k = .inl (ci, fts)) (hc : k % 50 = c) (hq : vwCl[ci]? = some (C, T, N)) (hf : f < N) (hf0 : fts[f]? = some 0) (hin : ∀ q ∈ u_ws C T N, q ∈ rk_tbl) (hT : (T f).1 = C) (hlink : Cond.fieldLink M.1.cls idx C (T f).2.1 (T f).2.2.1 ∈ rk_tbl) {a : Nat} (hd : decode M.2.1 pc = .ok (.getfield idx, 3)) (kk : rk_Wp w l M d mc ms G (pc + 3) (ls) (rk_i (I c a f) :: st) Z I R) : rk_Wp w l M d mc ms G (pc) (ls) (rk_a k a :: st) Z I R := by
  intro p e Rm s m args below meth cd H locs la C a1 a2 a3 a4 a5
  have hok := rk_kok (rk_oh a1) hk
  obtain ⟨ha, q0, hq0⟩ := rk_at a3 hok.1 hok.2
  have e1 : rk_F w Z.1.2 I R a = .inr (ci, rk_fs (I c) (R c) a 0 fts) := by show rk_ent w I R (Z.1.2 a) a = _; rw [hok.1]; exact rk_inl hkd hc
  rw [e1] at hq0
  exact va_get C.1 C.2.1 C.2.2.2.2.2.1 hin C.2.2.2.2.1 C.2.2.2.2.2.2.2.2.1.1 a3.1 q0 hq0 hq f hf (C.2.2.2.2.2.1 _ hlink) (fun x h => by rw [hT] at h; exact h) (v := .int (I c a f)) (by rw [rk_fs_get hf0]; simp) hd (kk p e Rm s m args below meth cd H locs la C (rk_oc trivial (rk_ot a1)) a2 a3 a4 a5)
theorem rk_getR (k c ci f ek : Nat) {C : String} {T : u_T} {N idx : Nat} {fts : List Nat} (hk : k < 50) (hkd : rk_kd k = .inl (ci, fts)) (hc : k % 50 = c) (hq : vwCl[ci]? = some (C, T, N)) (hf : f < N) (hf0 : fts[f]? = some ek) (hek : ek ≠ 0 ∧ ek < 50) (hin : ∀ q ∈ u_ws C T N, q ∈ rk_tbl) (hT : (T f).1 = C) (hlink : Cond.fieldLink M.1.cls idx C (T f).2.1 (T f).2.2.1 ∈ rk_tbl) {a : Nat} (hd : decode M.2.1 pc = .ok (.getfield idx, 3)) (kk : rk_Wp w l M d mc ms G (pc + 3) (ls) (rk_a ek (R c a f) :: st) Z I R) : rk_Wp w l M d mc ms G (pc) (ls) (rk_a k a :: st) Z I R := by
  intro p e Rm s m args below meth cd H locs la C a1 a2 a3 a4 a5
  have hok := rk_kok (rk_oh a1) (by omega)
  obtain ⟨ha, q0, hq0⟩ := rk_at a3 hok.1 hok.2
  have e1 : rk_F w Z.1.2 I R a = .inr (ci, rk_fs (I c) (R c) a 0 fts) := by show rk_ent w I R (Z.1.2 a) a = _; rw [hok.1]; exact rk_inl hkd hc
  rw [e1] at hq0
  have hcc : c = k := by omega
  have hrk : rk_rk (Z.1.2 a) f = ek := by rw [hok.1]; simp [rk_rk, hkd, hf0]
  have hw := a3.2.2.2.2 a f (by rw [hok.1]; exact hk) (by rw [hrk]; exact hek.1)
  rw [hrk, hok.1, ← hcc] at hw
  have hn0 : R c a f ≠ 0 := fun h => by rw [h, a3.2.2.1] at hw; exact hek.1 hw.symm
  exact va_get C.1 C.2.1 C.2.2.2.2.2.1 hin C.2.2.2.2.1 C.2.2.2.2.2.2.2.2.1.1 a3.1 q0 hq0 hq f hf (C.2.2.2.2.2.1 _ hlink) (fun x h => by rw [hT] at h; exact h) (v := .ref (R c a f)) (by rw [rk_fs_get hf0]; simp [hek.1, rk_op, hn0, va_rf]) hd (kk p e Rm s m args below meth cd H locs la C (rk_oc (rk_kin (by omega) hek.1 hw) (rk_ot a1)) a2 a3 a4 a5)
theorem rk_putI (k c ci f : Nat) {C : String} {T : u_T} {N idx : Nat} {fts : List Nat} {x : Int32} {ty : FieldType} (ty0 : Nat → FieldType) (hk : k < 100) (hkd : rk_kd k = .inl (ci, fts)) (hc : k % 50 = c) (hq : vwCl[ci]? = some (C, T, N)) (hf : f < N) (hf0 : fts[f]? = some 0) (hin : ∀ q ∈ u_ws C T N, q ∈ rk_tbl) (hty : ∀ k, k < N → parseFieldDescriptor (T k).2.2.1 = some (ty0 k)) (hnm : ∀ a, a < N → ∀ b, b < N → a ≠ b → (T a).2.1 ≠ (T b).2.1) (hT : (T f).1 = C) (hfin : (T f).2.2.2 = false) (hpd : parseFieldDescriptor (T f).2.2.1 = some ty) (hn : narrow ty (.int x) = .int x) (hfit : fits ty (.int x) = true) (hlink : Cond.fieldLink M.1.cls idx C (T f).2.1 (T f).2.2.1 ∈ rk_tbl) {a : Nat} (hd : decode M.2.1 pc = .ok (.putfield idx, 3)) (kk : ∀ I', I' = rk_uI I c a f x → rk_Wp w l M d mc ms G (pc + 3) (ls) (st) Z I' R) : rk_Wp w l M d mc ms G (pc) (ls) (rk_i x :: rk_a k a :: st) Z I R := by
  intro p e Rm s m args below meth cd H locs la C a1 a2 a3 a4 a5
  have hok := rk_kok (rk_oh (rk_ot a1)) hk
  obtain ⟨ha, q0, hq0⟩ := rk_at a3 hok.1 hok.2
  have e1 : rk_F w Z.1.2 I R a = .inr (ci, rk_fs (I c) (R c) a 0 fts) := by show rk_ent w I R (Z.1.2 a) a = _; rw [hok.1]; exact rk_inl hkd hc
  have hq1 := hq0
  rw [e1] at hq1
  refine va_put C.1 C.2.1 C.2.2.2.2.2.1 hin ty0 hty hnm C.2.2.2.2.1 C.2.2.2.2.2.2.2.2.1.1 a3.1 a3.2.1 a4 q0 hq1 hq f hf (C.2.2.2.2.2.1 _ hlink) (fun x h => by rw [hT] at h; exact h) hfin (v := .int x) hpd hn hfit (by rw [rk_fs_len]; exact (List.getElem?_eq_some_iff.mp hf0).1) hd (fun H1 locs1 hP1 hD1 hS1 => ?_)
  refine kk _ rfl p e Rm s m args below meth cd H1 locs1 la C (rk_ot (rk_ot a1)) a2 (rk_HRset a3 ha hq0 ?_ (fun c' b j hb => rk_uI_n (fun h => hb h.2.1)) (fun _ _ _ _ => rfl) a3.2.2.2.2 hP1 hD1) hS1 a5
  rw [hok.1, rk_inl hkd hc]
  refine congrArg (fun z => Sum.inr (ci, z)) (rk_fs_set hf0 (fun i hi => rk_uI_n (fun h => hi (by omega))) (fun _ _ => rfl) ?_)
  simp [rk_uI]
theorem rk_iald (k c n : Nat) (hk : k < 100) (hkd : rk_kd k = .inr (0, n, 0)) (hc : k % 50 = c) {a : Nat} {i : Int32} (hd : decode M.2.1 pc = .ok (.iaload, 1)) (hi : vp_in i n) (kk : rk_Wp w l M d mc ms G (pc + 1) (ls) (rk_i (I c a i.toNatClampNeg) :: st) Z I R) : rk_Wp w l M d mc ms G (pc) (ls) (rk_i i :: rk_a k a :: st) Z I R := by
  intro p e Rm s m args below meth cd H locs la C a1 a2 a3 a4 a5
  have hok := rk_kok (rk_oh (rk_ot a1)) hk
  obtain ⟨ha, q0, hq0⟩ := rk_at a3 hok.1 hok.2
  have e1 : rk_F w Z.1.2 I R a = .inl (w.2.1 0, n, .inl (I c a)) := by show rk_ent w I R (Z.1.2 a) a = _; rw [hok.1]; exact rk_inr hkd hc
  rw [e1] at hq0
  exact va_iald C.1 C.2.1 C.2.2.2.2.2.2.2.2.1.1 a3.1 q0 0 hq0 rfl hi hd (kk p e Rm s m args below meth cd H locs la C (rk_oc trivial (rk_ot (rk_ot a1))) a2 a3 a4 a5)
theorem rk_zald (k c n : Nat) (hk : k < 100) (hkd : rk_kd k = .inr (2, n, 0)) (hc : k % 50 = c) {a : Nat} {i : Int32} (hd : decode M.2.1 pc = .ok (.baload, 1)) (hi : vp_in i n) (kk : rk_Wp w l M d mc ms G (pc + 1) (ls) (rk_i (I c a i.toNatClampNeg) :: st) Z I R) : rk_Wp w l M d mc ms G (pc) (ls) (rk_i i :: rk_a k a :: st) Z I R := by
  intro p e Rm s m args below meth cd H locs la C a1 a2 a3 a4 a5
  have hok := rk_kok (rk_oh (rk_ot a1)) hk
  obtain ⟨ha, q0, hq0⟩ := rk_at a3 hok.1 hok.2
  have e1 : rk_F w Z.1.2 I R a = .inl (w.2.1 2, n, .inl (I c a)) := by show rk_ent w I R (Z.1.2 a) a = _; rw [hok.1]; exact rk_inr hkd hc
  rw [e1] at hq0
  exact va_zald C.1 C.2.1 C.2.2.2.2.2.2.2.2.1.1 a3.1 q0 2 hq0 rfl hi hd (kk p e Rm s m args below meth cd H locs la C (rk_oc trivial (rk_ot (rk_ot a1))) a2 a3 a4 a5)
theorem rk_cald (k c n : Nat) (hk : k < 100) (hkd : rk_kd k = .inr (1, n, 0)) (hc : k % 50 = c) {a : Nat} {i : Int32} (hd : decode M.2.1 pc = .ok (.caload, 1)) (hi : vp_in i n) (kk : rk_Wp w l M d mc ms G (pc + 1) (ls) (rk_i (I c a i.toNatClampNeg) :: st) Z I R) : rk_Wp w l M d mc ms G (pc) (ls) (rk_i i :: rk_a k a :: st) Z I R := by
  intro p e Rm s m args below meth cd H locs la C a1 a2 a3 a4 a5
  have hok := rk_kok (rk_oh (rk_ot a1)) hk
  obtain ⟨ha, q0, hq0⟩ := rk_at a3 hok.1 hok.2
  have e1 : rk_F w Z.1.2 I R a = .inl (w.2.1 1, n, .inl (I c a)) := by show rk_ent w I R (Z.1.2 a) a = _; rw [hok.1]; exact rk_inr hkd hc
  rw [e1] at hq0
  exact va_cald C.1 C.2.1 C.2.2.2.2.2.2.2.2.1.1 a3.1 q0 1 hq0 rfl hi hd (kk p e Rm s m args below meth cd H locs la C (rk_oc trivial (rk_ot (rk_ot a1))) a2 a3 a4 a5)
theorem rk_iast (k c n : Nat) (hk : k < 100) (hkd : rk_kd k = .inr (0, n, 0)) (hc : k % 50 = c) {a : Nat} {i x : Int32} (hd : decode M.2.1 pc = .ok (.iastore, 1)) (hi : vp_in i n) (kk : ∀ I', I' = rk_uI I c a i.toNatClampNeg (x) → rk_Wp w l M d mc ms G (pc + 1) (ls) (st) Z I' R) : rk_Wp w l M d mc ms G (pc) (ls) (rk_i x :: rk_i i :: rk_a k a :: st) Z I R := by
  intro p e Rm s m args below meth cd H locs la C a1 a2 a3 a4 a5
  have hok := rk_kok (rk_oh (rk_ot (rk_ot a1))) hk
  obtain ⟨ha, q0, hq0⟩ := rk_at a3 hok.1 hok.2
  have e1 : rk_F w Z.1.2 I R a = .inl (w.2.1 0, n, .inl (I c a)) := by show rk_ent w I R (Z.1.2 a) a = _; rw [hok.1]; exact rk_inr hkd hc
  have hq1 := hq0
  rw [e1] at hq1
  refine va_iast C.1 C.2.1 C.2.2.2.2.2.2.2.2.1.1 a3.1 a3.2.1 a4 q0 0 hq1 rfl hi hd (fun H1 locs1 hP1 hD1 hS1 => ?_)
  refine kk _ rfl p e Rm s m args below meth cd H1 locs1 la C (rk_ot (rk_ot (rk_ot a1))) a2 (rk_HRset a3 ha hq0 ?_ (fun c' b j hb => rk_uI_n (fun h => hb h.2.1)) (fun _ _ _ _ => rfl) a3.2.2.2.2 hP1 hD1) hS1 a5
  rw [hok.1, rk_inr hkd hc]
  refine congrArg (fun z => Sum.inl (w.2.1 0, n, Sum.inl z)) (funext fun j => ?_)
  by_cases hj : j = i.toNatClampNeg
  · subst hj
    simp [rk_uI, upd]
  · simp [rk_uI, upd, hj]
theorem rk_zast (k c n : Nat) (hk : k < 100) (hkd : rk_kd k = .inr (2, n, 0)) (hc : k % 50 = c) {a : Nat} {i x : Int32} (hd : decode M.2.1 pc = .ok (.bastore, 1)) (hi : vp_in i n) (kk : ∀ I', I' = rk_uI I c a i.toNatClampNeg (vp_nar .boolean x) → rk_Wp w l M d mc ms G (pc + 1) (ls) (st) Z I' R) : rk_Wp w l M d mc ms G (pc) (ls) (rk_i x :: rk_i i :: rk_a k a :: st) Z I R := by
  intro p e Rm s m args below meth cd H locs la C a1 a2 a3 a4 a5
  have hok := rk_kok (rk_oh (rk_ot (rk_ot a1))) hk
  obtain ⟨ha, q0, hq0⟩ := rk_at a3 hok.1 hok.2
  have e1 : rk_F w Z.1.2 I R a = .inl (w.2.1 2, n, .inl (I c a)) := by show rk_ent w I R (Z.1.2 a) a = _; rw [hok.1]; exact rk_inr hkd hc
  have hq1 := hq0
  rw [e1] at hq1
  refine va_zast C.1 C.2.1 C.2.2.2.2.2.2.2.2.1.1 a3.1 a3.2.1 a4 q0 2 hq1 rfl hi hd (fun H1 locs1 hP1 hD1 hS1 => ?_)
  refine kk _ rfl p e Rm s m args below meth cd H1 locs1 la C (rk_ot (rk_ot (rk_ot a1))) a2 (rk_HRset a3 ha hq0 ?_ (fun c' b j hb => rk_uI_n (fun h => hb h.2.1)) (fun _ _ _ _ => rfl) a3.2.2.2.2 hP1 hD1) hS1 a5
  rw [hok.1, rk_inr hkd hc]
  refine congrArg (fun z => Sum.inl (w.2.1 2, n, Sum.inl z)) (funext fun j => ?_)
  by_cases hj : j = i.toNatClampNeg
  · subst hj
    simp [rk_uI, upd]
  · simp [rk_uI, upd, hj]
theorem rk_cast (k c n : Nat) (hk : k < 100) (hkd : rk_kd k = .inr (1, n, 0)) (hc : k % 50 = c) {a : Nat} {i x : Int32} (hd : decode M.2.1 pc = .ok (.castore, 1)) (hi : vp_in i n) (kk : ∀ I', I' = rk_uI I c a i.toNatClampNeg (vp_nar .char x) → rk_Wp w l M d mc ms G (pc + 1) (ls) (st) Z I' R) : rk_Wp w l M d mc ms G (pc) (ls) (rk_i x :: rk_i i :: rk_a k a :: st) Z I R := by
  intro p e Rm s m args below meth cd H locs la C a1 a2 a3 a4 a5
  have hok := rk_kok (rk_oh (rk_ot (rk_ot a1))) hk
  obtain ⟨ha, q0, hq0⟩ := rk_at a3 hok.1 hok.2
  have e1 : rk_F w Z.1.2 I R a = .inl (w.2.1 1, n, .inl (I c a)) := by show rk_ent w I R (Z.1.2 a) a = _; rw [hok.1]; exact rk_inr hkd hc
  have hq1 := hq0
  rw [e1] at hq1
  refine va_cast C.1 C.2.1 C.2.2.2.2.2.2.2.2.1.1 a3.1 a3.2.1 a4 q0 1 hq1 rfl hi hd (fun H1 locs1 hP1 hD1 hS1 => ?_)
  refine kk _ rfl p e Rm s m args below meth cd H1 locs1 la C (rk_ot (rk_ot (rk_ot a1))) a2 (rk_HRset a3 ha hq0 ?_ (fun c' b j hb => rk_uI_n (fun h => hb h.2.1)) (fun _ _ _ _ => rfl) a3.2.2.2.2 hP1 hD1) hS1 a5
  rw [hok.1, rk_inr hkd hc]
  refine congrArg (fun z => Sum.inl (w.2.1 1, n, Sum.inl z)) (funext fun j => ?_)
  by_cases hj : j = i.toNatClampNeg
  · subst hj
    simp [rk_uI, upd]
  · simp [rk_uI, upd, hj]
theorem rk_aald (k c n ek t : Nat) {Cn : String} (hk : k < 50) (hkd : rk_kd k = .inr (t, n, ek)) (hc : k % 50 = c) (hek : ek ≠ 0 ∧ ek < 50) (ht : ∀ w, (rk_tys w)[t]? = some (w.2.1 t, .object Cn)) {a : Nat} {i : Int32} (hd : decode M.2.1 pc = .ok (.aaload, 1)) (hi : vp_in i n) (kk : rk_Wp w l M d mc ms G (pc + 1) (ls) (rk_a ek (R c a i.toNatClampNeg) :: st) Z I R) : rk_Wp w l M d mc ms G (pc) (ls) (rk_i i :: rk_a k a :: st) Z I R := by
  intro p e Rm s m args below meth cd H locs la C a1 a2 a3 a4 a5
  have hok := rk_kok (rk_oh (rk_ot a1)) (by omega)
  obtain ⟨ha, q0, hq0⟩ := rk_at a3 hok.1 hok.2
  have e1 : rk_F w Z.1.2 I R a = .inl (w.2.1 t, n, .inr (.inr (.inr (.inr (fun j => rk_op (R c a j)))))) := by show rk_ent w I R (Z.1.2 a) a = _; rw [hok.1]; exact rk_inq hkd hek.1 hc
  rw [e1] at hq0
  have hcc : c = k := by omega
  have hlt : i.toNatClampNeg < n := Nat.not_le.mp fun q => hi (Or.inr q)
  have hrk : rk_rk (Z.1.2 a) i.toNatClampNeg = ek := by rw [hok.1]; simp [rk_rk, hkd, hlt]
  have hw := a3.2.2.2.2 a i.toNatClampNeg (by rw [hok.1]; exact hk) (by rw [hrk]; exact hek.1)
  rw [hrk, hok.1, ← hcc] at hw
  have hn0 : R c a i.toNatClampNeg ≠ 0 := fun h => by rw [h, a3.2.2.1] at hw; exact hek.1 hw.symm
  refine va_aldq C.1 C.2.1 C.2.2.2.2.2.2.2.2.1.1 a3.1 q0 t hq0 (ht w) hi hd ?_
  rw [show va_rf (rk_op (R c a i.toNatClampNeg)) = Value.ref (R c a i.toNatClampNeg) by simp [rk_op, hn0, va_rf]]
  exact kk p e Rm s m args below meth cd H locs la C (rk_oc (rk_kin (by omega) hek.1 hw) (rk_ot (rk_ot a1))) a2 a3 a4 a5
theorem rk_aast (k c n ek t ci : Nat) {r : vw_C} {fts : List Nat} (hk : k < 100) (hkd : rk_kd k = .inr (t, n, ek)) (hc : k % 50 = c) (hek : ek ≠ 0 ∧ ek < 50) (ht : ∀ w, (rk_tys w)[t]? = some (w.2.1 t, .object r.1)) (hcl : vwCl[ci]? = some r) (hke : rk_kd ek = .inl (ci, fts)) {a v : Nat} {i : Int32} (hd : decode M.2.1 pc = .ok (.aastore, 1)) (hi : vp_in i n) (kk : ∀ R', R' = rk_uR R c a i.toNatClampNeg v → rk_Wp w l M d mc ms G (pc + 1) (ls) (st) Z I R') : rk_Wp w l M d mc ms G (pc) (ls) (rk_a ek v :: rk_i i :: rk_a k a :: st) Z I R := by
  intro p e Rm s m args below meth cd H locs la C a1 a2 a3 a4 a5
  have hok := rk_kok (rk_oh (rk_ot (rk_ot a1))) hk
  have hov := rk_kok (rk_oh a1) (by omega)
  obtain ⟨ha, q0, hq0⟩ := rk_at a3 hok.1 hok.2
  obtain ⟨hav, q1, hqv⟩ := rk_at a3 hov.1 hov.2
  have e1 : rk_F w Z.1.2 I R a = .inl (w.2.1 t, n, .inr (.inr (.inr (.inr (fun j => rk_op (R c a j)))))) := by show rk_ent w I R (Z.1.2 a) a = _; rw [hok.1]; exact rk_inq hkd hek.1 hc
  have e2 : rk_F w Z.1.2 I R v = .inr (ci, rk_fs (I (ek % 50)) (R (ek % 50)) v 0 fts) := by show rk_ent w I R (Z.1.2 v) v = _; rw [hov.1]; exact rk_inl hke rfl
  have hq1 := hq0
  rw [e1] at hq1
  rw [e2] at hqv
  have hn0 : v ≠ 0 := fun h => by have := hov.1; rw [h, a3.2.2.1] at this; exact hek.1 this.symm
  refine va_astq C.1 C.2.1 C.2.2.2.2.2.2.2.2.1.1 a3.1 a3.2.1 a4 q0 t q1 ci hq1 (ht w) hqv hcl hi hd (fun H1 locs1 hP1 hD1 hS1 => ?_)
  refine kk _ rfl p e Rm s m args below meth cd H1 locs1 la C (rk_ot (rk_ot (rk_ot a1))) a2 (rk_HRset a3 ha hq0 ?_ (fun _ _ _ _ => rfl) (fun c' b j hb => rk_uR_n (fun h => hb h.2.1)) ?_ hP1 hD1) hS1 a5
  · rw [hok.1, rk_inq hkd hek.1 hc]
    refine congrArg (fun z => Sum.inl (w.2.1 t, n, Sum.inr (Sum.inr (Sum.inr (Sum.inr z))))) (funext fun j => ?_)
    by_cases hj : j = i.toNatClampNeg
    · subst hj
      simp [rk_uR, va_up, rk_op, hn0]
    · simp [rk_uR, va_up, hj]
  · intro b f hb hr
    have hold := a3.2.2.2.2 b f hb hr
    by_cases hcase : (Z.1.2 b) = c ∧ b = a ∧ f = i.toNatClampNeg
    · obtain ⟨g1, g2, g3⟩ := hcase
      subst g2; subst g3
      rw [g1, rk_uR_s]
      have hlt : i.toNatClampNeg < n := Nat.not_le.mp fun q => hi (Or.inr q)
      have hkk : k = c := by rw [← g1]; exact hok.1.symm
      rw [hov.1]
      show ek = rk_rk c i.toNatClampNeg
      rw [← hkk]
      simp [rk_rk, hkd, hlt]
    · rw [rk_uR_n hcase]
      exact hold
theorem rk_fald (k : Nat) (j : Nat) (hj : j < 6) (hkj : k = 100 + j) {a : Nat} {i : Int32} (hd : decode M.2.1 pc = .ok (.iaload, 1)) (hi : vp_in i (rk_fz w j).2.1) (kk : rk_Wp w l M d mc ms G (pc + 1) (ls) (rk_i ((rk_fz w j).2.2 i.toNatClampNeg) :: st) Z I R) : rk_Wp w l M d mc ms G (pc) (ls) (rk_i i :: rk_a k a :: st) Z I R := by
  intro p e Rm s m args below meth cd H locs la C a1 a2 a3 a4 a5
  have hok := rk_oh (rk_ot a1)
  have ha : a = (rk_fz w j).1 := by
    rcases hok with h | h | h
    · exact absurd h.1 (by show ¬ k < 100; omega)
    · have := h.2.2
      rw [show (k, a).1 - 100 = j by show k - 100 = j; omega] at this
      exact this
    · exact absurd h.1 (by show ¬ 110 ≤ k; omega)
  subst ha
  have hKN := C.2.2.2.2.2.2.2.2.1
  have hX := hKN.2.1 j hj
  exact va_sld C.1 C.2.1 hX.1 (Nat.lt_of_lt_of_le hX.2 hKN.2.2.2.2.2.2.2.2) (Nat.not_le.mpr hX.2) a4 hi hd (kk p e Rm s m args below meth cd H locs la C (rk_oc trivial (rk_ot (rk_ot a1))) a2 a3 a4 a5)
theorem rk_falen (k : Nat) (j : Nat) (hj : j < 6) (hkj : k = 100 + j) {a : Nat} (hd : decode M.2.1 pc = .ok (.arraylength, 1)) (kk : rk_Wp w l M d mc ms G (pc + 1) (ls) (rk_i (Int32.ofNat (rk_fz w j).2.1) :: st) Z I R) : rk_Wp w l M d mc ms G (pc) (ls) (rk_a k a :: st) Z I R := by
  intro p e Rm s m args below meth cd H locs la C a1 a2 a3 a4 a5
  have hok := rk_oh a1
  have ha : a = (rk_fz w j).1 := by
    rcases hok with h | h | h
    · exact absurd h.1 (by show ¬ k < 100; omega)
    · have := h.2.2
      rw [show (k, a).1 - 100 = j by show k - 100 = j; omega] at this
      exact this
    · exact absurd h.1 (by show ¬ 110 ≤ k; omega)
  subst ha
  have hKN := C.2.2.2.2.2.2.2.2.1
  have hX := hKN.2.1 j hj
  exact va_slen C.1 C.2.1 hX.1 (Nat.lt_of_lt_of_le hX.2 hKN.2.2.2.2.2.2.2.2) (Nat.not_le.mpr hX.2) a4 hd (kk p e Rm s m args below meth cd H locs la C (rk_oc trivial (rk_ot a1)) a2 a3 a4 a5)
theorem rk_gets (j : Nat) (hj : j < 5) {idx : Nat} (hlink : Cond.fieldLink M.1.cls idx "RopeWalk" (rk_snm.getD j "") "[I" ∈ rk_tbl) (hd : decode M.2.1 pc = .ok (.getstatic idx, 3)) (kk : rk_Wp w l M d mc ms G (pc + 3) (ls) (rk_a (100 + j) (rk_fz w j).1 :: st) Z I R) : rk_Wp w l M d mc ms G (pc) (ls) (st) Z I R := by
  intro p e Rm s m args below meth cd H locs la C a1 a2 a3 a4 a5
  have hKN := C.2.2.2.2.2.2.2.2.1
  exact va_gets C.1 C.2.1 (hKN.2.2.1 j hj) a4 C.2.2.2.2.1 (C.2.2.2.2.2.1 _ hlink) (fun _ h => h) hd (kk p e Rm s m args below meth cd H locs la C (rk_oc (Or.inr (Or.inl ⟨by show 100 ≤ 100 + j; omega, by show 100 + j < 106; omega, by show (rk_fz w j).1 = (rk_fz w (100 + j - 100)).1; rw [Nat.add_sub_cancel_left]⟩)) a1) a2 a3 a4 a5)
end RKR
end
section
def rk_Qc (w : rk_W) (Q : Option rk_V → rk_S → Prop) : Array Value → State → Outcome → State → Prop := fun _ st oc t => (∃ (r : Option rk_V) (u : rk_S), oc = .returned (r.map (rk_v w)) ∧ Q r u ∧ (∀ v, r = some v → rk_ok w u.1.2 v) ∧ rk_HR w u.1 u.2.1 u.2.2 t.heap) ∧ va_F (rk_A w) st t
def rk_G (w : rk_W) (Q : Option rk_V → rk_S → Prop) (mc ms : Nat) : List Frame → Array Value → State → State → Prop := fun below args s => MQ below (rk_Qc w Q) args s mc ms (rk_A w)
abbrev rk_Pc (w : rk_W) (as : List rk_V) (S : rk_S) : Array Value → State → Prop := va_Pc (as.map (rk_v w)) (fun U => rk_KN w U ∧ rk_HR w S.1 S.2.1 S.2.2 U.heap)
/-- a method's contract at these arguments and this heap -/
def rk_C (w : rk_W) (l : Launch) (M : rk_M) (d mc ms : Nat) (as : List rk_V) (S : rk_S) (Q : Option rk_V → rk_S → Prop) : Prop := rk_oks w S.1.2 as → Met l M.1 (rk_ws M) (rk_rm d mc ms) (rk_Pc w as S) (rk_Qc w Q) mc ms (rk_A w)
def rk_args : Nat → List rk_V → List (Nat × rk_V)
  | _, [] => []
  | i, v :: vs => (i, v) :: rk_args (bif rk_is2 v then i + 2 else i + 1) vs
def rk_wid : List rk_V → Nat
  | [] => 0
  | v :: vs => (bif rk_is2 v then 2 else 1) + rk_wid vs
theorem rk_cat2 (w : rk_W) (v : rk_V) : ((rk_v w v).category = 2) = (rk_is2 v = true) := by
  rcases v with x | x | x | x <;> simp [rk_v, Value.category, rk_is2]
theorem rk_args_map (w : rk_W) : ∀ (as : List rk_V) (i : Nat), lv_args i (as.map (rk_v w)) = rk_ms w (rk_args i as)
  | [], _ => rfl
  | v :: vs, i => by
    simp only [List.map_cons, lv_args, rk_args, rk_ms, rk_cat2]
    cases h : rk_is2 v with
    | true => simp only [if_true, cond_true]; exact congrArg _ (rk_args_map w vs _)
    | false => simp only [Bool.false_eq_true, if_false, cond_false]; exact congrArg _ (rk_args_map w vs _)
theorem rk_wid_eq (w : rk_W) : ∀ (as : List rk_V), (lg_sl (as.map (rk_v w))).length = rk_wid as
  | [] => rfl
  | v :: vs => by
    have ih := rk_wid_eq w vs
    simp only [lg_sl, List.map_cons, List.flatMap_cons, List.length_append, rk_wid, rk_cat2] at ih ⊢
    rw [ih]
    cases rk_is2 v <;> rfl
theorem rk_args_ok {w : rk_W} {kd : Nat → Nat} : ∀ {as : List rk_V} {i : Nat}, rk_oks w kd as → rk_oks w kd ((rk_args i as).map (fun q => q.2))
  | [], _, h => h
  | v :: vs, i, h => rk_oc (rk_oh h) (rk_args_ok (rk_ot h))
def rk_rev : List rk_V → List rk_V → List rk_V
  | [], st => st
  | v :: vs, st => rk_rev vs (v :: st)
theorem rk_rev_eq : ∀ (as st : List rk_V), rk_rev as st = as.reverse ++ st
  | [], _ => rfl
  | v :: vs, st => by rw [rk_rev, rk_rev_eq vs, List.reverse_cons, List.append_assoc]; rfl
theorem rk_blind {w : rk_W} {as : List rk_V} {S : rk_S} : FrameBlind (rk_Pc w as S) := fun a U g mk h => ⟨h.1, h.2.1.call va_S.rf rfl (State.WarmedH.refl U), h.2.2⟩
theorem rk_body {w : rk_W} {l : Launch} {M : rk_M} {d mc ms : Nat} {as : List rk_V} {S : rk_S} {Q : Option rk_V → rk_S → Prop} {ls : List (Nat × rk_V)} (hp : plainName M.1.cls = true) (hls : rk_args 0 as = ls) (hsz : rk_wid as ≤ M.2.2.1)
    (kk : rk_Wp w l M d mc ms (rk_G w Q mc ms) 0 ls [] (S.1, 0, 0) S.2.1 S.2.2) : rk_C w l M d mc ms as S Q := by
  intro hoks
  refine Met.ofW (cc := M.2.1) (maxL := M.2.2.1) (ret := M.2.2.2) hp rfl ?_
  intro p e s m args below meth c s₁ B hml hv
  obtain ⟨rfl, hKN, hHR⟩ := hv
  have hl := lv_entry (as.map (rk_v w)) (n := M.2.2.1) (by rw [rk_wid_eq]; exact hsz)
  rw [rk_args_map, hls] at hl
  rw [lg_entry_eq]
  have hts : ∀ q ∈ rk_tbl, q.before (as.map (rk_v w)).toArray s = true := fun q hq => atoms_spec (ws := rk_ws M) B.pre q (List.mem_cons_of_mem _ hq)
  exact kk p e _ s m _ below meth c s.heap [] _ ⟨B.exec, B.bytes, B.returns, hml, findClass_of_methodNamed B.named, hts, B.notSynchronized, (name_of_methodNamed B.named B.method).1, hKN, Nat.le_refl _, Nat.le_refl _, Nat.le_refl _, Nat.le_refl _⟩ (fun v h => by cases h) (by rw [← hls]; exact rk_args_ok hoks) hHR va_S.rf hl
section RKA
variable {p : Program} {l : Launch} {e : Env} {Rm : Room} {s : State} {m : MethodId} {args : Array Value} {below : List Frame} {meth : Method} {cd : Code} {H : Heap} {locs : List Loc} {cells slots mc ms : Nat} {Qf : State → Prop} {w : rk_W} {pc : Nat} {la : Array Slot} {st0 rest : List Value} {a : Array Value}
theorem rk_after {Q' : Option rk_V → rk_S → Prop} (hr : va_Run p l e Rm s m args below meth cd H locs cells slots mc ms (F0 m pc la st0) rest (rk_Qc w Q' a) (rk_A w)) (hS : va_S (rk_A w) s.heap H locs)
    (kk : ∀ (r : Option rk_V) (u : rk_S) (H1 : Heap) (locs1 : List Loc), Q' r u → (∀ v, r = some v → rk_ok w u.1.2 v) → rk_HR w u.1 u.2.1 u.2.2 H1 → va_S (rk_A w) s.heap H1 locs1 → W p l e Rm s m args below meth cd H1 locs1 (cells + mc) (slots + ms) Qf (F0 m (pc + 3) la ((r.map (rk_v w)).toList ++ rest))) : W p l e Rm s m args below meth cd H locs cells slots Qf (F0 m pc la st0) := by
  intro T hT X
  obtain ⟨v, st₀, t, T', L, h0, X', hL, e1, e2, ⟨⟨r, u, hv, hp, hok, hb⟩, hz, hk⟩, st⟩ := hr T hT X
  cases hv
  rw [h0] at hz hk
  obtain ⟨t2, a1, b1⟩ := kk r u T'.heap (locs ++ L) hp hok (by rw [e1]; exact hb)
    ⟨Nat.le_trans hS.1 (by rw [e1]; exact hz), fun q h1 h2 => by rw [e1, hk q (Nat.lt_of_lt_of_le h1 hS.1) h2]; exact hS.2.1 q h1 h2, fun q hq => by
      rcases List.mem_append.mp hq with h | h
      · exact hS.2.2 q h
      · exact hL q h⟩ T' rfl X'
  exact ⟨t2, st t2 a1, b1⟩
end RKA
def rk_cats : List rk_V → Nat
  | [] => 0
  | v :: vs => (bif rk_is2 v then 2 else 1) + rk_cats vs
theorem rk_cats_eq (w : rk_W) : ∀ st : List rk_V, ((st.map (rk_v w)).map fun v => v.category).sum = rk_cats st
  | [] => rfl
  | v :: vs => by
    simp only [List.map_cons, List.sum_cons, rk_cats]
    rw [rk_cats_eq w vs]
    rcases v with x | x | x | x <;> rfl
/-- what the tables say of a method that is called -/
def rk_Me (M : rk_M) (n : Nat) : Prop := Cond.code M.1 M.2.1 M.2.2.1 M.2.2.2 ∈ rk_tbl ∧ Cond.initialized M.1.cls ∈ rk_tbl ∧ (M.1.cls ≠ "java/lang/invoke/MethodHandle" ∧ M.1.cls ≠ "java/lang/invoke/VarHandle" ∧ (parseMethodDescriptor M.1.desc).map (fun d => d.parameters.length) = some n) ∧ M.2.2.1 ≤ 20 ∧ plainName M.1.cls = true
def rk_MeV (M : rk_M) (n : Nat) : Prop := rk_Me M n ∧ Cond.instanceMethod M.1 ∈ rk_tbl ∧ Cond.selects M.1.cls M.1 M.1 ∈ rk_tbl
def rk_MeS (M : rk_M) (n : Nat) : Prop := rk_Me M n ∧ Cond.static M.1 ∈ rk_tbl
def rk_MeI (M : rk_M) (n : Nat) : Prop := rk_Me M n ∧ Cond.instanceMethod M.1 ∈ rk_tbl ∧ M.1.name = "<init>" ∧ M.2.2.2 = none
theorem rk_gws {M : rk_M} {n : Nat} (h : rk_Me M n) : GoodIn rk_tbl (rk_ws M) := fun q hq => (List.mem_cons.mp hq).elim (fun e => by rw [e]; exact rk_gi _ h.1) (rk_gi q)
theorem rk_okrev {w : rk_W} {kd : Nat → Nat} {as st : List rk_V} (h : rk_oks w kd (rk_rev as st)) : rk_oks w kd as ∧ rk_oks w kd st := by
  rw [rk_rev_eq] at h
  exact ⟨fun v hv => h v (List.mem_append_left _ (List.mem_reverse.mpr hv)), fun v hv => h v (List.mem_append_right _ hv)⟩
theorem rk_toL {w : rk_W} (r : Option rk_V) (st : List rk_V) : (r.map (rk_v w)).toList ++ st.map (rk_v w) = (r.toList ++ st).map (rk_v w) := by cases r <;> rfl

section RKR
variable {w : rk_W} {l : Launch} {M : rk_M} {d mc ms : Nat} {G : List Frame → Array Value → State → State → Prop} {pc : Nat} {ls : List (Nat × rk_V)} {st : List rk_V} {Z : rk_Z} {I : rk_Mm} {R : rk_Rm}
theorem rk_cV (M' : rk_M) (d' mc' ms' : Nat) {n idx : Nat} {as st0 : List rk_V} {Q' : Option rk_V → rk_S → Prop} {k a ci : Nat} {q : vw_C} {fts : List Nat} (hk : k < 100) (hkd : rk_kd k = .inl (ci, fts)) (hcl : vwCl[ci]? = some q) (hqC : q.1 = M'.1.cls) (hC : rk_C w l M' d' mc' ms' (rk_a k a :: as) (Z.1, I, R) Q') (hM : rk_MeV M' n) (hn : as.length = n) (hlink : Cond.methodLink M.1.cls idx M'.1 ∈ rk_tbl) (hd : decode M.2.1 pc = .ok (.invokevirtual idx, 3)) (hs : st0 = rk_rev (rk_a k a :: as) st) (hroom : d' + 1 ≤ d) (hZ : Z.2.1 + mc' ≤ mc ∧ Z.2.2 + ms' ≤ ms) (hst : rk_cats st ≤ 8) (kk : ∀ (r : Option rk_V) (u : rk_S), Q' r u → rk_oks w u.1.2 st ∧ rk_oks w u.1.2 (ls.map (fun q => q.2)) ∧ rk_Wp w l M d mc ms G (pc + 3) ls (r.toList ++ st) (u.1, Z.2.1 + mc', Z.2.2 + ms') u.2.1 u.2.2) : rk_Wp w l M d mc ms G (pc) (ls) (st0) Z I R := by
  subst hs
  intro p e Rm s m args below meth cd H locs la C a1 a2 a3 a4 a5
  obtain ⟨o1, o2⟩ := rk_okrev a1
  have hKN := C.2.2.2.2.2.2.2.2.1
  have hMet := hC o1
  have hts := C.2.2.2.2.2.1
  have hB : CallB Rm s args M.1.cls idx M'.1 M'.2.1 M'.2.2.1 M'.2.2.2 (rk_ws M') (rk_rm d' mc' ms') mc' ms' n := callB_of n hts (rk_gws hM.1) rfl rfl rfl (hts _ hM.1.2.1) (hts _ hlink) hM.1.2.2.1 ⟨by show d' + 1 ≤ Rm.frames; have := C.2.2.2.2.2.2.2.2.2.1; omega, by show 8 + (M'.2.2.1 + 11) + 40 * d' ≤ Rm.locals; have := C.2.2.2.2.2.2.2.2.2.2.1; have := hM.1.2.2.2.1; omega⟩
  have hok := rk_kok (rk_oh o1) hk
  obtain ⟨ha, q0, hq0⟩ := rk_at a3 hok.1 hok.2
  have e1 : rk_F w Z.1.2 I R a = .inr (ci, rk_fs (I (k % 50)) (R (k % 50)) a 0 fts) := by show rk_ent w I R (Z.1.2 a) a = _; rw [hok.1]; exact rk_inl hkd rfl
  rw [e1] at hq0
  have hrecv := va_recv hKN.1 a3.1 hcl hq0
  rw [hqC] at hrecv
  have hrun : va_Run p l e Rm s m args below meth cd H locs Z.2.1 Z.2.2 mc' ms' (F0 m pc la ((rk_rev (rk_a k a :: as) st).map (rk_v w))) (st.map (rk_v w)) (rk_Qc w Q' ((rk_a k a :: as).map (rk_v w)).toArray) (rk_A w) := va_runV (rest := st.map (rk_v w)) (As := as.map (rk_v w)) ⟨C.1, C.2.1, C.2.2.2.1, C.2.2.2.2.1, hts⟩ hMet ⟨hB, hts _ hM.2.1, hts _ hM.2.2⟩ ⟨rk_blind, hrecv, (fun U hU hW => ⟨rfl, hKN.call a4 hU hW, by rw [hU]; exact a3⟩)⟩ (g := F0 m pc la ((rk_rev (rk_a k a :: as) st).map (rk_v w))) rfl (by rw [List.length_map]; exact hn) a5.1 (by show (rk_rev (rk_a k a :: as) st).map (rk_v w) = (as.map (rk_v w)).reverse ++ .ref a :: st.map (rk_v w); rw [rk_rev_eq]; simp [rk_v]) (lv_room (by rw [rk_cats_eq]; exact hst)) hd ⟨Nat.le_trans hZ.1 C.2.2.2.2.2.2.2.2.2.2.2.1, Nat.le_trans hZ.2 C.2.2.2.2.2.2.2.2.2.2.2.2⟩
  refine rk_after hrun a4 (fun r u H1 locs1 hQ hro hH1 hS1 => ?_)
  obtain ⟨k1, k2, k3⟩ := kk r u hQ
  rw [rk_toL]
  refine k3 p e Rm s m args below meth cd H1 locs1 la C (fun v hv => ?_) k2 hH1 hS1 a5
  rcases List.mem_append.mp hv with h | h
  · cases r with
    | none => cases h
    | some r => rw [List.mem_singleton.mp h]; exact hro r rfl
  · exact k1 v h
theorem rk_cS (M' : rk_M) (d' mc' ms' : Nat) {n idx : Nat} {as st0 : List rk_V} {Q' : Option rk_V → rk_S → Prop} (hC : rk_C w l M' d' mc' ms' (as) (Z.1, I, R) Q') (hM : rk_MeS M' n) (hn : as.length = n) (hlink : Cond.methodLink M.1.cls idx M'.1 ∈ rk_tbl) (hd : decode M.2.1 pc = .ok (.invokestatic idx, 3)) (hs : st0 = rk_rev (as) st) (hroom : d' + 1 ≤ d) (hZ : Z.2.1 + mc' ≤ mc ∧ Z.2.2 + ms' ≤ ms) (hst : rk_cats st ≤ 8) (kk : ∀ (r : Option rk_V) (u : rk_S), Q' r u → rk_oks w u.1.2 st ∧ rk_oks w u.1.2 (ls.map (fun q => q.2)) ∧ rk_Wp w l M d mc ms G (pc + 3) ls (r.toList ++ st) (u.1, Z.2.1 + mc', Z.2.2 + ms') u.2.1 u.2.2) : rk_Wp w l M d mc ms G (pc) (ls) (st0) Z I R := by
  subst hs
  intro p e Rm s m args below meth cd H locs la C a1 a2 a3 a4 a5
  obtain ⟨o1, o2⟩ := rk_okrev a1
  have hKN := C.2.2.2.2.2.2.2.2.1
  have hMet := hC o1
  have hts := C.2.2.2.2.2.1
  have hB : CallB Rm s args M.1.cls idx M'.1 M'.2.1 M'.2.2.1 M'.2.2.2 (rk_ws M') (rk_rm d' mc' ms') mc' ms' n := callB_of n hts (rk_gws hM.1) rfl rfl rfl (hts _ hM.1.2.1) (hts _ hlink) hM.1.2.2.1 ⟨by show d' + 1 ≤ Rm.frames; have := C.2.2.2.2.2.2.2.2.2.1; omega, by show 8 + (M'.2.2.1 + 11) + 40 * d' ≤ Rm.locals; have := C.2.2.2.2.2.2.2.2.2.2.1; have := hM.1.2.2.2.1; omega⟩
  have hrun : va_Run p l e Rm s m args below meth cd H locs Z.2.1 Z.2.2 mc' ms' (F0 m pc la ((rk_rev (as) st).map (rk_v w))) (st.map (rk_v w)) (rk_Qc w Q' ((as).map (rk_v w)).toArray) (rk_A w) := va_runS (rest := st.map (rk_v w)) (As := as.map (rk_v w)) ⟨C.1, C.2.1, C.2.2.2.1, C.2.2.2.2.1, hts⟩ hMet ⟨hB, hts _ hM.2⟩ ⟨rk_blind, (fun U hU hW => ⟨rfl, hKN.call a4 hU hW, by rw [hU]; exact a3⟩)⟩ (g := F0 m pc la ((rk_rev (as) st).map (rk_v w))) rfl (by rw [List.length_map]; exact hn) a5.1 (by show (rk_rev (as) st).map (rk_v w) = (as.map (rk_v w)).reverse ++ st.map (rk_v w); rw [rk_rev_eq]; simp) (lv_room (by rw [rk_cats_eq]; exact hst)) hd ⟨Nat.le_trans hZ.1 C.2.2.2.2.2.2.2.2.2.2.2.1, Nat.le_trans hZ.2 C.2.2.2.2.2.2.2.2.2.2.2.2⟩
  refine rk_after hrun a4 (fun r u H1 locs1 hQ hro hH1 hS1 => ?_)
  obtain ⟨k1, k2, k3⟩ := kk r u hQ
  rw [rk_toL]
  refine k3 p e Rm s m args below meth cd H1 locs1 la C (fun v hv => ?_) k2 hH1 hS1 a5
  rcases List.mem_append.mp hv with h | h
  · cases r with
    | none => cases h
    | some r => rw [List.mem_singleton.mp h]; exact hro r rfl
  · exact k1 v h
theorem rk_cSN (M' : rk_M) (d' mc' ms' : Nat) {n idx : Nat} {as st0 : List rk_V} {Q' : Option rk_V → rk_S → Prop} {host : String} (hC : rk_C w l M' d' mc' ms' (as) (Z.1, I, R) Q') (hM : rk_MeS M' n) (hn : as.length = n) (hlink : (M.1.cls, idx, M'.1, host) ∈ rk_nest) (hd : decode M.2.1 pc = .ok (.invokestatic idx, 3)) (hs : st0 = rk_rev (as) st) (hroom : d' + 1 ≤ d) (hZ : Z.2.1 + mc' ≤ mc ∧ Z.2.2 + ms' ≤ ms) (hst : rk_cats st ≤ 8) (kk : ∀ (r : Option rk_V) (u : rk_S), Q' r u → rk_oks w u.1.2 st ∧ rk_oks w u.1.2 (ls.map (fun q => q.2)) ∧ rk_Wp w l M d mc ms G (pc + 3) ls (r.toList ++ st) (u.1, Z.2.1 + mc', Z.2.2 + ms') u.2.1 u.2.2) : rk_Wp w l M d mc ms G (pc) (ls) (st0) Z I R := by
  subst hs
  intro p e Rm s m args below meth cd H locs la C a1 a2 a3 a4 a5
  obtain ⟨o1, o2⟩ := rk_okrev a1
  have hKN := C.2.2.2.2.2.2.2.2.1
  have hMet := hC o1
  have hts := C.2.2.2.2.2.1
  have hB : va_CN Rm s args M.1.cls idx M'.1 host M'.2.1 M'.2.2.1 M'.2.2.2 (rk_ws M') (rk_rm d' mc' ms') mc' ms' n := va_cnB n hts (rk_gws hM.1) rfl rfl rfl (hKN.2.2.2.1 _ hlink) (hts _ hM.1.2.1) hM.1.2.2.1 ⟨by show d' + 1 ≤ Rm.frames; have := C.2.2.2.2.2.2.2.2.2.1; omega, by show 8 + (M'.2.2.1 + 11) + 40 * d' ≤ Rm.locals; have := C.2.2.2.2.2.2.2.2.2.2.1; have := hM.1.2.2.2.1; omega⟩
  have hrun : va_Run p l e Rm s m args below meth cd H locs Z.2.1 Z.2.2 mc' ms' (F0 m pc la ((rk_rev (as) st).map (rk_v w))) (st.map (rk_v w)) (rk_Qc w Q' ((as).map (rk_v w)).toArray) (rk_A w) := va_runSN (rest := st.map (rk_v w)) (As := as.map (rk_v w)) ⟨C.1, C.2.1, C.2.2.2.1, C.2.2.2.2.1, hts⟩ hMet ⟨hB, hts _ hM.2, trivial⟩ ⟨rk_blind, (fun U hU hW => ⟨rfl, hKN.call a4 hU hW, by rw [hU]; exact a3⟩)⟩ (g := F0 m pc la ((rk_rev (as) st).map (rk_v w))) rfl (by rw [List.length_map]; exact hn) a5.1 (by show (rk_rev (as) st).map (rk_v w) = (as.map (rk_v w)).reverse ++ st.map (rk_v w); rw [rk_rev_eq]; simp) (lv_room (by rw [rk_cats_eq]; exact hst)) hd ⟨Nat.le_trans hZ.1 C.2.2.2.2.2.2.2.2.2.2.2.1, Nat.le_trans hZ.2 C.2.2.2.2.2.2.2.2.2.2.2.2⟩
  refine rk_after hrun a4 (fun r u H1 locs1 hQ hro hH1 hS1 => ?_)
  obtain ⟨k1, k2, k3⟩ := kk r u hQ
  rw [rk_toL]
  refine k3 p e Rm s m args below meth cd H1 locs1 la C (fun v hv => ?_) k2 hH1 hS1 a5
  rcases List.mem_append.mp hv with h | h
  · cases r with
    | none => cases h
    | some r => rw [List.mem_singleton.mp h]; exact hro r rfl
  · exact k1 v h
theorem rk_cI (M' : rk_M) (d' mc' ms' : Nat) {n idx : Nat} {as st0 : List rk_V} {Q' : Option rk_V → rk_S → Prop} {k a : Nat} (hC : rk_C w l M' d' mc' ms' (rk_a k a :: as) (Z.1, I, R) Q') (hM : rk_MeI M' n) (hn : as.length = n) (hlink : Cond.methodLink M.1.cls idx M'.1 ∈ rk_tbl) (hd : decode M.2.1 pc = .ok (.invokespecial idx, 3)) (hs : st0 = rk_rev (rk_a k a :: as) st) (hroom : d' + 1 ≤ d) (hZ : Z.2.1 + mc' ≤ mc ∧ Z.2.2 + ms' ≤ ms) (hst : rk_cats st ≤ 8) (kk : ∀ (r : Option rk_V) (u : rk_S), Q' r u → rk_oks w u.1.2 st ∧ rk_oks w u.1.2 (ls.map (fun q => q.2)) ∧ rk_Wp w l M d mc ms G (pc + 3) ls (r.toList ++ st) (u.1, Z.2.1 + mc', Z.2.2 + ms') u.2.1 u.2.2) : rk_Wp w l M d mc ms G (pc) (ls) (st0) Z I R := by
  subst hs
  intro p e Rm s m args below meth cd H locs la C a1 a2 a3 a4 a5
  obtain ⟨o1, o2⟩ := rk_okrev a1
  have hKN := C.2.2.2.2.2.2.2.2.1
  have hMet := hC o1
  have hts := C.2.2.2.2.2.1
  have hret : M'.2.2.2 = none := hM.2.2.2
  have hB : CallB Rm s args M.1.cls idx M'.1 M'.2.1 M'.2.2.1 M'.2.2.2 (rk_ws M') (rk_rm d' mc' ms') mc' ms' n := callB_of n hts (rk_gws hM.1) rfl rfl rfl (hts _ hM.1.2.1) (hts _ hlink) hM.1.2.2.1 ⟨by show d' + 1 ≤ Rm.frames; have := C.2.2.2.2.2.2.2.2.2.1; omega, by show 8 + (M'.2.2.1 + 11) + 40 * d' ≤ Rm.locals; have := C.2.2.2.2.2.2.2.2.2.2.1; have := hM.1.2.2.2.1; omega⟩
  rw [hret] at hB
  have hrun : va_Run p l e Rm s m args below meth cd H locs Z.2.1 Z.2.2 mc' ms' (F0 m pc la ((rk_rev (rk_a k a :: as) st).map (rk_v w))) (st.map (rk_v w)) (rk_Qc w Q' ((rk_a k a :: as).map (rk_v w)).toArray) (rk_A w) := va_runI (rest := st.map (rk_v w)) (As := as.map (rk_v w)) ⟨C.1, C.2.1, C.2.2.2.1, C.2.2.2.2.1, hts⟩ hMet ⟨hB, hM.2.2.1, hts _ hM.2.1⟩ ⟨rk_blind, (fun U hU hW => ⟨rfl, hKN.call a4 hU hW, by rw [hU]; exact a3⟩)⟩ (g := F0 m pc la ((rk_rev (rk_a k a :: as) st).map (rk_v w))) rfl (by rw [List.length_map]; exact hn) a5.1 (by show (rk_rev (rk_a k a :: as) st).map (rk_v w) = (as.map (rk_v w)).reverse ++ .ref a :: st.map (rk_v w); rw [rk_rev_eq]; simp [rk_v]) (lv_room (by rw [rk_cats_eq]; exact hst)) hd ⟨Nat.le_trans hZ.1 C.2.2.2.2.2.2.2.2.2.2.2.1, Nat.le_trans hZ.2 C.2.2.2.2.2.2.2.2.2.2.2.2⟩
  refine rk_after hrun a4 (fun r u H1 locs1 hQ hro hH1 hS1 => ?_)
  obtain ⟨k1, k2, k3⟩ := kk r u hQ
  rw [rk_toL]
  refine k3 p e Rm s m args below meth cd H1 locs1 la C (fun v hv => ?_) k2 hH1 hS1 a5
  rcases List.mem_append.mp hv with h | h
  · cases r with
    | none => cases h
    | some r => rw [List.mem_singleton.mp h]; exact hro r rfl
  · exact k1 v h
theorem rk_cIN (M' : rk_M) (d' mc' ms' : Nat) {n idx : Nat} {as st0 : List rk_V} {Q' : Option rk_V → rk_S → Prop} {host : String} {k a : Nat} (hC : rk_C w l M' d' mc' ms' (rk_a k a :: as) (Z.1, I, R) Q') (hM : rk_MeI M' n) (hn : as.length = n) (hlink : (M.1.cls, idx, M'.1, host) ∈ rk_nest) (hd : decode M.2.1 pc = .ok (.invokespecial idx, 3)) (hs : st0 = rk_rev (rk_a k a :: as) st) (hroom : d' + 1 ≤ d) (hZ : Z.2.1 + mc' ≤ mc ∧ Z.2.2 + ms' ≤ ms) (hst : rk_cats st ≤ 8) (kk : ∀ (r : Option rk_V) (u : rk_S), Q' r u → rk_oks w u.1.2 st ∧ rk_oks w u.1.2 (ls.map (fun q => q.2)) ∧ rk_Wp w l M d mc ms G (pc + 3) ls (r.toList ++ st) (u.1, Z.2.1 + mc', Z.2.2 + ms') u.2.1 u.2.2) : rk_Wp w l M d mc ms G (pc) (ls) (st0) Z I R := by
  subst hs
  intro p e Rm s m args below meth cd H locs la C a1 a2 a3 a4 a5
  obtain ⟨o1, o2⟩ := rk_okrev a1
  have hKN := C.2.2.2.2.2.2.2.2.1
  have hMet := hC o1
  have hts := C.2.2.2.2.2.1
  have hret : M'.2.2.2 = none := hM.2.2.2
  have hB : va_CN Rm s args M.1.cls idx M'.1 host M'.2.1 M'.2.2.1 M'.2.2.2 (rk_ws M') (rk_rm d' mc' ms') mc' ms' n := va_cnB n hts (rk_gws hM.1) rfl rfl rfl (hKN.2.2.2.1 _ hlink) (hts _ hM.1.2.1) hM.1.2.2.1 ⟨by show d' + 1 ≤ Rm.frames; have := C.2.2.2.2.2.2.2.2.2.1; omega, by show 8 + (M'.2.2.1 + 11) + 40 * d' ≤ Rm.locals; have := C.2.2.2.2.2.2.2.2.2.2.1; have := hM.1.2.2.2.1; omega⟩
  rw [hret] at hB
  have hrun : va_Run p l e Rm s m args below meth cd H locs Z.2.1 Z.2.2 mc' ms' (F0 m pc la ((rk_rev (rk_a k a :: as) st).map (rk_v w))) (st.map (rk_v w)) (rk_Qc w Q' ((rk_a k a :: as).map (rk_v w)).toArray) (rk_A w) := va_runIN (rest := st.map (rk_v w)) (As := as.map (rk_v w)) ⟨C.1, C.2.1, C.2.2.2.1, C.2.2.2.2.1, hts⟩ hMet ⟨hB, hM.2.2.1, hts _ hM.2.1⟩ ⟨rk_blind, (fun U hU hW => ⟨rfl, hKN.call a4 hU hW, by rw [hU]; exact a3⟩)⟩ (g := F0 m pc la ((rk_rev (rk_a k a :: as) st).map (rk_v w))) rfl (by rw [List.length_map]; exact hn) a5.1 (by show (rk_rev (rk_a k a :: as) st).map (rk_v w) = (as.map (rk_v w)).reverse ++ .ref a :: st.map (rk_v w); rw [rk_rev_eq]; simp [rk_v]) (lv_room (by rw [rk_cats_eq]; exact hst)) hd ⟨Nat.le_trans hZ.1 C.2.2.2.2.2.2.2.2.2.2.2.1, Nat.le_trans hZ.2 C.2.2.2.2.2.2.2.2.2.2.2.2⟩
  refine rk_after hrun a4 (fun r u H1 locs1 hQ hro hH1 hS1 => ?_)
  obtain ⟨k1, k2, k3⟩ := kk r u hQ
  rw [rk_toL]
  refine k3 p e Rm s m args below meth cd H1 locs1 la C (fun v hv => ?_) k2 hH1 hS1 a5
  rcases List.mem_append.mp hv with h | h
  · cases r with
    | none => cases h
    | some r => rw [List.mem_singleton.mp h]; exact hro r rfl
  · exact k1 v h
theorem rk_iret {Q : Option rk_V → rk_S → Prop} {x : Int32} {ty : FieldType} (hd : decode M.2.1 pc = .ok (.ireturn, 1)) (hr : M.2.2.2 = some ty) (hn : narrow ty (.int x) = .int x) (hz : Z.2.1 ≤ mc ∧ Z.2.2 ≤ ms) (hQ : Q (some (rk_i x)) (Z.1, I, R)) : rk_Wp w l M d mc ms (rk_G w Q mc ms) pc ls [rk_i x] Z I R := by
  intro p e Rm s m args below meth cd H locs la C a1 a2 a3 a4 a5
  refine W.widen hz.1 hz.2 ?_
  exact W.zret (v := x) C.1 C.2.1 (C.2.2.1.trans hr) hn (fun t ht hW => ⟨⟨some (rk_i x), (Z.1, I, R), rfl, hQ, fun v h => (by cases h; trivial), by rw [ht]; exact a3⟩, a4.F ht⟩) a4.2.2 hd C.2.2.2.2.2.2.1
theorem rk_vret {Q : Option rk_V → rk_S → Prop} (hd : decode M.2.1 pc = .ok (.return_, 1)) (hr : M.2.2.2 = none) (hz : Z.2.1 ≤ mc ∧ Z.2.2 ≤ ms) (hQ : Q none (Z.1, I, R)) : rk_Wp w l M d mc ms (rk_G w Q mc ms) pc ls [] Z I R := by
  intro p e Rm s m args below meth cd H locs la C a1 a2 a3 a4 a5
  refine W.widen hz.1 hz.2 ?_
  exact W.vret C.1 C.2.1 (C.2.2.1.trans hr) (fun t ht hW => ⟨⟨none, (Z.1, I, R), rfl, hQ, fun v h => (by cases h), by rw [ht]; exact a3⟩, a4.F ht⟩) a4.2.2 hd C.2.2.2.2.2.2.1
theorem rk_aret {Q : Option rk_V → rk_S → Prop} {i : Nat} {tn : String} (hd : decode M.2.1 pc = .ok (.areturn, 1)) (hr : M.2.2.2 = some (.object tn)) (hz : Z.2.1 ≤ mc ∧ Z.2.2 ≤ ms) (hQ : Q (some (rk_t i)) (Z.1, I, R)) : rk_Wp w l M d mc ms (rk_G w Q mc ms) pc ls [rk_t i] Z I R := by
  intro p e Rm s m args below meth cd H locs la C a1 a2 a3 a4 a5
  refine W.widen hz.1 hz.2 ?_
  exact W.aret (v := rk_v w (rk_t i)) C.1 C.2.1 (C.2.2.1.trans hr) (Or.inl ⟨_, rfl⟩) (Or.inr ⟨_, rfl⟩) (fun t ht hW => ⟨⟨some (rk_t i), (Z.1, I, R), rfl, hQ, fun v h => (by cases h; exact rk_oh a1), by rw [ht]; exact a3⟩, a4.F ht⟩) a4.2.2 hd C.2.2.2.2.2.2.1
end RKR
end
section
theorem rk_inT {q : Cond} (i : Nat) (h : tables_1[i]? = some q) (hg : goodWord q = true) : q ∈ rk_tbl := rk_in (List.mem_append_right _ (List.mem_of_getElem? h)) hg
theorem rk_inP {q : Cond} (h : q ∈ k2_sels lw_privs) (hg : goodWord q = true) : q ∈ rk_tbl := rk_in (List.mem_append_left _ h) hg
theorem rk_u1 : ∀ q ∈ u_ws RX0 TX0 2, q ∈ rk_tbl := fun q h => rk_in (List.mem_append_right _ ((by decide +kernel : ∀ q ∈ u_ws RX0 TX0 2, q ∈ tables_1) q h)) ((by decide +kernel : ∀ q ∈ u_ws RX0 TX0 2, goodWord q = true) q h)
theorem rk_u2 : ∀ q ∈ u_ws RX1 TX1 2, q ∈ rk_tbl := fun q h => rk_in (List.mem_append_right _ ((by decide +kernel : ∀ q ∈ u_ws RX1 TX1 2, q ∈ tables_1) q h)) ((by decide +kernel : ∀ q ∈ u_ws RX1 TX1 2, goodWord q = true) q h)
theorem rk_u3 : ∀ q ∈ u_ws RX2 TX2 7, q ∈ rk_tbl := fun q h => rk_in (List.mem_append_right _ ((by decide +kernel : ∀ q ∈ u_ws RX2 TX2 7, q ∈ tables_1) q h)) ((by decide +kernel : ∀ q ∈ u_ws RX2 TX2 7, goodWord q = true) q h)
theorem rk_u4 : ∀ q ∈ u_ws RX3 TX3 2, q ∈ rk_tbl := fun q h => rk_in (List.mem_append_right _ ((by decide +kernel : ∀ q ∈ u_ws RX3 TX3 2, q ∈ tables_1) q h)) ((by decide +kernel : ∀ q ∈ u_ws RX3 TX3 2, goodWord q = true) q h)
theorem rk_u5 : ∀ q ∈ u_ws RX4 TX4 7, q ∈ rk_tbl := fun q h => rk_in (List.mem_append_right _ ((by decide +kernel : ∀ q ∈ u_ws RX4 TX4 7, q ∈ tables_1) q h)) ((by decide +kernel : ∀ q ∈ u_ws RX4 TX4 7, goodWord q = true) q h)
theorem rk_u6 : ∀ q ∈ u_ws RX5 TX5 5, q ∈ rk_tbl := fun q h => rk_in (List.mem_append_right _ ((by decide +kernel : ∀ q ∈ u_ws RX5 TX5 5, q ∈ tables_1) q h)) ((by decide +kernel : ∀ q ∈ u_ws RX5 TX5 5, goodWord q = true) q h)
theorem rk_u7 : ∀ q ∈ u_ws RX6 TX6 3, q ∈ rk_tbl := fun q h => rk_in (List.mem_append_right _ ((by decide +kernel : ∀ q ∈ u_ws RX6 TX6 3, q ∈ tables_1) q h)) ((by decide +kernel : ∀ q ∈ u_ws RX6 TX6 3, goodWord q = true) q h)
theorem rk_u8 : ∀ q ∈ u_ws RX7 TX7 3, q ∈ rk_tbl := fun q h => rk_in (List.mem_append_right _ ((by decide +kernel : ∀ q ∈ u_ws RX7 TX7 3, q ∈ tables_1) q h)) ((by decide +kernel : ∀ q ∈ u_ws RX7 TX7 3, goodWord q = true) q h)
theorem rk_u9 : ∀ q ∈ u_ws RX8 TX8 3, q ∈ rk_tbl := fun q h => rk_in (List.mem_append_right _ ((by decide +kernel : ∀ q ∈ u_ws RX8 TX8 3, q ∈ tables_1) q h)) ((by decide +kernel : ∀ q ∈ u_ws RX8 TX8 3, goodWord q = true) q h)
theorem rk_u10 : ∀ q ∈ u_ws RX9 TX9 8, q ∈ rk_tbl := fun q h => rk_in (List.mem_append_right _ ((by decide +kernel : ∀ q ∈ u_ws RX9 TX9 8, q ∈ tables_1) q h)) ((by decide +kernel : ∀ q ∈ u_ws RX9 TX9 8, goodWord q = true) q h)
theorem rk_u11 : ∀ q ∈ u_ws RX10 TX10 7, q ∈ rk_tbl := fun q h => rk_in (List.mem_append_right _ ((by decide +kernel : ∀ q ∈ u_ws RX10 TX10 7, q ∈ tables_1) q h)) ((by decide +kernel : ∀ q ∈ u_ws RX10 TX10 7, goodWord q = true) q h)
theorem rk_u12 : ∀ q ∈ u_ws RX11 TX11 14, q ∈ rk_tbl := fun q h => rk_in (List.mem_append_right _ ((by decide +kernel : ∀ q ∈ u_ws RX11 TX11 14, q ∈ tables_1) q h)) ((by decide +kernel : ∀ q ∈ u_ws RX11 TX11 14, goodWord q = true) q h)
theorem rk_g1_0 {w : rk_W} {l : Launch} {M : rk_M} {d mc ms : Nat} {G : List Frame → Array Value → State → State → Prop} {pc : Nat} {ls : List (Nat × rk_V)} {st : List rk_V} {Z : rk_Z} {I : rk_Mm} {R : rk_Rm} {idx a : Nat} (hl : Cond.fieldLink M.1.cls idx RX0 "orders" "[LRopeWalk$Order;" ∈ rk_tbl) (hd : decode M.2.1 pc = .ok (.getfield idx, 3)) (kk : rk_Wp w l M d mc ms G (pc + 3) ls (rk_a 13 (R 1 a 0) :: st) Z I R) : rk_Wp w l M d mc ms G (pc) ls (rk_a 1 a :: st) Z I R := rk_getR 1 1 0 0 13 (by decide) rfl rfl (C := RX0) (T := TX0) (N := 2) rfl (by decide) rfl (by decide) rk_u1 rfl hl hd kk
theorem rk_g1_1 {w : rk_W} {l : Launch} {M : rk_M} {d mc ms : Nat} {G : List Frame → Array Value → State → State → Prop} {pc : Nat} {ls : List (Nat × rk_V)} {st : List rk_V} {Z : rk_Z} {I : rk_Mm} {R : rk_Rm} {idx a : Nat} (hl : Cond.fieldLink M.1.cls idx RX0 "count" "I" ∈ rk_tbl) (hd : decode M.2.1 pc = .ok (.getfield idx, 3)) (kk : rk_Wp w l M d mc ms G (pc + 3) ls (rk_i (I 1 a 1) :: st) Z I R) : rk_Wp w l M d mc ms G (pc) ls (rk_a 1 a :: st) Z I R := rk_getI 1 1 0 1 (by decide) rfl rfl (C := RX0) (T := TX0) (N := 2) rfl (by decide) rfl rk_u1 rfl hl hd kk
theorem rk_p1_1 {w : rk_W} {l : Launch} {M : rk_M} {d mc ms : Nat} {G : List Frame → Array Value → State → State → Prop} {pc : Nat} {ls : List (Nat × rk_V)} {st : List rk_V} {Z : rk_Z} {I : rk_Mm} {R : rk_Rm} {idx a : Nat} {x : Int32} (hl : Cond.fieldLink M.1.cls idx RX0 "count" "I" ∈ rk_tbl) (hd : decode M.2.1 pc = .ok (.putfield idx, 3)) (kk : ∀ I', I' = rk_uI I 1 a 1 x → rk_Wp w l M d mc ms G (pc + 3) ls (st) Z I' R) : rk_Wp w l M d mc ms G (pc) ls (rk_i x :: rk_a 1 a :: st) Z I R := rk_putI 1 1 0 1 tyX0 (by decide) rfl rfl (C := RX0) (T := TX0) (N := 2) (ty := .int) rfl (by decide) rfl rk_u1 tyX0_ok nmX0 rfl rfl (by decide +kernel) rfl rfl hl hd kk
theorem rk_g2_0 {w : rk_W} {l : Launch} {M : rk_M} {d mc ms : Nat} {G : List Frame → Array Value → State → State → Prop} {pc : Nat} {ls : List (Nat × rk_V)} {st : List rk_V} {Z : rk_Z} {I : rk_Mm} {R : rk_Rm} {idx a : Nat} (hl : Cond.fieldLink M.1.cls idx RX1 "rows" "[LRopeWalk$Yard;" ∈ rk_tbl) (hd : decode M.2.1 pc = .ok (.getfield idx, 3)) (kk : rk_Wp w l M d mc ms G (pc + 3) ls (rk_a 14 (R 2 a 0) :: st) Z I R) : rk_Wp w l M d mc ms G (pc) ls (rk_a 2 a :: st) Z I R := rk_getR 2 2 1 0 14 (by decide) rfl rfl (C := RX1) (T := TX1) (N := 2) rfl (by decide) rfl (by decide) rk_u2 rfl hl hd kk
theorem rk_g2_1 {w : rk_W} {l : Launch} {M : rk_M} {d mc ms : Nat} {G : List Frame → Array Value → State → State → Prop} {pc : Nat} {ls : List (Nat × rk_V)} {st : List rk_V} {Z : rk_Z} {I : rk_Mm} {R : rk_Rm} {idx a : Nat} (hl : Cond.fieldLink M.1.cls idx RX1 "count" "I" ∈ rk_tbl) (hd : decode M.2.1 pc = .ok (.getfield idx, 3)) (kk : rk_Wp w l M d mc ms G (pc + 3) ls (rk_i (I 2 a 1) :: st) Z I R) : rk_Wp w l M d mc ms G (pc) ls (rk_a 2 a :: st) Z I R := rk_getI 2 2 1 1 (by decide) rfl rfl (C := RX1) (T := TX1) (N := 2) rfl (by decide) rfl rk_u2 rfl hl hd kk
theorem rk_p2_1 {w : rk_W} {l : Launch} {M : rk_M} {d mc ms : Nat} {G : List Frame → Array Value → State → State → Prop} {pc : Nat} {ls : List (Nat × rk_V)} {st : List rk_V} {Z : rk_Z} {I : rk_Mm} {R : rk_Rm} {idx a : Nat} {x : Int32} (hl : Cond.fieldLink M.1.cls idx RX1 "count" "I" ∈ rk_tbl) (hd : decode M.2.1 pc = .ok (.putfield idx, 3)) (kk : ∀ I', I' = rk_uI I 2 a 1 x → rk_Wp w l M d mc ms G (pc + 3) ls (st) Z I' R) : rk_Wp w l M d mc ms G (pc) ls (rk_i x :: rk_a 2 a :: st) Z I R := rk_putI 2 2 1 1 tyX1 (by decide) rfl rfl (C := RX1) (T := TX1) (N := 2) (ty := .int) rfl (by decide) rfl rk_u2 tyX1_ok nmX1 rfl rfl (by decide +kernel) rfl rfl hl hd kk
theorem rk_g3_0 {w : rk_W} {l : Launch} {M : rk_M} {d mc ms : Nat} {G : List Frame → Array Value → State → State → Prop} {pc : Nat} {ls : List (Nat × rk_V)} {st : List rk_V} {Z : rk_Z} {I : rk_Mm} {R : rk_Rm} {idx a : Nat} (hl : Cond.fieldLink M.1.cls idx RX2 "fibre" "I" ∈ rk_tbl) (hd : decode M.2.1 pc = .ok (.getfield idx, 3)) (kk : rk_Wp w l M d mc ms G (pc + 3) ls (rk_i (I 3 a 0) :: st) Z I R) : rk_Wp w l M d mc ms G (pc) ls (rk_a 3 a :: st) Z I R := rk_getI 3 3 2 0 (by decide) rfl rfl (C := RX2) (T := TX2) (N := 7) rfl (by decide) rfl rk_u3 rfl hl hd kk
theorem rk_p3_0 {w : rk_W} {l : Launch} {M : rk_M} {d mc ms : Nat} {G : List Frame → Array Value → State → State → Prop} {pc : Nat} {ls : List (Nat × rk_V)} {st : List rk_V} {Z : rk_Z} {I : rk_Mm} {R : rk_Rm} {idx a : Nat} {x : Int32} (hl : Cond.fieldLink M.1.cls idx RX2 "fibre" "I" ∈ rk_tbl) (hd : decode M.2.1 pc = .ok (.putfield idx, 3)) (kk : ∀ I', I' = rk_uI I 3 a 0 x → rk_Wp w l M d mc ms G (pc + 3) ls (st) Z I' R) : rk_Wp w l M d mc ms G (pc) ls (rk_i x :: rk_a 3 a :: st) Z I R := rk_putI 3 3 2 0 tyX2 (by decide) rfl rfl (C := RX2) (T := TX2) (N := 7) (ty := .int) rfl (by decide) rfl rk_u3 tyX2_ok nmX2 rfl rfl (by decide +kernel) rfl rfl hl hd kk
theorem rk_g3_1 {w : rk_W} {l : Launch} {M : rk_M} {d mc ms : Nat} {G : List Frame → Array Value → State → State → Prop} {pc : Nat} {ls : List (Nat × rk_V)} {st : List rk_V} {Z : rk_Z} {I : rk_Mm} {R : rk_Rm} {idx a : Nat} (hl : Cond.fieldLink M.1.cls idx RX2 "strength" "I" ∈ rk_tbl) (hd : decode M.2.1 pc = .ok (.getfield idx, 3)) (kk : rk_Wp w l M d mc ms G (pc + 3) ls (rk_i (I 3 a 1) :: st) Z I R) : rk_Wp w l M d mc ms G (pc) ls (rk_a 3 a :: st) Z I R := rk_getI 3 3 2 1 (by decide) rfl rfl (C := RX2) (T := TX2) (N := 7) rfl (by decide) rfl rk_u3 rfl hl hd kk
theorem rk_p3_1 {w : rk_W} {l : Launch} {M : rk_M} {d mc ms : Nat} {G : List Frame → Array Value → State → State → Prop} {pc : Nat} {ls : List (Nat × rk_V)} {st : List rk_V} {Z : rk_Z} {I : rk_Mm} {R : rk_Rm} {idx a : Nat} {x : Int32} (hl : Cond.fieldLink M.1.cls idx RX2 "strength" "I" ∈ rk_tbl) (hd : decode M.2.1 pc = .ok (.putfield idx, 3)) (kk : ∀ I', I' = rk_uI I 3 a 1 x → rk_Wp w l M d mc ms G (pc + 3) ls (st) Z I' R) : rk_Wp w l M d mc ms G (pc) ls (rk_i x :: rk_a 3 a :: st) Z I R := rk_putI 3 3 2 1 tyX2 (by decide) rfl rfl (C := RX2) (T := TX2) (N := 7) (ty := .int) rfl (by decide) rfl rk_u3 tyX2_ok nmX2 rfl rfl (by decide +kernel) rfl rfl hl hd kk
theorem rk_g3_2 {w : rk_W} {l : Launch} {M : rk_M} {d mc ms : Nat} {G : List Frame → Array Value → State → State → Prop} {pc : Nat} {ls : List (Nat × rk_V)} {st : List rk_V} {Z : rk_Z} {I : rk_Mm} {R : rk_Rm} {idx a : Nat} (hl : Cond.fieldLink M.1.cls idx RX2 "length" "I" ∈ rk_tbl) (hd : decode M.2.1 pc = .ok (.getfield idx, 3)) (kk : rk_Wp w l M d mc ms G (pc + 3) ls (rk_i (I 3 a 2) :: st) Z I R) : rk_Wp w l M d mc ms G (pc) ls (rk_a 3 a :: st) Z I R := rk_getI 3 3 2 2 (by decide) rfl rfl (C := RX2) (T := TX2) (N := 7) rfl (by decide) rfl rk_u3 rfl hl hd kk
theorem rk_p3_2 {w : rk_W} {l : Launch} {M : rk_M} {d mc ms : Nat} {G : List Frame → Array Value → State → State → Prop} {pc : Nat} {ls : List (Nat × rk_V)} {st : List rk_V} {Z : rk_Z} {I : rk_Mm} {R : rk_Rm} {idx a : Nat} {x : Int32} (hl : Cond.fieldLink M.1.cls idx RX2 "length" "I" ∈ rk_tbl) (hd : decode M.2.1 pc = .ok (.putfield idx, 3)) (kk : ∀ I', I' = rk_uI I 3 a 2 x → rk_Wp w l M d mc ms G (pc + 3) ls (st) Z I' R) : rk_Wp w l M d mc ms G (pc) ls (rk_i x :: rk_a 3 a :: st) Z I R := rk_putI 3 3 2 2 tyX2 (by decide) rfl rfl (C := RX2) (T := TX2) (N := 7) (ty := .int) rfl (by decide) rfl rk_u3 tyX2_ok nmX2 rfl rfl (by decide +kernel) rfl rfl hl hd kk
theorem rk_g3_3 {w : rk_W} {l : Launch} {M : rk_M} {d mc ms : Nat} {G : List Frame → Array Value → State → State → Prop} {pc : Nat} {ls : List (Nat × rk_V)} {st : List rk_V} {Z : rk_Z} {I : rk_Mm} {R : rk_Rm} {idx a : Nat} (hl : Cond.fieldLink M.1.cls idx RX2 "wanted" "I" ∈ rk_tbl) (hd : decode M.2.1 pc = .ok (.getfield idx, 3)) (kk : rk_Wp w l M d mc ms G (pc + 3) ls (rk_i (I 3 a 3) :: st) Z I R) : rk_Wp w l M d mc ms G (pc) ls (rk_a 3 a :: st) Z I R := rk_getI 3 3 2 3 (by decide) rfl rfl (C := RX2) (T := TX2) (N := 7) rfl (by decide) rfl rk_u3 rfl hl hd kk
theorem rk_p3_3 {w : rk_W} {l : Launch} {M : rk_M} {d mc ms : Nat} {G : List Frame → Array Value → State → State → Prop} {pc : Nat} {ls : List (Nat × rk_V)} {st : List rk_V} {Z : rk_Z} {I : rk_Mm} {R : rk_Rm} {idx a : Nat} {x : Int32} (hl : Cond.fieldLink M.1.cls idx RX2 "wanted" "I" ∈ rk_tbl) (hd : decode M.2.1 pc = .ok (.putfield idx, 3)) (kk : ∀ I', I' = rk_uI I 3 a 3 x → rk_Wp w l M d mc ms G (pc + 3) ls (st) Z I' R) : rk_Wp w l M d mc ms G (pc) ls (rk_i x :: rk_a 3 a :: st) Z I R := rk_putI 3 3 2 3 tyX2 (by decide) rfl rfl (C := RX2) (T := TX2) (N := 7) (ty := .int) rfl (by decide) rfl rk_u3 tyX2_ok nmX2 rfl rfl (by decide +kernel) rfl rfl hl hd kk
theorem rk_g3_4 {w : rk_W} {l : Launch} {M : rk_M} {d mc ms : Nat} {G : List Frame → Array Value → State → State → Prop} {pc : Nat} {ls : List (Nat × rk_V)} {st : List rk_V} {Z : rk_Z} {I : rk_Mm} {R : rk_Rm} {idx a : Nat} (hl : Cond.fieldLink M.1.cls idx RX2 "splicesAllowed" "Z" ∈ rk_tbl) (hd : decode M.2.1 pc = .ok (.getfield idx, 3)) (kk : rk_Wp w l M d mc ms G (pc + 3) ls (rk_i (I 3 a 4) :: st) Z I R) : rk_Wp w l M d mc ms G (pc) ls (rk_a 3 a :: st) Z I R := rk_getI 3 3 2 4 (by decide) rfl rfl (C := RX2) (T := TX2) (N := 7) rfl (by decide) rfl rk_u3 rfl hl hd kk
theorem rk_p3_4 {w : rk_W} {l : Launch} {M : rk_M} {d mc ms : Nat} {G : List Frame → Array Value → State → State → Prop} {pc : Nat} {ls : List (Nat × rk_V)} {st : List rk_V} {Z : rk_Z} {I : rk_Mm} {R : rk_Rm} {idx a : Nat} {x : Int32} (hl : Cond.fieldLink M.1.cls idx RX2 "splicesAllowed" "Z" ∈ rk_tbl) (hb : x = 0 ∨ x = 1) (hd : decode M.2.1 pc = .ok (.putfield idx, 3)) (kk : ∀ I', I' = rk_uI I 3 a 4 x → rk_Wp w l M d mc ms G (pc + 3) ls (st) Z I' R) : rk_Wp w l M d mc ms G (pc) ls (rk_i x :: rk_a 3 a :: st) Z I R := rk_putI 3 3 2 4 tyX2 (by decide) rfl rfl (C := RX2) (T := TX2) (N := 7) (ty := .boolean) rfl (by decide) rfl rk_u3 tyX2_ok nmX2 rfl rfl (by decide +kernel) (by rcases hb with rfl | rfl <;> rfl) (by rcases hb with rfl | rfl <;> rfl) hl hd kk
theorem rk_g3_5 {w : rk_W} {l : Launch} {M : rk_M} {d mc ms : Nat} {G : List Frame → Array Value → State → State → Prop} {pc : Nat} {ls : List (Nat × rk_V)} {st : List rk_V} {Z : rk_Z} {I : rk_Mm} {R : rk_Rm} {idx a : Nat} (hl : Cond.fieldLink M.1.cls idx RX2 "due" "I" ∈ rk_tbl) (hd : decode M.2.1 pc = .ok (.getfield idx, 3)) (kk : rk_Wp w l M d mc ms G (pc + 3) ls (rk_i (I 3 a 5) :: st) Z I R) : rk_Wp w l M d mc ms G (pc) ls (rk_a 3 a :: st) Z I R := rk_getI 3 3 2 5 (by decide) rfl rfl (C := RX2) (T := TX2) (N := 7) rfl (by decide) rfl rk_u3 rfl hl hd kk
theorem rk_p3_5 {w : rk_W} {l : Launch} {M : rk_M} {d mc ms : Nat} {G : List Frame → Array Value → State → State → Prop} {pc : Nat} {ls : List (Nat × rk_V)} {st : List rk_V} {Z : rk_Z} {I : rk_Mm} {R : rk_Rm} {idx a : Nat} {x : Int32} (hl : Cond.fieldLink M.1.cls idx RX2 "due" "I" ∈ rk_tbl) (hd : decode M.2.1 pc = .ok (.putfield idx, 3)) (kk : ∀ I', I' = rk_uI I 3 a 5 x → rk_Wp w l M d mc ms G (pc + 3) ls (st) Z I' R) : rk_Wp w l M d mc ms G (pc) ls (rk_i x :: rk_a 3 a :: st) Z I R := rk_putI 3 3 2 5 tyX2 (by decide) rfl rfl (C := RX2) (T := TX2) (N := 7) (ty := .int) rfl (by decide) rfl rk_u3 tyX2_ok nmX2 rfl rfl (by decide +kernel) rfl rfl hl hd kk
theorem rk_g3_6 {w : rk_W} {l : Launch} {M : rk_M} {d mc ms : Nat} {G : List Frame → Array Value → State → State → Prop} {pc : Nat} {ls : List (Nat × rk_V)} {st : List rk_V} {Z : rk_Z} {I : rk_Mm} {R : rk_Rm} {idx a : Nat} (hl : Cond.fieldLink M.1.cls idx RX2 "price" "I" ∈ rk_tbl) (hd : decode M.2.1 pc = .ok (.getfield idx, 3)) (kk : rk_Wp w l M d mc ms G (pc + 3) ls (rk_i (I 3 a 6) :: st) Z I R) : rk_Wp w l M d mc ms G (pc) ls (rk_a 3 a :: st) Z I R := rk_getI 3 3 2 6 (by decide) rfl rfl (C := RX2) (T := TX2) (N := 7) rfl (by decide) rfl rk_u3 rfl hl hd kk
theorem rk_p3_6 {w : rk_W} {l : Launch} {M : rk_M} {d mc ms : Nat} {G : List Frame → Array Value → State → State → Prop} {pc : Nat} {ls : List (Nat × rk_V)} {st : List rk_V} {Z : rk_Z} {I : rk_Mm} {R : rk_Rm} {idx a : Nat} {x : Int32} (hl : Cond.fieldLink M.1.cls idx RX2 "price" "I" ∈ rk_tbl) (hd : decode M.2.1 pc = .ok (.putfield idx, 3)) (kk : ∀ I', I' = rk_uI I 3 a 6 x → rk_Wp w l M d mc ms G (pc + 3) ls (st) Z I' R) : rk_Wp w l M d mc ms G (pc) ls (rk_i x :: rk_a 3 a :: st) Z I R := rk_putI 3 3 2 6 tyX2 (by decide) rfl rfl (C := RX2) (T := TX2) (N := 7) (ty := .int) rfl (by decide) rfl rk_u3 tyX2_ok nmX2 rfl rfl (by decide +kernel) rfl rfl hl hd kk
theorem rk_g4_0 {w : rk_W} {l : Launch} {M : rk_M} {d mc ms : Nat} {G : List Frame → Array Value → State → State → Prop} {pc : Nat} {ls : List (Nat × rk_V)} {st : List rk_V} {Z : rk_Z} {I : rk_Mm} {R : rk_Rm} {idx a : Nat} (hl : Cond.fieldLink M.1.cls idx RX3 "signs" "[C" ∈ rk_tbl) (hd : decode M.2.1 pc = .ok (.getfield idx, 3)) (kk : rk_Wp w l M d mc ms G (pc + 3) ls (rk_a 15 (R 4 a 0) :: st) Z I R) : rk_Wp w l M d mc ms G (pc) ls (rk_a 4 a :: st) Z I R := rk_getR 4 4 3 0 15 (by decide) rfl rfl (C := RX3) (T := TX3) (N := 2) rfl (by decide) rfl (by decide) rk_u4 rfl hl hd kk
theorem rk_g4_1 {w : rk_W} {l : Launch} {M : rk_M} {d mc ms : Nat} {G : List Frame → Array Value → State → State → Prop} {pc : Nat} {ls : List (Nat × rk_V)} {st : List rk_V} {Z : rk_Z} {I : rk_Mm} {R : rk_Rm} {idx a : Nat} (hl : Cond.fieldLink M.1.cls idx RX3 "length" "I" ∈ rk_tbl) (hd : decode M.2.1 pc = .ok (.getfield idx, 3)) (kk : rk_Wp w l M d mc ms G (pc + 3) ls (rk_i (I 4 a 1) :: st) Z I R) : rk_Wp w l M d mc ms G (pc) ls (rk_a 4 a :: st) Z I R := rk_getI 4 4 3 1 (by decide) rfl rfl (C := RX3) (T := TX3) (N := 2) rfl (by decide) rfl rk_u4 rfl hl hd kk
theorem rk_p4_1 {w : rk_W} {l : Launch} {M : rk_M} {d mc ms : Nat} {G : List Frame → Array Value → State → State → Prop} {pc : Nat} {ls : List (Nat × rk_V)} {st : List rk_V} {Z : rk_Z} {I : rk_Mm} {R : rk_Rm} {idx a : Nat} {x : Int32} (hl : Cond.fieldLink M.1.cls idx RX3 "length" "I" ∈ rk_tbl) (hd : decode M.2.1 pc = .ok (.putfield idx, 3)) (kk : ∀ I', I' = rk_uI I 4 a 1 x → rk_Wp w l M d mc ms G (pc + 3) ls (st) Z I' R) : rk_Wp w l M d mc ms G (pc) ls (rk_i x :: rk_a 4 a :: st) Z I R := rk_putI 4 4 3 1 tyX3 (by decide) rfl rfl (C := RX3) (T := TX3) (N := 2) (ty := .int) rfl (by decide) rfl rk_u4 tyX3_ok nmX3 rfl rfl (by decide +kernel) rfl rfl hl hd kk
theorem rk_g5_0 {w : rk_W} {l : Launch} {M : rk_M} {d mc ms : Nat} {G : List Frame → Array Value → State → State → Prop} {pc : Nat} {ls : List (Nat × rk_V)} {st : List rk_V} {Z : rk_Z} {I : rk_Mm} {R : rk_Rm} {idx a : Nat} (hl : Cond.fieldLink M.1.cls idx RX4 "fibre" "I" ∈ rk_tbl) (hd : decode M.2.1 pc = .ok (.getfield idx, 3)) (kk : rk_Wp w l M d mc ms G (pc + 3) ls (rk_i (I 5 a 0) :: st) Z I R) : rk_Wp w l M d mc ms G (pc) ls (rk_a 5 a :: st) Z I R := rk_getI 5 5 4 0 (by decide) rfl rfl (C := RX4) (T := TX4) (N := 7) rfl (by decide) rfl rk_u5 rfl hl hd kk
theorem rk_p5_0 {w : rk_W} {l : Launch} {M : rk_M} {d mc ms : Nat} {G : List Frame → Array Value → State → State → Prop} {pc : Nat} {ls : List (Nat × rk_V)} {st : List rk_V} {Z : rk_Z} {I : rk_Mm} {R : rk_Rm} {idx a : Nat} {x : Int32} (hl : Cond.fieldLink M.1.cls idx RX4 "fibre" "I" ∈ rk_tbl) (hd : decode M.2.1 pc = .ok (.putfield idx, 3)) (kk : ∀ I', I' = rk_uI I 5 a 0 x → rk_Wp w l M d mc ms G (pc + 3) ls (st) Z I' R) : rk_Wp w l M d mc ms G (pc) ls (rk_i x :: rk_a 5 a :: st) Z I R := rk_putI 5 5 4 0 tyX4 (by decide) rfl rfl (C := RX4) (T := TX4) (N := 7) (ty := .int) rfl (by decide) rfl rk_u5 tyX4_ok nmX4 rfl rfl (by decide +kernel) rfl rfl hl hd kk
theorem rk_g5_1 {w : rk_W} {l : Launch} {M : rk_M} {d mc ms : Nat} {G : List Frame → Array Value → State → State → Prop} {pc : Nat} {ls : List (Nat × rk_V)} {st : List rk_V} {Z : rk_Z} {I : rk_Mm} {R : rk_Rm} {idx a : Nat} (hl : Cond.fieldLink M.1.cls idx RX4 "strands" "I" ∈ rk_tbl) (hd : decode M.2.1 pc = .ok (.getfield idx, 3)) (kk : rk_Wp w l M d mc ms G (pc + 3) ls (rk_i (I 5 a 1) :: st) Z I R) : rk_Wp w l M d mc ms G (pc) ls (rk_a 5 a :: st) Z I R := rk_getI 5 5 4 1 (by decide) rfl rfl (C := RX4) (T := TX4) (N := 7) rfl (by decide) rfl rk_u5 rfl hl hd kk
theorem rk_p5_1 {w : rk_W} {l : Launch} {M : rk_M} {d mc ms : Nat} {G : List Frame → Array Value → State → State → Prop} {pc : Nat} {ls : List (Nat × rk_V)} {st : List rk_V} {Z : rk_Z} {I : rk_Mm} {R : rk_Rm} {idx a : Nat} {x : Int32} (hl : Cond.fieldLink M.1.cls idx RX4 "strands" "I" ∈ rk_tbl) (hd : decode M.2.1 pc = .ok (.putfield idx, 3)) (kk : ∀ I', I' = rk_uI I 5 a 1 x → rk_Wp w l M d mc ms G (pc + 3) ls (st) Z I' R) : rk_Wp w l M d mc ms G (pc) ls (rk_i x :: rk_a 5 a :: st) Z I R := rk_putI 5 5 4 1 tyX4 (by decide) rfl rfl (C := RX4) (T := TX4) (N := 7) (ty := .int) rfl (by decide) rfl rk_u5 tyX4_ok nmX4 rfl rfl (by decide +kernel) rfl rfl hl hd kk
theorem rk_g5_2 {w : rk_W} {l : Launch} {M : rk_M} {d mc ms : Nat} {G : List Frame → Array Value → State → State → Prop} {pc : Nat} {ls : List (Nat × rk_V)} {st : List rk_V} {Z : rk_Z} {I : rk_Mm} {R : rk_Rm} {idx a : Nat} (hl : Cond.fieldLink M.1.cls idx RX4 "yarns" "I" ∈ rk_tbl) (hd : decode M.2.1 pc = .ok (.getfield idx, 3)) (kk : rk_Wp w l M d mc ms G (pc + 3) ls (rk_i (I 5 a 2) :: st) Z I R) : rk_Wp w l M d mc ms G (pc) ls (rk_a 5 a :: st) Z I R := rk_getI 5 5 4 2 (by decide) rfl rfl (C := RX4) (T := TX4) (N := 7) rfl (by decide) rfl rk_u5 rfl hl hd kk
theorem rk_p5_2 {w : rk_W} {l : Launch} {M : rk_M} {d mc ms : Nat} {G : List Frame → Array Value → State → State → Prop} {pc : Nat} {ls : List (Nat × rk_V)} {st : List rk_V} {Z : rk_Z} {I : rk_Mm} {R : rk_Rm} {idx a : Nat} {x : Int32} (hl : Cond.fieldLink M.1.cls idx RX4 "yarns" "I" ∈ rk_tbl) (hd : decode M.2.1 pc = .ok (.putfield idx, 3)) (kk : ∀ I', I' = rk_uI I 5 a 2 x → rk_Wp w l M d mc ms G (pc + 3) ls (st) Z I' R) : rk_Wp w l M d mc ms G (pc) ls (rk_i x :: rk_a 5 a :: st) Z I R := rk_putI 5 5 4 2 tyX4 (by decide) rfl rfl (C := RX4) (T := TX4) (N := 7) (ty := .int) rfl (by decide) rfl rk_u5 tyX4_ok nmX4 rfl rfl (by decide +kernel) rfl rfl hl hd kk
theorem rk_g5_3 {w : rk_W} {l : Launch} {M : rk_M} {d mc ms : Nat} {G : List Frame → Array Value → State → State → Prop} {pc : Nat} {ls : List (Nat × rk_V)} {st : List rk_V} {Z : rk_Z} {I : rk_Mm} {R : rk_Rm} {idx a : Nat} (hl : Cond.fieldLink M.1.cls idx RX4 "length" "I" ∈ rk_tbl) (hd : decode M.2.1 pc = .ok (.getfield idx, 3)) (kk : rk_Wp w l M d mc ms G (pc + 3) ls (rk_i (I 5 a 3) :: st) Z I R) : rk_Wp w l M d mc ms G (pc) ls (rk_a 5 a :: st) Z I R := rk_getI 5 5 4 3 (by decide) rfl rfl (C := RX4) (T := TX4) (N := 7) rfl (by decide) rfl rk_u5 rfl hl hd kk
theorem rk_p5_3 {w : rk_W} {l : Launch} {M : rk_M} {d mc ms : Nat} {G : List Frame → Array Value → State → State → Prop} {pc : Nat} {ls : List (Nat × rk_V)} {st : List rk_V} {Z : rk_Z} {I : rk_Mm} {R : rk_Rm} {idx a : Nat} {x : Int32} (hl : Cond.fieldLink M.1.cls idx RX4 "length" "I" ∈ rk_tbl) (hd : decode M.2.1 pc = .ok (.putfield idx, 3)) (kk : ∀ I', I' = rk_uI I 5 a 3 x → rk_Wp w l M d mc ms G (pc + 3) ls (st) Z I' R) : rk_Wp w l M d mc ms G (pc) ls (rk_i x :: rk_a 5 a :: st) Z I R := rk_putI 5 5 4 3 tyX4 (by decide) rfl rfl (C := RX4) (T := TX4) (N := 7) (ty := .int) rfl (by decide) rfl rk_u5 tyX4_ok nmX4 rfl rfl (by decide +kernel) rfl rfl hl hd kk
theorem rk_g5_4 {w : rk_W} {l : Launch} {M : rk_M} {d mc ms : Nat} {G : List Frame → Array Value → State → State → Prop} {pc : Nat} {ls : List (Nat × rk_V)} {st : List rk_V} {Z : rk_Z} {I : rk_Mm} {R : rk_Rm} {idx a : Nat} (hl : Cond.fieldLink M.1.cls idx RX4 "yarn" "I" ∈ rk_tbl) (hd : decode M.2.1 pc = .ok (.getfield idx, 3)) (kk : rk_Wp w l M d mc ms G (pc + 3) ls (rk_i (I 5 a 4) :: st) Z I R) : rk_Wp w l M d mc ms G (pc) ls (rk_a 5 a :: st) Z I R := rk_getI 5 5 4 4 (by decide) rfl rfl (C := RX4) (T := TX4) (N := 7) rfl (by decide) rfl rk_u5 rfl hl hd kk
theorem rk_p5_4 {w : rk_W} {l : Launch} {M : rk_M} {d mc ms : Nat} {G : List Frame → Array Value → State → State → Prop} {pc : Nat} {ls : List (Nat × rk_V)} {st : List rk_V} {Z : rk_Z} {I : rk_Mm} {R : rk_Rm} {idx a : Nat} {x : Int32} (hl : Cond.fieldLink M.1.cls idx RX4 "yarn" "I" ∈ rk_tbl) (hd : decode M.2.1 pc = .ok (.putfield idx, 3)) (kk : ∀ I', I' = rk_uI I 5 a 4 x → rk_Wp w l M d mc ms G (pc + 3) ls (st) Z I' R) : rk_Wp w l M d mc ms G (pc) ls (rk_i x :: rk_a 5 a :: st) Z I R := rk_putI 5 5 4 4 tyX4 (by decide) rfl rfl (C := RX4) (T := TX4) (N := 7) (ty := .int) rfl (by decide) rfl rk_u5 tyX4_ok nmX4 rfl rfl (by decide +kernel) rfl rfl hl hd kk
theorem rk_g5_5 {w : rk_W} {l : Launch} {M : rk_M} {d mc ms : Nat} {G : List Frame → Array Value → State → State → Prop} {pc : Nat} {ls : List (Nat × rk_V)} {st : List rk_V} {Z : rk_Z} {I : rk_Mm} {R : rk_Rm} {idx a : Nat} (hl : Cond.fieldLink M.1.cls idx RX4 "quality" "I" ∈ rk_tbl) (hd : decode M.2.1 pc = .ok (.getfield idx, 3)) (kk : rk_Wp w l M d mc ms G (pc + 3) ls (rk_i (I 5 a 5) :: st) Z I R) : rk_Wp w l M d mc ms G (pc) ls (rk_a 5 a :: st) Z I R := rk_getI 5 5 4 5 (by decide) rfl rfl (C := RX4) (T := TX4) (N := 7) rfl (by decide) rfl rk_u5 rfl hl hd kk
theorem rk_p5_5 {w : rk_W} {l : Launch} {M : rk_M} {d mc ms : Nat} {G : List Frame → Array Value → State → State → Prop} {pc : Nat} {ls : List (Nat × rk_V)} {st : List rk_V} {Z : rk_Z} {I : rk_Mm} {R : rk_Rm} {idx a : Nat} {x : Int32} (hl : Cond.fieldLink M.1.cls idx RX4 "quality" "I" ∈ rk_tbl) (hd : decode M.2.1 pc = .ok (.putfield idx, 3)) (kk : ∀ I', I' = rk_uI I 5 a 5 x → rk_Wp w l M d mc ms G (pc + 3) ls (st) Z I' R) : rk_Wp w l M d mc ms G (pc) ls (rk_i x :: rk_a 5 a :: st) Z I R := rk_putI 5 5 4 5 tyX4 (by decide) rfl rfl (C := RX4) (T := TX4) (N := 7) (ty := .int) rfl (by decide) rfl rk_u5 tyX4_ok nmX4 rfl rfl (by decide +kernel) rfl rfl hl hd kk
theorem rk_g5_6 {w : rk_W} {l : Launch} {M : rk_M} {d mc ms : Nat} {G : List Frame → Array Value → State → State → Prop} {pc : Nat} {ls : List (Nat × rk_V)} {st : List rk_V} {Z : rk_Z} {I : rk_Mm} {R : rk_Rm} {idx a : Nat} (hl : Cond.fieldLink M.1.cls idx RX4 "splices" "I" ∈ rk_tbl) (hd : decode M.2.1 pc = .ok (.getfield idx, 3)) (kk : rk_Wp w l M d mc ms G (pc + 3) ls (rk_i (I 5 a 6) :: st) Z I R) : rk_Wp w l M d mc ms G (pc) ls (rk_a 5 a :: st) Z I R := rk_getI 5 5 4 6 (by decide) rfl rfl (C := RX4) (T := TX4) (N := 7) rfl (by decide) rfl rk_u5 rfl hl hd kk
theorem rk_p5_6 {w : rk_W} {l : Launch} {M : rk_M} {d mc ms : Nat} {G : List Frame → Array Value → State → State → Prop} {pc : Nat} {ls : List (Nat × rk_V)} {st : List rk_V} {Z : rk_Z} {I : rk_Mm} {R : rk_Rm} {idx a : Nat} {x : Int32} (hl : Cond.fieldLink M.1.cls idx RX4 "splices" "I" ∈ rk_tbl) (hd : decode M.2.1 pc = .ok (.putfield idx, 3)) (kk : ∀ I', I' = rk_uI I 5 a 6 x → rk_Wp w l M d mc ms G (pc + 3) ls (st) Z I' R) : rk_Wp w l M d mc ms G (pc) ls (rk_i x :: rk_a 5 a :: st) Z I R := rk_putI 5 5 4 6 tyX4 (by decide) rfl rfl (C := RX4) (T := TX4) (N := 7) (ty := .int) rfl (by decide) rfl rk_u5 tyX4_ok nmX4 rfl rfl (by decide +kernel) rfl rfl hl hd kk
theorem rk_g6_0 {w : rk_W} {l : Launch} {M : rk_M} {d mc ms : Nat} {G : List Frame → Array Value → State → State → Prop} {pc : Nat} {ls : List (Nat × rk_V)} {st : List rk_V} {Z : rk_Z} {I : rk_Mm} {R : rk_Rm} {idx a : Nat} (hl : Cond.fieldLink M.1.cls idx RX5 "pad" "LRopeWalk$Pad;" ∈ rk_tbl) (hd : decode M.2.1 pc = .ok (.getfield idx, 3)) (kk : rk_Wp w l M d mc ms G (pc + 3) ls (rk_a 4 (R 6 a 0) :: st) Z I R) : rk_Wp w l M d mc ms G (pc) ls (rk_a 6 a :: st) Z I R := rk_getR 6 6 5 0 4 (by decide) rfl rfl (C := RX5) (T := TX5) (N := 5) rfl (by decide) rfl (by decide) rk_u6 rfl hl hd kk
theorem rk_g6_1 {w : rk_W} {l : Launch} {M : rk_M} {d mc ms : Nat} {G : List Frame → Array Value → State → State → Prop} {pc : Nat} {ls : List (Nat × rk_V)} {st : List rk_V} {Z : rk_Z} {I : rk_Mm} {R : rk_Rm} {idx a : Nat} (hl : Cond.fieldLink M.1.cls idx RX5 "at" "I" ∈ rk_tbl) (hd : decode M.2.1 pc = .ok (.getfield idx, 3)) (kk : rk_Wp w l M d mc ms G (pc + 3) ls (rk_i (I 6 a 1) :: st) Z I R) : rk_Wp w l M d mc ms G (pc) ls (rk_a 6 a :: st) Z I R := rk_getI 6 6 5 1 (by decide) rfl rfl (C := RX5) (T := TX5) (N := 5) rfl (by decide) rfl rk_u6 rfl hl hd kk
theorem rk_p6_1 {w : rk_W} {l : Launch} {M : rk_M} {d mc ms : Nat} {G : List Frame → Array Value → State → State → Prop} {pc : Nat} {ls : List (Nat × rk_V)} {st : List rk_V} {Z : rk_Z} {I : rk_Mm} {R : rk_Rm} {idx a : Nat} {x : Int32} (hl : Cond.fieldLink M.1.cls idx RX5 "at" "I" ∈ rk_tbl) (hd : decode M.2.1 pc = .ok (.putfield idx, 3)) (kk : ∀ I', I' = rk_uI I 6 a 1 x → rk_Wp w l M d mc ms G (pc + 3) ls (st) Z I' R) : rk_Wp w l M d mc ms G (pc) ls (rk_i x :: rk_a 6 a :: st) Z I R := rk_putI 6 6 5 1 tyX5 (by decide) rfl rfl (C := RX5) (T := TX5) (N := 5) (ty := .int) rfl (by decide) rfl rk_u6 tyX5_ok nmX5 rfl rfl (by decide +kernel) rfl rfl hl hd kk
theorem rk_g6_2 {w : rk_W} {l : Launch} {M : rk_M} {d mc ms : Nat} {G : List Frame → Array Value → State → State → Prop} {pc : Nat} {ls : List (Nat × rk_V)} {st : List rk_V} {Z : rk_Z} {I : rk_Mm} {R : rk_Rm} {idx a : Nat} (hl : Cond.fieldLink M.1.cls idx RX5 "kind" "I" ∈ rk_tbl) (hd : decode M.2.1 pc = .ok (.getfield idx, 3)) (kk : rk_Wp w l M d mc ms G (pc + 3) ls (rk_i (I 6 a 2) :: st) Z I R) : rk_Wp w l M d mc ms G (pc) ls (rk_a 6 a :: st) Z I R := rk_getI 6 6 5 2 (by decide) rfl rfl (C := RX5) (T := TX5) (N := 5) rfl (by decide) rfl rk_u6 rfl hl hd kk
theorem rk_p6_2 {w : rk_W} {l : Launch} {M : rk_M} {d mc ms : Nat} {G : List Frame → Array Value → State → State → Prop} {pc : Nat} {ls : List (Nat × rk_V)} {st : List rk_V} {Z : rk_Z} {I : rk_Mm} {R : rk_Rm} {idx a : Nat} {x : Int32} (hl : Cond.fieldLink M.1.cls idx RX5 "kind" "I" ∈ rk_tbl) (hd : decode M.2.1 pc = .ok (.putfield idx, 3)) (kk : ∀ I', I' = rk_uI I 6 a 2 x → rk_Wp w l M d mc ms G (pc + 3) ls (st) Z I' R) : rk_Wp w l M d mc ms G (pc) ls (rk_i x :: rk_a 6 a :: st) Z I R := rk_putI 6 6 5 2 tyX5 (by decide) rfl rfl (C := RX5) (T := TX5) (N := 5) (ty := .int) rfl (by decide) rfl rk_u6 tyX5_ok nmX5 rfl rfl (by decide +kernel) rfl rfl hl hd kk
theorem rk_g6_3 {w : rk_W} {l : Launch} {M : rk_M} {d mc ms : Nat} {G : List Frame → Array Value → State → State → Prop} {pc : Nat} {ls : List (Nat × rk_V)} {st : List rk_V} {Z : rk_Z} {I : rk_Mm} {R : rk_Rm} {idx a : Nat} (hl : Cond.fieldLink M.1.cls idx RX5 "numbers" "[I" ∈ rk_tbl) (hd : decode M.2.1 pc = .ok (.getfield idx, 3)) (kk : rk_Wp w l M d mc ms G (pc + 3) ls (rk_a 16 (R 6 a 3) :: st) Z I R) : rk_Wp w l M d mc ms G (pc) ls (rk_a 6 a :: st) Z I R := rk_getR 6 6 5 3 16 (by decide) rfl rfl (C := RX5) (T := TX5) (N := 5) rfl (by decide) rfl (by decide) rk_u6 rfl hl hd kk
theorem rk_g6_4 {w : rk_W} {l : Launch} {M : rk_M} {d mc ms : Nat} {G : List Frame → Array Value → State → State → Prop} {pc : Nat} {ls : List (Nat × rk_V)} {st : List rk_V} {Z : rk_Z} {I : rk_Mm} {R : rk_Rm} {idx a : Nat} (hl : Cond.fieldLink M.1.cls idx RX5 "found" "I" ∈ rk_tbl) (hd : decode M.2.1 pc = .ok (.getfield idx, 3)) (kk : rk_Wp w l M d mc ms G (pc + 3) ls (rk_i (I 6 a 4) :: st) Z I R) : rk_Wp w l M d mc ms G (pc) ls (rk_a 6 a :: st) Z I R := rk_getI 6 6 5 4 (by decide) rfl rfl (C := RX5) (T := TX5) (N := 5) rfl (by decide) rfl rk_u6 rfl hl hd kk
theorem rk_p6_4 {w : rk_W} {l : Launch} {M : rk_M} {d mc ms : Nat} {G : List Frame → Array Value → State → State → Prop} {pc : Nat} {ls : List (Nat × rk_V)} {st : List rk_V} {Z : rk_Z} {I : rk_Mm} {R : rk_Rm} {idx a : Nat} {x : Int32} (hl : Cond.fieldLink M.1.cls idx RX5 "found" "I" ∈ rk_tbl) (hd : decode M.2.1 pc = .ok (.putfield idx, 3)) (kk : ∀ I', I' = rk_uI I 6 a 4 x → rk_Wp w l M d mc ms G (pc + 3) ls (st) Z I' R) : rk_Wp w l M d mc ms G (pc) ls (rk_i x :: rk_a 6 a :: st) Z I R := rk_putI 6 6 5 4 tyX5 (by decide) rfl rfl (C := RX5) (T := TX5) (N := 5) (ty := .int) rfl (by decide) rfl rk_u6 tyX5_ok nmX5 rfl rfl (by decide +kernel) rfl rfl hl hd kk
theorem rk_g7_0 {w : rk_W} {l : Launch} {M : rk_M} {d mc ms : Nat} {G : List Frame → Array Value → State → State → Prop} {pc : Nat} {ls : List (Nat × rk_V)} {st : List rk_V} {Z : rk_Z} {I : rk_Mm} {R : rk_Rm} {idx a : Nat} (hl : Cond.fieldLink M.1.cls idx RX6 "settings" "[I" ∈ rk_tbl) (hd : decode M.2.1 pc = .ok (.getfield idx, 3)) (kk : rk_Wp w l M d mc ms G (pc + 3) ls (rk_a 17 (R 7 a 0) :: st) Z I R) : rk_Wp w l M d mc ms G (pc) ls (rk_a 7 a :: st) Z I R := rk_getR 7 7 6 0 17 (by decide) rfl rfl (C := RX6) (T := TX6) (N := 3) rfl (by decide) rfl (by decide) rk_u7 rfl hl hd kk
theorem rk_g7_1 {w : rk_W} {l : Launch} {M : rk_M} {d mc ms : Nat} {G : List Frame → Array Value → State → State → Prop} {pc : Nat} {ls : List (Nat × rk_V)} {st : List rk_V} {Z : rk_Z} {I : rk_Mm} {R : rk_Rm} {idx a : Nat} (hl : Cond.fieldLink M.1.cls idx RX6 "strengths" "[I" ∈ rk_tbl) (hd : decode M.2.1 pc = .ok (.getfield idx, 3)) (kk : rk_Wp w l M d mc ms G (pc + 3) ls (rk_a 18 (R 7 a 1) :: st) Z I R) : rk_Wp w l M d mc ms G (pc) ls (rk_a 7 a :: st) Z I R := rk_getR 7 7 6 1 18 (by decide) rfl rfl (C := RX6) (T := TX6) (N := 3) rfl (by decide) rfl (by decide) rk_u7 rfl hl hd kk
theorem rk_g7_2 {w : rk_W} {l : Launch} {M : rk_M} {d mc ms : Nat} {G : List Frame → Array Value → State → State → Prop} {pc : Nat} {ls : List (Nat × rk_V)} {st : List rk_V} {Z : rk_Z} {I : rk_Mm} {R : rk_Rm} {idx a : Nat} (hl : Cond.fieldLink M.1.cls idx RX6 "twists" "[I" ∈ rk_tbl) (hd : decode M.2.1 pc = .ok (.getfield idx, 3)) (kk : rk_Wp w l M d mc ms G (pc + 3) ls (rk_a 19 (R 7 a 2) :: st) Z I R) : rk_Wp w l M d mc ms G (pc) ls (rk_a 7 a :: st) Z I R := rk_getR 7 7 6 2 19 (by decide) rfl rfl (C := RX6) (T := TX6) (N := 3) rfl (by decide) rfl (by decide) rk_u7 rfl hl hd kk
theorem rk_g8_0 {w : rk_W} {l : Launch} {M : rk_M} {d mc ms : Nat} {G : List Frame → Array Value → State → State → Prop} {pc : Nat} {ls : List (Nat × rk_V)} {st : List rk_V} {Z : rk_Z} {I : rk_Mm} {R : rk_Rm} {idx a : Nat} (hl : Cond.fieldLink M.1.cls idx RX7 "pieces" "[LRopeWalk$Piece;" ∈ rk_tbl) (hd : decode M.2.1 pc = .ok (.getfield idx, 3)) (kk : rk_Wp w l M d mc ms G (pc + 3) ls (rk_a 20 (R 8 a 0) :: st) Z I R) : rk_Wp w l M d mc ms G (pc) ls (rk_a 8 a :: st) Z I R := rk_getR 8 8 7 0 20 (by decide) rfl rfl (C := RX7) (T := TX7) (N := 3) rfl (by decide) rfl (by decide) rk_u8 rfl hl hd kk
theorem rk_g8_1 {w : rk_W} {l : Launch} {M : rk_M} {d mc ms : Nat} {G : List Frame → Array Value → State → State → Prop} {pc : Nat} {ls : List (Nat × rk_V)} {st : List rk_V} {Z : rk_Z} {I : rk_Mm} {R : rk_Rm} {idx a : Nat} (hl : Cond.fieldLink M.1.cls idx RX7 "count" "I" ∈ rk_tbl) (hd : decode M.2.1 pc = .ok (.getfield idx, 3)) (kk : rk_Wp w l M d mc ms G (pc + 3) ls (rk_i (I 8 a 1) :: st) Z I R) : rk_Wp w l M d mc ms G (pc) ls (rk_a 8 a :: st) Z I R := rk_getI 8 8 7 1 (by decide) rfl rfl (C := RX7) (T := TX7) (N := 3) rfl (by decide) rfl rk_u8 rfl hl hd kk
theorem rk_p8_1 {w : rk_W} {l : Launch} {M : rk_M} {d mc ms : Nat} {G : List Frame → Array Value → State → State → Prop} {pc : Nat} {ls : List (Nat × rk_V)} {st : List rk_V} {Z : rk_Z} {I : rk_Mm} {R : rk_Rm} {idx a : Nat} {x : Int32} (hl : Cond.fieldLink M.1.cls idx RX7 "count" "I" ∈ rk_tbl) (hd : decode M.2.1 pc = .ok (.putfield idx, 3)) (kk : ∀ I', I' = rk_uI I 8 a 1 x → rk_Wp w l M d mc ms G (pc + 3) ls (st) Z I' R) : rk_Wp w l M d mc ms G (pc) ls (rk_i x :: rk_a 8 a :: st) Z I R := rk_putI 8 8 7 1 tyX7 (by decide) rfl rfl (C := RX7) (T := TX7) (N := 3) (ty := .int) rfl (by decide) rfl rk_u8 tyX7_ok nmX7 rfl rfl (by decide +kernel) rfl rfl hl hd kk
theorem rk_g8_2 {w : rk_W} {l : Launch} {M : rk_M} {d mc ms : Nat} {G : List Frame → Array Value → State → State → Prop} {pc : Nat} {ls : List (Nat × rk_V)} {st : List rk_V} {Z : rk_Z} {I : rk_Mm} {R : rk_Rm} {idx a : Nat} (hl : Cond.fieldLink M.1.cls idx RX7 "accounts" "[[I" ∈ rk_tbl) (hd : decode M.2.1 pc = .ok (.getfield idx, 3)) (kk : rk_Wp w l M d mc ms G (pc + 3) ls (rk_a 21 (R 8 a 2) :: st) Z I R) : rk_Wp w l M d mc ms G (pc) ls (rk_a 8 a :: st) Z I R := rk_getR 8 8 7 2 21 (by decide) rfl rfl (C := RX7) (T := TX7) (N := 3) rfl (by decide) rfl (by decide) rk_u8 rfl hl hd kk
theorem rk_g9_0 {w : rk_W} {l : Launch} {M : rk_M} {d mc ms : Nat} {G : List Frame → Array Value → State → State → Prop} {pc : Nat} {ls : List (Nat × rk_V)} {st : List rk_V} {Z : rk_Z} {I : rk_Mm} {R : rk_Rm} {idx a : Nat} (hl : Cond.fieldLink M.1.cls idx RX8 "stocks" "[LRopeWalk$Stock;" ∈ rk_tbl) (hd : decode M.2.1 pc = .ok (.getfield idx, 3)) (kk : rk_Wp w l M d mc ms G (pc + 3) ls (rk_a 23 (R 9 a 0) :: st) Z I R) : rk_Wp w l M d mc ms G (pc) ls (rk_a 9 a :: st) Z I R := rk_getR 9 9 8 0 23 (by decide) rfl rfl (C := RX8) (T := TX8) (N := 3) rfl (by decide) rfl (by decide) rk_u9 rfl hl hd kk
theorem rk_g9_1 {w : rk_W} {l : Launch} {M : rk_M} {d mc ms : Nat} {G : List Frame → Array Value → State → State → Prop} {pc : Nat} {ls : List (Nat × rk_V)} {st : List rk_V} {Z : rk_Z} {I : rk_Mm} {R : rk_Rm} {idx a : Nat} (hl : Cond.fieldLink M.1.cls idx RX8 "bestMask" "I" ∈ rk_tbl) (hd : decode M.2.1 pc = .ok (.getfield idx, 3)) (kk : rk_Wp w l M d mc ms G (pc + 3) ls (rk_i (I 9 a 1) :: st) Z I R) : rk_Wp w l M d mc ms G (pc) ls (rk_a 9 a :: st) Z I R := rk_getI 9 9 8 1 (by decide) rfl rfl (C := RX8) (T := TX8) (N := 3) rfl (by decide) rfl rk_u9 rfl hl hd kk
theorem rk_p9_1 {w : rk_W} {l : Launch} {M : rk_M} {d mc ms : Nat} {G : List Frame → Array Value → State → State → Prop} {pc : Nat} {ls : List (Nat × rk_V)} {st : List rk_V} {Z : rk_Z} {I : rk_Mm} {R : rk_Rm} {idx a : Nat} {x : Int32} (hl : Cond.fieldLink M.1.cls idx RX8 "bestMask" "I" ∈ rk_tbl) (hd : decode M.2.1 pc = .ok (.putfield idx, 3)) (kk : ∀ I', I' = rk_uI I 9 a 1 x → rk_Wp w l M d mc ms G (pc + 3) ls (st) Z I' R) : rk_Wp w l M d mc ms G (pc) ls (rk_i x :: rk_a 9 a :: st) Z I R := rk_putI 9 9 8 1 tyX8 (by decide) rfl rfl (C := RX8) (T := TX8) (N := 3) (ty := .int) rfl (by decide) rfl rk_u9 tyX8_ok nmX8 rfl rfl (by decide +kernel) rfl rfl hl hd kk
theorem rk_g9_2 {w : rk_W} {l : Launch} {M : rk_M} {d mc ms : Nat} {G : List Frame → Array Value → State → State → Prop} {pc : Nat} {ls : List (Nat × rk_V)} {st : List rk_V} {Z : rk_Z} {I : rk_Mm} {R : rk_Rm} {idx a : Nat} (hl : Cond.fieldLink M.1.cls idx RX8 "bestSum" "I" ∈ rk_tbl) (hd : decode M.2.1 pc = .ok (.getfield idx, 3)) (kk : rk_Wp w l M d mc ms G (pc + 3) ls (rk_i (I 9 a 2) :: st) Z I R) : rk_Wp w l M d mc ms G (pc) ls (rk_a 9 a :: st) Z I R := rk_getI 9 9 8 2 (by decide) rfl rfl (C := RX8) (T := TX8) (N := 3) rfl (by decide) rfl rk_u9 rfl hl hd kk
theorem rk_p9_2 {w : rk_W} {l : Launch} {M : rk_M} {d mc ms : Nat} {G : List Frame → Array Value → State → State → Prop} {pc : Nat} {ls : List (Nat × rk_V)} {st : List rk_V} {Z : rk_Z} {I : rk_Mm} {R : rk_Rm} {idx a : Nat} {x : Int32} (hl : Cond.fieldLink M.1.cls idx RX8 "bestSum" "I" ∈ rk_tbl) (hd : decode M.2.1 pc = .ok (.putfield idx, 3)) (kk : ∀ I', I' = rk_uI I 9 a 2 x → rk_Wp w l M d mc ms G (pc + 3) ls (st) Z I' R) : rk_Wp w l M d mc ms G (pc) ls (rk_i x :: rk_a 9 a :: st) Z I R := rk_putI 9 9 8 2 tyX8 (by decide) rfl rfl (C := RX8) (T := TX8) (N := 3) (ty := .int) rfl (by decide) rfl rk_u9 tyX8_ok nmX8 rfl rfl (by decide +kernel) rfl rfl hl hd kk
theorem rk_g10_0 {w : rk_W} {l : Launch} {M : rk_M} {d mc ms : Nat} {G : List Frame → Array Value → State → State → Prop} {pc : Nat} {ls : List (Nat × rk_V)} {st : List rk_V} {Z : rk_Z} {I : rk_Mm} {R : rk_Rm} {idx a : Nat} (hl : Cond.fieldLink M.1.cls idx RX9 "rules" "LRopeWalk$Rules;" ∈ rk_tbl) (hd : decode M.2.1 pc = .ok (.getfield idx, 3)) (kk : rk_Wp w l M d mc ms G (pc + 3) ls (rk_a 7 (R 10 a 0) :: st) Z I R) : rk_Wp w l M d mc ms G (pc) ls (rk_a 10 a :: st) Z I R := rk_getR 10 10 9 0 7 (by decide) rfl rfl (C := RX9) (T := TX9) (N := 8) rfl (by decide) rfl (by decide) rk_u10 rfl hl hd kk
theorem rk_g10_1 {w : rk_W} {l : Launch} {M : rk_M} {d mc ms : Nat} {G : List Frame → Array Value → State → State → Prop} {pc : Nat} {ls : List (Nat × rk_V)} {st : List rk_V} {Z : rk_Z} {I : rk_Mm} {R : rk_Rm} {idx a : Nat} (hl : Cond.fieldLink M.1.cls idx RX9 "stock" "LRopeWalk$Stock;" ∈ rk_tbl) (hd : decode M.2.1 pc = .ok (.getfield idx, 3)) (kk : rk_Wp w l M d mc ms G (pc + 3) ls (rk_a 8 (R 10 a 1) :: st) Z I R) : rk_Wp w l M d mc ms G (pc) ls (rk_a 10 a :: st) Z I R := rk_getR 10 10 9 1 8 (by decide) rfl rfl (C := RX9) (T := TX9) (N := 8) rfl (by decide) rfl (by decide) rk_u10 rfl hl hd kk
theorem rk_g10_2 {w : rk_W} {l : Launch} {M : rk_M} {d mc ms : Nat} {G : List Frame → Array Value → State → State → Prop} {pc : Nat} {ls : List (Nat × rk_V)} {st : List rk_V} {Z : rk_Z} {I : rk_Mm} {R : rk_Rm} {idx a : Nat} (hl : Cond.fieldLink M.1.cls idx RX9 "book" "LRopeWalk$Book;" ∈ rk_tbl) (hd : decode M.2.1 pc = .ok (.getfield idx, 3)) (kk : rk_Wp w l M d mc ms G (pc + 3) ls (rk_a 1 (R 10 a 2) :: st) Z I R) : rk_Wp w l M d mc ms G (pc) ls (rk_a 10 a :: st) Z I R := rk_getR 10 10 9 2 1 (by decide) rfl rfl (C := RX9) (T := TX9) (N := 8) rfl (by decide) rfl (by decide) rk_u10 rfl hl hd kk
theorem rk_g10_3 {w : rk_W} {l : Launch} {M : rk_M} {d mc ms : Nat} {G : List Frame → Array Value → State → State → Prop} {pc : Nat} {ls : List (Nat × rk_V)} {st : List rk_V} {Z : rk_Z} {I : rk_Mm} {R : rk_Rm} {idx a : Nat} (hl : Cond.fieldLink M.1.cls idx RX9 "today" "I" ∈ rk_tbl) (hd : decode M.2.1 pc = .ok (.getfield idx, 3)) (kk : rk_Wp w l M d mc ms G (pc + 3) ls (rk_i (I 10 a 3) :: st) Z I R) : rk_Wp w l M d mc ms G (pc) ls (rk_a 10 a :: st) Z I R := rk_getI 10 10 9 3 (by decide) rfl rfl (C := RX9) (T := TX9) (N := 8) rfl (by decide) rfl rk_u10 rfl hl hd kk
theorem rk_p10_3 {w : rk_W} {l : Launch} {M : rk_M} {d mc ms : Nat} {G : List Frame → Array Value → State → State → Prop} {pc : Nat} {ls : List (Nat × rk_V)} {st : List rk_V} {Z : rk_Z} {I : rk_Mm} {R : rk_Rm} {idx a : Nat} {x : Int32} (hl : Cond.fieldLink M.1.cls idx RX9 "today" "I" ∈ rk_tbl) (hd : decode M.2.1 pc = .ok (.putfield idx, 3)) (kk : ∀ I', I' = rk_uI I 10 a 3 x → rk_Wp w l M d mc ms G (pc + 3) ls (st) Z I' R) : rk_Wp w l M d mc ms G (pc) ls (rk_i x :: rk_a 10 a :: st) Z I R := rk_putI 10 10 9 3 tyX9 (by decide) rfl rfl (C := RX9) (T := TX9) (N := 8) (ty := .int) rfl (by decide) rfl rk_u10 tyX9_ok nmX9 rfl rfl (by decide +kernel) rfl rfl hl hd kk
theorem rk_g10_4 {w : rk_W} {l : Launch} {M : rk_M} {d mc ms : Nat} {G : List Frame → Array Value → State → State → Prop} {pc : Nat} {ls : List (Nat × rk_V)} {st : List rk_V} {Z : rk_Z} {I : rk_Mm} {R : rk_Rm} {idx a : Nat} (hl : Cond.fieldLink M.1.cls idx RX9 "hoursUsed" "I" ∈ rk_tbl) (hd : decode M.2.1 pc = .ok (.getfield idx, 3)) (kk : rk_Wp w l M d mc ms G (pc + 3) ls (rk_i (I 10 a 4) :: st) Z I R) : rk_Wp w l M d mc ms G (pc) ls (rk_a 10 a :: st) Z I R := rk_getI 10 10 9 4 (by decide) rfl rfl (C := RX9) (T := TX9) (N := 8) rfl (by decide) rfl rk_u10 rfl hl hd kk
theorem rk_p10_4 {w : rk_W} {l : Launch} {M : rk_M} {d mc ms : Nat} {G : List Frame → Array Value → State → State → Prop} {pc : Nat} {ls : List (Nat × rk_V)} {st : List rk_V} {Z : rk_Z} {I : rk_Mm} {R : rk_Rm} {idx a : Nat} {x : Int32} (hl : Cond.fieldLink M.1.cls idx RX9 "hoursUsed" "I" ∈ rk_tbl) (hd : decode M.2.1 pc = .ok (.putfield idx, 3)) (kk : ∀ I', I' = rk_uI I 10 a 4 x → rk_Wp w l M d mc ms G (pc + 3) ls (st) Z I' R) : rk_Wp w l M d mc ms G (pc) ls (rk_i x :: rk_a 10 a :: st) Z I R := rk_putI 10 10 9 4 tyX9 (by decide) rfl rfl (C := RX9) (T := TX9) (N := 8) (ty := .int) rfl (by decide) rfl rk_u10 tyX9_ok nmX9 rfl rfl (by decide +kernel) rfl rfl hl hd kk
theorem rk_g10_5 {w : rk_W} {l : Launch} {M : rk_M} {d mc ms : Nat} {G : List Frame → Array Value → State → State → Prop} {pc : Nat} {ls : List (Nat × rk_V)} {st : List rk_V} {Z : rk_Z} {I : rk_Mm} {R : rk_Rm} {idx a : Nat} (hl : Cond.fieldLink M.1.cls idx RX9 "ropesSold" "I" ∈ rk_tbl) (hd : decode M.2.1 pc = .ok (.getfield idx, 3)) (kk : rk_Wp w l M d mc ms G (pc + 3) ls (rk_i (I 10 a 5) :: st) Z I R) : rk_Wp w l M d mc ms G (pc) ls (rk_a 10 a :: st) Z I R := rk_getI 10 10 9 5 (by decide) rfl rfl (C := RX9) (T := TX9) (N := 8) rfl (by decide) rfl rk_u10 rfl hl hd kk
theorem rk_p10_5 {w : rk_W} {l : Launch} {M : rk_M} {d mc ms : Nat} {G : List Frame → Array Value → State → State → Prop} {pc : Nat} {ls : List (Nat × rk_V)} {st : List rk_V} {Z : rk_Z} {I : rk_Mm} {R : rk_Rm} {idx a : Nat} {x : Int32} (hl : Cond.fieldLink M.1.cls idx RX9 "ropesSold" "I" ∈ rk_tbl) (hd : decode M.2.1 pc = .ok (.putfield idx, 3)) (kk : ∀ I', I' = rk_uI I 10 a 5 x → rk_Wp w l M d mc ms G (pc + 3) ls (st) Z I' R) : rk_Wp w l M d mc ms G (pc) ls (rk_i x :: rk_a 10 a :: st) Z I R := rk_putI 10 10 9 5 tyX9 (by decide) rfl rfl (C := RX9) (T := TX9) (N := 8) (ty := .int) rfl (by decide) rfl rk_u10 tyX9_ok nmX9 rfl rfl (by decide +kernel) rfl rfl hl hd kk
theorem rk_g10_6 {w : rk_W} {l : Launch} {M : rk_M} {d mc ms : Nat} {G : List Frame → Array Value → State → State → Prop} {pc : Nat} {ls : List (Nat × rk_V)} {st : List rk_V} {Z : rk_Z} {I : rk_Mm} {R : rk_Rm} {idx a : Nat} (hl : Cond.fieldLink M.1.cls idx RX9 "got" "I" ∈ rk_tbl) (hd : decode M.2.1 pc = .ok (.getfield idx, 3)) (kk : rk_Wp w l M d mc ms G (pc + 3) ls (rk_i (I 10 a 6) :: st) Z I R) : rk_Wp w l M d mc ms G (pc) ls (rk_a 10 a :: st) Z I R := rk_getI 10 10 9 6 (by decide) rfl rfl (C := RX9) (T := TX9) (N := 8) rfl (by decide) rfl rk_u10 rfl hl hd kk
theorem rk_p10_6 {w : rk_W} {l : Launch} {M : rk_M} {d mc ms : Nat} {G : List Frame → Array Value → State → State → Prop} {pc : Nat} {ls : List (Nat × rk_V)} {st : List rk_V} {Z : rk_Z} {I : rk_Mm} {R : rk_Rm} {idx a : Nat} {x : Int32} (hl : Cond.fieldLink M.1.cls idx RX9 "got" "I" ∈ rk_tbl) (hd : decode M.2.1 pc = .ok (.putfield idx, 3)) (kk : ∀ I', I' = rk_uI I 10 a 6 x → rk_Wp w l M d mc ms G (pc + 3) ls (st) Z I' R) : rk_Wp w l M d mc ms G (pc) ls (rk_i x :: rk_a 10 a :: st) Z I R := rk_putI 10 10 9 6 tyX9 (by decide) rfl rfl (C := RX9) (T := TX9) (N := 8) (ty := .int) rfl (by decide) rfl rk_u10 tyX9_ok nmX9 rfl rfl (by decide +kernel) rfl rfl hl hd kk
theorem rk_g10_7 {w : rk_W} {l : Launch} {M : rk_M} {d mc ms : Nat} {G : List Frame → Array Value → State → State → Prop} {pc : Nat} {ls : List (Nat × rk_V)} {st : List rk_V} {Z : rk_Z} {I : rk_Mm} {R : rk_Rm} {idx a : Nat} (hl : Cond.fieldLink M.1.cls idx RX9 "fines" "I" ∈ rk_tbl) (hd : decode M.2.1 pc = .ok (.getfield idx, 3)) (kk : rk_Wp w l M d mc ms G (pc + 3) ls (rk_i (I 10 a 7) :: st) Z I R) : rk_Wp w l M d mc ms G (pc) ls (rk_a 10 a :: st) Z I R := rk_getI 10 10 9 7 (by decide) rfl rfl (C := RX9) (T := TX9) (N := 8) rfl (by decide) rfl rk_u10 rfl hl hd kk
theorem rk_p10_7 {w : rk_W} {l : Launch} {M : rk_M} {d mc ms : Nat} {G : List Frame → Array Value → State → State → Prop} {pc : Nat} {ls : List (Nat × rk_V)} {st : List rk_V} {Z : rk_Z} {I : rk_Mm} {R : rk_Rm} {idx a : Nat} {x : Int32} (hl : Cond.fieldLink M.1.cls idx RX9 "fines" "I" ∈ rk_tbl) (hd : decode M.2.1 pc = .ok (.putfield idx, 3)) (kk : ∀ I', I' = rk_uI I 10 a 7 x → rk_Wp w l M d mc ms G (pc + 3) ls (st) Z I' R) : rk_Wp w l M d mc ms G (pc) ls (rk_i x :: rk_a 10 a :: st) Z I R := rk_putI 10 10 9 7 tyX9 (by decide) rfl rfl (C := RX9) (T := TX9) (N := 8) (ty := .int) rfl (by decide) rfl rk_u10 tyX9_ok nmX9 rfl rfl (by decide +kernel) rfl rfl hl hd kk
theorem rk_g11_0 {w : rk_W} {l : Launch} {M : rk_M} {d mc ms : Nat} {G : List Frame → Array Value → State → State → Prop} {pc : Nat} {ls : List (Nat × rk_V)} {st : List rk_V} {Z : rk_Z} {I : rk_Mm} {R : rk_Rm} {idx a : Nat} (hl : Cond.fieldLink M.1.cls idx RX10 "yard" "LRopeWalk$Yard;" ∈ rk_tbl) (hd : decode M.2.1 pc = .ok (.getfield idx, 3)) (kk : rk_Wp w l M d mc ms G (pc + 3) ls (rk_a 10 (R 11 a 0) :: st) Z I R) : rk_Wp w l M d mc ms G (pc) ls (rk_a 11 a :: st) Z I R := rk_getR 11 11 10 0 10 (by decide) rfl rfl (C := RX10) (T := TX10) (N := 7) rfl (by decide) rfl (by decide) rk_u11 rfl hl hd kk
theorem rk_g11_1 {w : rk_W} {l : Launch} {M : rk_M} {d mc ms : Nat} {G : List Frame → Array Value → State → State → Prop} {pc : Nat} {ls : List (Nat × rk_V)} {st : List rk_V} {Z : rk_Z} {I : rk_Mm} {R : rk_Rm} {idx a : Nat} (hl : Cond.fieldLink M.1.cls idx RX10 "history" "LRopeWalk$History;" ∈ rk_tbl) (hd : decode M.2.1 pc = .ok (.getfield idx, 3)) (kk : rk_Wp w l M d mc ms G (pc + 3) ls (rk_a 2 (R 11 a 1) :: st) Z I R) : rk_Wp w l M d mc ms G (pc) ls (rk_a 11 a :: st) Z I R := rk_getR 11 11 10 1 2 (by decide) rfl rfl (C := RX10) (T := TX10) (N := 7) rfl (by decide) rfl (by decide) rk_u11 rfl hl hd kk
theorem rk_g11_2 {w : rk_W} {l : Launch} {M : rk_M} {d mc ms : Nat} {G : List Frame → Array Value → State → State → Prop} {pc : Nat} {ls : List (Nat × rk_V)} {st : List rk_V} {Z : rk_Z} {I : rk_Mm} {R : rk_Rm} {idx a : Nat} (hl : Cond.fieldLink M.1.cls idx RX10 "slots" "[LRopeWalk$Yard;" ∈ rk_tbl) (hd : decode M.2.1 pc = .ok (.getfield idx, 3)) (kk : rk_Wp w l M d mc ms G (pc + 3) ls (rk_a 24 (R 11 a 2) :: st) Z I R) : rk_Wp w l M d mc ms G (pc) ls (rk_a 11 a :: st) Z I R := rk_getR 11 11 10 2 24 (by decide) rfl rfl (C := RX10) (T := TX10) (N := 7) rfl (by decide) rfl (by decide) rk_u11 rfl hl hd kk
theorem rk_g11_3 {w : rk_W} {l : Launch} {M : rk_M} {d mc ms : Nat} {G : List Frame → Array Value → State → State → Prop} {pc : Nat} {ls : List (Nat × rk_V)} {st : List rk_V} {Z : rk_Z} {I : rk_Mm} {R : rk_Rm} {idx a : Nat} (hl : Cond.fieldLink M.1.cls idx RX10 "saved" "[Z" ∈ rk_tbl) (hd : decode M.2.1 pc = .ok (.getfield idx, 3)) (kk : rk_Wp w l M d mc ms G (pc + 3) ls (rk_a 25 (R 11 a 3) :: st) Z I R) : rk_Wp w l M d mc ms G (pc) ls (rk_a 11 a :: st) Z I R := rk_getR 11 11 10 3 25 (by decide) rfl rfl (C := RX10) (T := TX10) (N := 7) rfl (by decide) rfl (by decide) rk_u11 rfl hl hd kk
theorem rk_g11_4 {w : rk_W} {l : Launch} {M : rk_M} {d mc ms : Nat} {G : List Frame → Array Value → State → State → Prop} {pc : Nat} {ls : List (Nat × rk_V)} {st : List rk_V} {Z : rk_Z} {I : rk_Mm} {R : rk_Rm} {idx a : Nat} (hl : Cond.fieldLink M.1.cls idx RX10 "reader" "LRopeWalk$Reader;" ∈ rk_tbl) (hd : decode M.2.1 pc = .ok (.getfield idx, 3)) (kk : rk_Wp w l M d mc ms G (pc + 3) ls (rk_a 6 (R 11 a 4) :: st) Z I R) : rk_Wp w l M d mc ms G (pc) ls (rk_a 11 a :: st) Z I R := rk_getR 11 11 10 4 6 (by decide) rfl rfl (C := RX10) (T := TX10) (N := 7) rfl (by decide) rfl (by decide) rk_u11 rfl hl hd kk
theorem rk_g11_5 {w : rk_W} {l : Launch} {M : rk_M} {d mc ms : Nat} {G : List Frame → Array Value → State → State → Prop} {pc : Nat} {ls : List (Nat × rk_V)} {st : List rk_V} {Z : rk_Z} {I : rk_Mm} {R : rk_Rm} {idx a : Nat} (hl : Cond.fieldLink M.1.cls idx RX10 "pad" "LRopeWalk$Pad;" ∈ rk_tbl) (hd : decode M.2.1 pc = .ok (.getfield idx, 3)) (kk : rk_Wp w l M d mc ms G (pc + 3) ls (rk_a 4 (R 11 a 5) :: st) Z I R) : rk_Wp w l M d mc ms G (pc) ls (rk_a 11 a :: st) Z I R := rk_getR 11 11 10 5 4 (by decide) rfl rfl (C := RX10) (T := TX10) (N := 7) rfl (by decide) rfl (by decide) rk_u11 rfl hl hd kk
theorem rk_g11_6 {w : rk_W} {l : Launch} {M : rk_M} {d mc ms : Nat} {G : List Frame → Array Value → State → State → Prop} {pc : Nat} {ls : List (Nat × rk_V)} {st : List rk_V} {Z : rk_Z} {I : rk_Mm} {R : rk_Rm} {idx a : Nat} (hl : Cond.fieldLink M.1.cls idx RX10 "trial" "LRopeWalk$Trial;" ∈ rk_tbl) (hd : decode M.2.1 pc = .ok (.getfield idx, 3)) (kk : rk_Wp w l M d mc ms G (pc + 3) ls (rk_a 9 (R 11 a 6) :: st) Z I R) : rk_Wp w l M d mc ms G (pc) ls (rk_a 11 a :: st) Z I R := rk_getR 11 11 10 6 9 (by decide) rfl rfl (C := RX10) (T := TX10) (N := 7) rfl (by decide) rfl (by decide) rk_u11 rfl hl hd kk
theorem rk_g12_0 {w : rk_W} {l : Launch} {M : rk_M} {d mc ms : Nat} {G : List Frame → Array Value → State → State → Prop} {pc : Nat} {ls : List (Nat × rk_V)} {st : List rk_V} {Z : rk_Z} {I : rk_Mm} {R : rk_Rm} {idx a : Nat} (hl : Cond.fieldLink M.1.cls idx RX11 "now" "[I" ∈ rk_tbl) (hd : decode M.2.1 pc = .ok (.getfield idx, 3)) (kk : rk_Wp w l M d mc ms G (pc + 3) ls (rk_a 26 (R 12 a 0) :: st) Z I R) : rk_Wp w l M d mc ms G (pc) ls (rk_a 12 a :: st) Z I R := rk_getR 12 12 11 0 26 (by decide) rfl rfl (C := RX11) (T := TX11) (N := 14) rfl (by decide) rfl (by decide) rk_u12 rfl hl hd kk
theorem rk_g12_1 {w : rk_W} {l : Launch} {M : rk_M} {d mc ms : Nat} {G : List Frame → Array Value → State → State → Prop} {pc : Nat} {ls : List (Nat × rk_V)} {st : List rk_V} {Z : rk_Z} {I : rk_Mm} {R : rk_Rm} {idx a : Nat} (hl : Cond.fieldLink M.1.cls idx RX11 "kept" "[I" ∈ rk_tbl) (hd : decode M.2.1 pc = .ok (.getfield idx, 3)) (kk : rk_Wp w l M d mc ms G (pc + 3) ls (rk_a 27 (R 12 a 1) :: st) Z I R) : rk_Wp w l M d mc ms G (pc) ls (rk_a 12 a :: st) Z I R := rk_getR 12 12 11 1 27 (by decide) rfl rfl (C := RX11) (T := TX11) (N := 14) rfl (by decide) rfl (by decide) rk_u12 rfl hl hd kk
theorem rk_g12_2 {w : rk_W} {l : Launch} {M : rk_M} {d mc ms : Nat} {G : List Frame → Array Value → State → State → Prop} {pc : Nat} {ls : List (Nat × rk_V)} {st : List rk_V} {Z : rk_Z} {I : rk_Mm} {R : rk_Rm} {idx a : Nat} (hl : Cond.fieldLink M.1.cls idx RX11 "history" "[I" ∈ rk_tbl) (hd : decode M.2.1 pc = .ok (.getfield idx, 3)) (kk : rk_Wp w l M d mc ms G (pc + 3) ls (rk_a 28 (R 12 a 2) :: st) Z I R) : rk_Wp w l M d mc ms G (pc) ls (rk_a 12 a :: st) Z I R := rk_getR 12 12 11 2 28 (by decide) rfl rfl (C := RX11) (T := TX11) (N := 14) rfl (by decide) rfl (by decide) rk_u12 rfl hl hd kk
theorem rk_g12_3 {w : rk_W} {l : Launch} {M : rk_M} {d mc ms : Nat} {G : List Frame → Array Value → State → State → Prop} {pc : Nat} {ls : List (Nat × rk_V)} {st : List rk_V} {Z : rk_Z} {I : rk_Mm} {R : rk_Rm} {idx a : Nat} (hl : Cond.fieldLink M.1.cls idx RX11 "undos" "I" ∈ rk_tbl) (hd : decode M.2.1 pc = .ok (.getfield idx, 3)) (kk : rk_Wp w l M d mc ms G (pc + 3) ls (rk_i (I 12 a 3) :: st) Z I R) : rk_Wp w l M d mc ms G (pc) ls (rk_a 12 a :: st) Z I R := rk_getI 12 12 11 3 (by decide) rfl rfl (C := RX11) (T := TX11) (N := 14) rfl (by decide) rfl rk_u12 rfl hl hd kk
theorem rk_p12_3 {w : rk_W} {l : Launch} {M : rk_M} {d mc ms : Nat} {G : List Frame → Array Value → State → State → Prop} {pc : Nat} {ls : List (Nat × rk_V)} {st : List rk_V} {Z : rk_Z} {I : rk_Mm} {R : rk_Rm} {idx a : Nat} {x : Int32} (hl : Cond.fieldLink M.1.cls idx RX11 "undos" "I" ∈ rk_tbl) (hd : decode M.2.1 pc = .ok (.putfield idx, 3)) (kk : ∀ I', I' = rk_uI I 12 a 3 x → rk_Wp w l M d mc ms G (pc + 3) ls (st) Z I' R) : rk_Wp w l M d mc ms G (pc) ls (rk_i x :: rk_a 12 a :: st) Z I R := rk_putI 12 12 11 3 tyX11 (by decide) rfl rfl (C := RX11) (T := TX11) (N := 14) (ty := .int) rfl (by decide) rfl rk_u12 tyX11_ok nmX11 rfl rfl (by decide +kernel) rfl rfl hl hd kk
theorem rk_g12_4 {w : rk_W} {l : Launch} {M : rk_M} {d mc ms : Nat} {G : List Frame → Array Value → State → State → Prop} {pc : Nat} {ls : List (Nat × rk_V)} {st : List rk_V} {Z : rk_Z} {I : rk_Mm} {R : rk_Rm} {idx a : Nat} (hl : Cond.fieldLink M.1.cls idx RX11 "saved" "[I" ∈ rk_tbl) (hd : decode M.2.1 pc = .ok (.getfield idx, 3)) (kk : rk_Wp w l M d mc ms G (pc + 3) ls (rk_a 29 (R 12 a 4) :: st) Z I R) : rk_Wp w l M d mc ms G (pc) ls (rk_a 12 a :: st) Z I R := rk_getR 12 12 11 4 29 (by decide) rfl rfl (C := RX11) (T := TX11) (N := 14) rfl (by decide) rfl (by decide) rk_u12 rfl hl hd kk
theorem rk_g12_5 {w : rk_W} {l : Launch} {M : rk_M} {d mc ms : Nat} {G : List Frame → Array Value → State → State → Prop} {pc : Nat} {ls : List (Nat × rk_V)} {st : List rk_V} {Z : rk_Z} {I : rk_Mm} {R : rk_Rm} {idx a : Nat} (hl : Cond.fieldLink M.1.cls idx RX11 "isSaved" "[Z" ∈ rk_tbl) (hd : decode M.2.1 pc = .ok (.getfield idx, 3)) (kk : rk_Wp w l M d mc ms G (pc + 3) ls (rk_a 30 (R 12 a 5) :: st) Z I R) : rk_Wp w l M d mc ms G (pc) ls (rk_a 12 a :: st) Z I R := rk_getR 12 12 11 5 30 (by decide) rfl rfl (C := RX11) (T := TX11) (N := 14) rfl (by decide) rfl (by decide) rk_u12 rfl hl hd kk
theorem rk_g12_6 {w : rk_W} {l : Launch} {M : rk_M} {d mc ms : Nat} {G : List Frame → Array Value → State → State → Prop} {pc : Nat} {ls : List (Nat × rk_V)} {st : List rk_V} {Z : rk_Z} {I : rk_Mm} {R : rk_Rm} {idx a : Nat} (hl : Cond.fieldLink M.1.cls idx RX11 "pad" "[I" ∈ rk_tbl) (hd : decode M.2.1 pc = .ok (.getfield idx, 3)) (kk : rk_Wp w l M d mc ms G (pc + 3) ls (rk_a 31 (R 12 a 6) :: st) Z I R) : rk_Wp w l M d mc ms G (pc) ls (rk_a 12 a :: st) Z I R := rk_getR 12 12 11 6 31 (by decide) rfl rfl (C := RX11) (T := TX11) (N := 14) rfl (by decide) rfl (by decide) rk_u12 rfl hl hd kk
theorem rk_g12_7 {w : rk_W} {l : Launch} {M : rk_M} {d mc ms : Nat} {G : List Frame → Array Value → State → State → Prop} {pc : Nat} {ls : List (Nat × rk_V)} {st : List rk_V} {Z : rk_Z} {I : rk_Mm} {R : rk_Rm} {idx a : Nat} (hl : Cond.fieldLink M.1.cls idx RX11 "signs" "I" ∈ rk_tbl) (hd : decode M.2.1 pc = .ok (.getfield idx, 3)) (kk : rk_Wp w l M d mc ms G (pc + 3) ls (rk_i (I 12 a 7) :: st) Z I R) : rk_Wp w l M d mc ms G (pc) ls (rk_a 12 a :: st) Z I R := rk_getI 12 12 11 7 (by decide) rfl rfl (C := RX11) (T := TX11) (N := 14) rfl (by decide) rfl rk_u12 rfl hl hd kk
theorem rk_p12_7 {w : rk_W} {l : Launch} {M : rk_M} {d mc ms : Nat} {G : List Frame → Array Value → State → State → Prop} {pc : Nat} {ls : List (Nat × rk_V)} {st : List rk_V} {Z : rk_Z} {I : rk_Mm} {R : rk_Rm} {idx a : Nat} {x : Int32} (hl : Cond.fieldLink M.1.cls idx RX11 "signs" "I" ∈ rk_tbl) (hd : decode M.2.1 pc = .ok (.putfield idx, 3)) (kk : ∀ I', I' = rk_uI I 12 a 7 x → rk_Wp w l M d mc ms G (pc + 3) ls (st) Z I' R) : rk_Wp w l M d mc ms G (pc) ls (rk_i x :: rk_a 12 a :: st) Z I R := rk_putI 12 12 11 7 tyX11 (by decide) rfl rfl (C := RX11) (T := TX11) (N := 14) (ty := .int) rfl (by decide) rfl rk_u12 tyX11_ok nmX11 rfl rfl (by decide +kernel) rfl rfl hl hd kk
theorem rk_g12_8 {w : rk_W} {l : Launch} {M : rk_M} {d mc ms : Nat} {G : List Frame → Array Value → State → State → Prop} {pc : Nat} {ls : List (Nat × rk_V)} {st : List rk_V} {Z : rk_Z} {I : rk_Mm} {R : rk_Rm} {idx a : Nat} (hl : Cond.fieldLink M.1.cls idx RX11 "isInText" "Z" ∈ rk_tbl) (hd : decode M.2.1 pc = .ok (.getfield idx, 3)) (kk : rk_Wp w l M d mc ms G (pc + 3) ls (rk_i (I 12 a 8) :: st) Z I R) : rk_Wp w l M d mc ms G (pc) ls (rk_a 12 a :: st) Z I R := rk_getI 12 12 11 8 (by decide) rfl rfl (C := RX11) (T := TX11) (N := 14) rfl (by decide) rfl rk_u12 rfl hl hd kk
theorem rk_p12_8 {w : rk_W} {l : Launch} {M : rk_M} {d mc ms : Nat} {G : List Frame → Array Value → State → State → Prop} {pc : Nat} {ls : List (Nat × rk_V)} {st : List rk_V} {Z : rk_Z} {I : rk_Mm} {R : rk_Rm} {idx a : Nat} {x : Int32} (hl : Cond.fieldLink M.1.cls idx RX11 "isInText" "Z" ∈ rk_tbl) (hb : x = 0 ∨ x = 1) (hd : decode M.2.1 pc = .ok (.putfield idx, 3)) (kk : ∀ I', I' = rk_uI I 12 a 8 x → rk_Wp w l M d mc ms G (pc + 3) ls (st) Z I' R) : rk_Wp w l M d mc ms G (pc) ls (rk_i x :: rk_a 12 a :: st) Z I R := rk_putI 12 12 11 8 tyX11 (by decide) rfl rfl (C := RX11) (T := TX11) (N := 14) (ty := .boolean) rfl (by decide) rfl rk_u12 tyX11_ok nmX11 rfl rfl (by decide +kernel) (by rcases hb with rfl | rfl <;> rfl) (by rcases hb with rfl | rfl <;> rfl) hl hd kk
theorem rk_g12_9 {w : rk_W} {l : Launch} {M : rk_M} {d mc ms : Nat} {G : List Frame → Array Value → State → State → Prop} {pc : Nat} {ls : List (Nat × rk_V)} {st : List rk_V} {Z : rk_Z} {I : rk_Mm} {R : rk_Rm} {idx a : Nat} (hl : Cond.fieldLink M.1.cls idx RX11 "isUsed" "[Z" ∈ rk_tbl) (hd : decode M.2.1 pc = .ok (.getfield idx, 3)) (kk : rk_Wp w l M d mc ms G (pc + 3) ls (rk_a 32 (R 12 a 9) :: st) Z I R) : rk_Wp w l M d mc ms G (pc) ls (rk_a 12 a :: st) Z I R := rk_getR 12 12 11 9 32 (by decide) rfl rfl (C := RX11) (T := TX11) (N := 14) rfl (by decide) rfl (by decide) rk_u12 rfl hl hd kk
theorem rk_g12_10 {w : rk_W} {l : Launch} {M : rk_M} {d mc ms : Nat} {G : List Frame → Array Value → State → State → Prop} {pc : Nat} {ls : List (Nat × rk_V)} {st : List rk_V} {Z : rk_Z} {I : rk_Mm} {R : rk_Rm} {idx a : Nat} (hl : Cond.fieldLink M.1.cls idx RX11 "jobs" "[I" ∈ rk_tbl) (hd : decode M.2.1 pc = .ok (.getfield idx, 3)) (kk : rk_Wp w l M d mc ms G (pc + 3) ls (rk_a 33 (R 12 a 10) :: st) Z I R) : rk_Wp w l M d mc ms G (pc) ls (rk_a 12 a :: st) Z I R := rk_getR 12 12 11 10 33 (by decide) rfl rfl (C := RX11) (T := TX11) (N := 14) rfl (by decide) rfl (by decide) rk_u12 rfl hl hd kk
theorem rk_g12_11 {w : rk_W} {l : Launch} {M : rk_M} {d mc ms : Nat} {G : List Frame → Array Value → State → State → Prop} {pc : Nat} {ls : List (Nat × rk_V)} {st : List rk_V} {Z : rk_Z} {I : rk_Mm} {R : rk_Rm} {idx a : Nat} (hl : Cond.fieldLink M.1.cls idx RX11 "many" "I" ∈ rk_tbl) (hd : decode M.2.1 pc = .ok (.getfield idx, 3)) (kk : rk_Wp w l M d mc ms G (pc + 3) ls (rk_i (I 12 a 11) :: st) Z I R) : rk_Wp w l M d mc ms G (pc) ls (rk_a 12 a :: st) Z I R := rk_getI 12 12 11 11 (by decide) rfl rfl (C := RX11) (T := TX11) (N := 14) rfl (by decide) rfl rk_u12 rfl hl hd kk
theorem rk_p12_11 {w : rk_W} {l : Launch} {M : rk_M} {d mc ms : Nat} {G : List Frame → Array Value → State → State → Prop} {pc : Nat} {ls : List (Nat × rk_V)} {st : List rk_V} {Z : rk_Z} {I : rk_Mm} {R : rk_Rm} {idx a : Nat} {x : Int32} (hl : Cond.fieldLink M.1.cls idx RX11 "many" "I" ∈ rk_tbl) (hd : decode M.2.1 pc = .ok (.putfield idx, 3)) (kk : ∀ I', I' = rk_uI I 12 a 11 x → rk_Wp w l M d mc ms G (pc + 3) ls (st) Z I' R) : rk_Wp w l M d mc ms G (pc) ls (rk_i x :: rk_a 12 a :: st) Z I R := rk_putI 12 12 11 11 tyX11 (by decide) rfl rfl (C := RX11) (T := TX11) (N := 14) (ty := .int) rfl (by decide) rfl rk_u12 tyX11_ok nmX11 rfl rfl (by decide +kernel) rfl rfl hl hd kk
theorem rk_g12_12 {w : rk_W} {l : Launch} {M : rk_M} {d mc ms : Nat} {G : List Frame → Array Value → State → State → Prop} {pc : Nat} {ls : List (Nat × rk_V)} {st : List rk_V} {Z : rk_Z} {I : rk_Mm} {R : rk_Rm} {idx a : Nat} (hl : Cond.fieldLink M.1.cls idx RX11 "at" "I" ∈ rk_tbl) (hd : decode M.2.1 pc = .ok (.getfield idx, 3)) (kk : rk_Wp w l M d mc ms G (pc + 3) ls (rk_i (I 12 a 12) :: st) Z I R) : rk_Wp w l M d mc ms G (pc) ls (rk_a 12 a :: st) Z I R := rk_getI 12 12 11 12 (by decide) rfl rfl (C := RX11) (T := TX11) (N := 14) rfl (by decide) rfl rk_u12 rfl hl hd kk
theorem rk_p12_12 {w : rk_W} {l : Launch} {M : rk_M} {d mc ms : Nat} {G : List Frame → Array Value → State → State → Prop} {pc : Nat} {ls : List (Nat × rk_V)} {st : List rk_V} {Z : rk_Z} {I : rk_Mm} {R : rk_Rm} {idx a : Nat} {x : Int32} (hl : Cond.fieldLink M.1.cls idx RX11 "at" "I" ∈ rk_tbl) (hd : decode M.2.1 pc = .ok (.putfield idx, 3)) (kk : ∀ I', I' = rk_uI I 12 a 12 x → rk_Wp w l M d mc ms G (pc + 3) ls (st) Z I' R) : rk_Wp w l M d mc ms G (pc) ls (rk_i x :: rk_a 12 a :: st) Z I R := rk_putI 12 12 11 12 tyX11 (by decide) rfl rfl (C := RX11) (T := TX11) (N := 14) (ty := .int) rfl (by decide) rfl rk_u12 tyX11_ok nmX11 rfl rfl (by decide +kernel) rfl rfl hl hd kk
theorem rk_g12_13 {w : rk_W} {l : Launch} {M : rk_M} {d mc ms : Nat} {G : List Frame → Array Value → State → State → Prop} {pc : Nat} {ls : List (Nat × rk_V)} {st : List rk_V} {Z : rk_Z} {I : rk_Mm} {R : rk_Rm} {idx a : Nat} (hl : Cond.fieldLink M.1.cls idx RX11 "isWrong" "Z" ∈ rk_tbl) (hd : decode M.2.1 pc = .ok (.getfield idx, 3)) (kk : rk_Wp w l M d mc ms G (pc + 3) ls (rk_i (I 12 a 13) :: st) Z I R) : rk_Wp w l M d mc ms G (pc) ls (rk_a 12 a :: st) Z I R := rk_getI 12 12 11 13 (by decide) rfl rfl (C := RX11) (T := TX11) (N := 14) rfl (by decide) rfl rk_u12 rfl hl hd kk
theorem rk_p12_13 {w : rk_W} {l : Launch} {M : rk_M} {d mc ms : Nat} {G : List Frame → Array Value → State → State → Prop} {pc : Nat} {ls : List (Nat × rk_V)} {st : List rk_V} {Z : rk_Z} {I : rk_Mm} {R : rk_Rm} {idx a : Nat} {x : Int32} (hl : Cond.fieldLink M.1.cls idx RX11 "isWrong" "Z" ∈ rk_tbl) (hb : x = 0 ∨ x = 1) (hd : decode M.2.1 pc = .ok (.putfield idx, 3)) (kk : ∀ I', I' = rk_uI I 12 a 13 x → rk_Wp w l M d mc ms G (pc + 3) ls (st) Z I' R) : rk_Wp w l M d mc ms G (pc) ls (rk_i x :: rk_a 12 a :: st) Z I R := rk_putI 12 12 11 13 tyX11 (by decide) rfl rfl (C := RX11) (T := TX11) (N := 14) (ty := .boolean) rfl (by decide) rfl rk_u12 tyX11_ok nmX11 rfl rfl (by decide +kernel) (by rcases hb with rfl | rfl <;> rfl) (by rcases hb with rfl | rfl <;> rfl) hl hd kk
theorem rk_r13 {w : rk_W} {l : Launch} {M : rk_M} {d mc ms : Nat} {G : List Frame → Array Value → State → State → Prop} {pc : Nat} {ls : List (Nat × rk_V)} {st : List rk_V} {Z : rk_Z} {I : rk_Mm} {R : rk_Rm} {idx a : Nat} {i : Int32} (hd : decode M.2.1 pc = .ok (.aaload, 1)) (hi : vp_in i 16) (kk : rk_Wp w l M d mc ms G (pc + 1) ls (rk_a 3 (R 13 a i.toNatClampNeg) :: st) Z I R) : rk_Wp w l M d mc ms G (pc) ls (rk_i i :: rk_a 13 a :: st) Z I R := rk_aald 13 13 16 3 3 (Cn := RX2) (by decide) rfl rfl (by decide) (fun _ => rfl) hd hi kk
theorem rk_s13 {w : rk_W} {l : Launch} {M : rk_M} {d mc ms : Nat} {G : List Frame → Array Value → State → State → Prop} {pc : Nat} {ls : List (Nat × rk_V)} {st : List rk_V} {Z : rk_Z} {I : rk_Mm} {R : rk_Rm} {idx a : Nat} {i : Int32} {v : Nat} (hd : decode M.2.1 pc = .ok (.aastore, 1)) (hi : vp_in i 16) (kk : ∀ R', R' = rk_uR R 13 a i.toNatClampNeg v → rk_Wp w l M d mc ms G (pc + 1) ls (st) Z I R') : rk_Wp w l M d mc ms G (pc) ls (rk_a 3 v :: rk_i i :: rk_a 13 a :: st) Z I R := rk_aast 13 13 16 3 3 2 (r := (RX2, TX2, 7)) (by decide) rfl rfl (by decide) (fun _ => rfl) rfl rfl hd hi kk
theorem rk_r14 {w : rk_W} {l : Launch} {M : rk_M} {d mc ms : Nat} {G : List Frame → Array Value → State → State → Prop} {pc : Nat} {ls : List (Nat × rk_V)} {st : List rk_V} {Z : rk_Z} {I : rk_Mm} {R : rk_Rm} {idx a : Nat} {i : Int32} (hd : decode M.2.1 pc = .ok (.aaload, 1)) (hi : vp_in i 7) (kk : rk_Wp w l M d mc ms G (pc + 1) ls (rk_a 10 (R 14 a i.toNatClampNeg) :: st) Z I R) : rk_Wp w l M d mc ms G (pc) ls (rk_i i :: rk_a 14 a :: st) Z I R := rk_aald 14 14 7 10 6 (Cn := RX9) (by decide) rfl rfl (by decide) (fun _ => rfl) hd hi kk
theorem rk_s14 {w : rk_W} {l : Launch} {M : rk_M} {d mc ms : Nat} {G : List Frame → Array Value → State → State → Prop} {pc : Nat} {ls : List (Nat × rk_V)} {st : List rk_V} {Z : rk_Z} {I : rk_Mm} {R : rk_Rm} {idx a : Nat} {i : Int32} {v : Nat} (hd : decode M.2.1 pc = .ok (.aastore, 1)) (hi : vp_in i 7) (kk : ∀ R', R' = rk_uR R 14 a i.toNatClampNeg v → rk_Wp w l M d mc ms G (pc + 1) ls (st) Z I R') : rk_Wp w l M d mc ms G (pc) ls (rk_a 10 v :: rk_i i :: rk_a 14 a :: st) Z I R := rk_aast 14 14 7 10 6 9 (r := (RX9, TX9, 8)) (by decide) rfl rfl (by decide) (fun _ => rfl) rfl rfl hd hi kk
theorem rk_r15 {w : rk_W} {l : Launch} {M : rk_M} {d mc ms : Nat} {G : List Frame → Array Value → State → State → Prop} {pc : Nat} {ls : List (Nat × rk_V)} {st : List rk_V} {Z : rk_Z} {I : rk_Mm} {R : rk_Rm} {idx a : Nat} {i : Int32} (hd : decode M.2.1 pc = .ok (.caload, 1)) (hi : vp_in i 80) (kk : rk_Wp w l M d mc ms G (pc + 1) ls (rk_i (I 15 a i.toNatClampNeg) :: st) Z I R) : rk_Wp w l M d mc ms G (pc) ls (rk_i i :: rk_a 15 a :: st) Z I R := rk_cald 15 15 80 (by decide) rfl rfl hd hi kk
theorem rk_s15 {w : rk_W} {l : Launch} {M : rk_M} {d mc ms : Nat} {G : List Frame → Array Value → State → State → Prop} {pc : Nat} {ls : List (Nat × rk_V)} {st : List rk_V} {Z : rk_Z} {I : rk_Mm} {R : rk_Rm} {idx a : Nat} {i x : Int32} (hd : decode M.2.1 pc = .ok (.castore, 1)) (hi : vp_in i 80) (kk : ∀ I', I' = rk_uI I 15 a i.toNatClampNeg (vp_nar .char x) → rk_Wp w l M d mc ms G (pc + 1) ls (st) Z I' R) : rk_Wp w l M d mc ms G (pc) ls (rk_i x :: rk_i i :: rk_a 15 a :: st) Z I R := rk_cast 15 15 80 (by decide) rfl rfl hd hi kk
theorem rk_r16 {w : rk_W} {l : Launch} {M : rk_M} {d mc ms : Nat} {G : List Frame → Array Value → State → State → Prop} {pc : Nat} {ls : List (Nat × rk_V)} {st : List rk_V} {Z : rk_Z} {I : rk_Mm} {R : rk_Rm} {idx a : Nat} {i : Int32} (hd : decode M.2.1 pc = .ok (.iaload, 1)) (hi : vp_in i 4) (kk : rk_Wp w l M d mc ms G (pc + 1) ls (rk_i (I 16 a i.toNatClampNeg) :: st) Z I R) : rk_Wp w l M d mc ms G (pc) ls (rk_i i :: rk_a 16 a :: st) Z I R := rk_iald 16 16 4 (by decide) rfl rfl hd hi kk
theorem rk_s16 {w : rk_W} {l : Launch} {M : rk_M} {d mc ms : Nat} {G : List Frame → Array Value → State → State → Prop} {pc : Nat} {ls : List (Nat × rk_V)} {st : List rk_V} {Z : rk_Z} {I : rk_Mm} {R : rk_Rm} {idx a : Nat} {i x : Int32} (hd : decode M.2.1 pc = .ok (.iastore, 1)) (hi : vp_in i 4) (kk : ∀ I', I' = rk_uI I 16 a i.toNatClampNeg (x) → rk_Wp w l M d mc ms G (pc + 1) ls (st) Z I' R) : rk_Wp w l M d mc ms G (pc) ls (rk_i x :: rk_i i :: rk_a 16 a :: st) Z I R := rk_iast 16 16 4 (by decide) rfl rfl hd hi kk
theorem rk_r17 {w : rk_W} {l : Launch} {M : rk_M} {d mc ms : Nat} {G : List Frame → Array Value → State → State → Prop} {pc : Nat} {ls : List (Nat × rk_V)} {st : List rk_V} {Z : rk_Z} {I : rk_Mm} {R : rk_Rm} {idx a : Nat} {i : Int32} (hd : decode M.2.1 pc = .ok (.iaload, 1)) (hi : vp_in i 10) (kk : rk_Wp w l M d mc ms G (pc + 1) ls (rk_i (I 17 a i.toNatClampNeg) :: st) Z I R) : rk_Wp w l M d mc ms G (pc) ls (rk_i i :: rk_a 17 a :: st) Z I R := rk_iald 17 17 10 (by decide) rfl rfl hd hi kk
theorem rk_s17 {w : rk_W} {l : Launch} {M : rk_M} {d mc ms : Nat} {G : List Frame → Array Value → State → State → Prop} {pc : Nat} {ls : List (Nat × rk_V)} {st : List rk_V} {Z : rk_Z} {I : rk_Mm} {R : rk_Rm} {idx a : Nat} {i x : Int32} (hd : decode M.2.1 pc = .ok (.iastore, 1)) (hi : vp_in i 10) (kk : ∀ I', I' = rk_uI I 17 a i.toNatClampNeg (x) → rk_Wp w l M d mc ms G (pc + 1) ls (st) Z I' R) : rk_Wp w l M d mc ms G (pc) ls (rk_i x :: rk_i i :: rk_a 17 a :: st) Z I R := rk_iast 17 17 10 (by decide) rfl rfl hd hi kk
theorem rk_r18 {w : rk_W} {l : Launch} {M : rk_M} {d mc ms : Nat} {G : List Frame → Array Value → State → State → Prop} {pc : Nat} {ls : List (Nat × rk_V)} {st : List rk_V} {Z : rk_Z} {I : rk_Mm} {R : rk_Rm} {idx a : Nat} {i : Int32} (hd : decode M.2.1 pc = .ok (.iaload, 1)) (hi : vp_in i 3) (kk : rk_Wp w l M d mc ms G (pc + 1) ls (rk_i (I 18 a i.toNatClampNeg) :: st) Z I R) : rk_Wp w l M d mc ms G (pc) ls (rk_i i :: rk_a 18 a :: st) Z I R := rk_iald 18 18 3 (by decide) rfl rfl hd hi kk
theorem rk_s18 {w : rk_W} {l : Launch} {M : rk_M} {d mc ms : Nat} {G : List Frame → Array Value → State → State → Prop} {pc : Nat} {ls : List (Nat × rk_V)} {st : List rk_V} {Z : rk_Z} {I : rk_Mm} {R : rk_Rm} {idx a : Nat} {i x : Int32} (hd : decode M.2.1 pc = .ok (.iastore, 1)) (hi : vp_in i 3) (kk : ∀ I', I' = rk_uI I 18 a i.toNatClampNeg (x) → rk_Wp w l M d mc ms G (pc + 1) ls (st) Z I' R) : rk_Wp w l M d mc ms G (pc) ls (rk_i x :: rk_i i :: rk_a 18 a :: st) Z I R := rk_iast 18 18 3 (by decide) rfl rfl hd hi kk
theorem rk_r19 {w : rk_W} {l : Launch} {M : rk_M} {d mc ms : Nat} {G : List Frame → Array Value → State → State → Prop} {pc : Nat} {ls : List (Nat × rk_V)} {st : List rk_V} {Z : rk_Z} {I : rk_Mm} {R : rk_Rm} {idx a : Nat} {i : Int32} (hd : decode M.2.1 pc = .ok (.iaload, 1)) (hi : vp_in i 3) (kk : rk_Wp w l M d mc ms G (pc + 1) ls (rk_i (I 19 a i.toNatClampNeg) :: st) Z I R) : rk_Wp w l M d mc ms G (pc) ls (rk_i i :: rk_a 19 a :: st) Z I R := rk_iald 19 19 3 (by decide) rfl rfl hd hi kk
theorem rk_s19 {w : rk_W} {l : Launch} {M : rk_M} {d mc ms : Nat} {G : List Frame → Array Value → State → State → Prop} {pc : Nat} {ls : List (Nat × rk_V)} {st : List rk_V} {Z : rk_Z} {I : rk_Mm} {R : rk_Rm} {idx a : Nat} {i x : Int32} (hd : decode M.2.1 pc = .ok (.iastore, 1)) (hi : vp_in i 3) (kk : ∀ I', I' = rk_uI I 19 a i.toNatClampNeg (x) → rk_Wp w l M d mc ms G (pc + 1) ls (st) Z I' R) : rk_Wp w l M d mc ms G (pc) ls (rk_i x :: rk_i i :: rk_a 19 a :: st) Z I R := rk_iast 19 19 3 (by decide) rfl rfl hd hi kk
theorem rk_r20 {w : rk_W} {l : Launch} {M : rk_M} {d mc ms : Nat} {G : List Frame → Array Value → State → State → Prop} {pc : Nat} {ls : List (Nat × rk_V)} {st : List rk_V} {Z : rk_Z} {I : rk_Mm} {R : rk_Rm} {idx a : Nat} {i : Int32} (hd : decode M.2.1 pc = .ok (.aaload, 1)) (hi : vp_in i 24) (kk : rk_Wp w l M d mc ms G (pc + 1) ls (rk_a 5 (R 20 a i.toNatClampNeg) :: st) Z I R) : rk_Wp w l M d mc ms G (pc) ls (rk_i i :: rk_a 20 a :: st) Z I R := rk_aald 20 20 24 5 4 (Cn := RX4) (by decide) rfl rfl (by decide) (fun _ => rfl) hd hi kk
theorem rk_s20 {w : rk_W} {l : Launch} {M : rk_M} {d mc ms : Nat} {G : List Frame → Array Value → State → State → Prop} {pc : Nat} {ls : List (Nat × rk_V)} {st : List rk_V} {Z : rk_Z} {I : rk_Mm} {R : rk_Rm} {idx a : Nat} {i : Int32} {v : Nat} (hd : decode M.2.1 pc = .ok (.aastore, 1)) (hi : vp_in i 24) (kk : ∀ R', R' = rk_uR R 20 a i.toNatClampNeg v → rk_Wp w l M d mc ms G (pc + 1) ls (st) Z I R') : rk_Wp w l M d mc ms G (pc) ls (rk_a 5 v :: rk_i i :: rk_a 20 a :: st) Z I R := rk_aast 20 20 24 5 4 4 (r := (RX4, TX4, 7)) (by decide) rfl rfl (by decide) (fun _ => rfl) rfl rfl hd hi kk
theorem rk_r22 {w : rk_W} {l : Launch} {M : rk_M} {d mc ms : Nat} {G : List Frame → Array Value → State → State → Prop} {pc : Nat} {ls : List (Nat × rk_V)} {st : List rk_V} {Z : rk_Z} {I : rk_Mm} {R : rk_Rm} {idx a : Nat} {i : Int32} (hd : decode M.2.1 pc = .ok (.iaload, 1)) (hi : vp_in i 6) (kk : rk_Wp w l M d mc ms G (pc + 1) ls (rk_i (I 22 a i.toNatClampNeg) :: st) Z I R) : rk_Wp w l M d mc ms G (pc) ls (rk_i i :: rk_a 22 a :: st) Z I R := rk_iald 22 22 6 (by decide) rfl rfl hd hi kk
theorem rk_s22 {w : rk_W} {l : Launch} {M : rk_M} {d mc ms : Nat} {G : List Frame → Array Value → State → State → Prop} {pc : Nat} {ls : List (Nat × rk_V)} {st : List rk_V} {Z : rk_Z} {I : rk_Mm} {R : rk_Rm} {idx a : Nat} {i x : Int32} (hd : decode M.2.1 pc = .ok (.iastore, 1)) (hi : vp_in i 6) (kk : ∀ I', I' = rk_uI I 22 a i.toNatClampNeg (x) → rk_Wp w l M d mc ms G (pc + 1) ls (st) Z I' R) : rk_Wp w l M d mc ms G (pc) ls (rk_i x :: rk_i i :: rk_a 22 a :: st) Z I R := rk_iast 22 22 6 (by decide) rfl rfl hd hi kk
theorem rk_r23 {w : rk_W} {l : Launch} {M : rk_M} {d mc ms : Nat} {G : List Frame → Array Value → State → State → Prop} {pc : Nat} {ls : List (Nat × rk_V)} {st : List rk_V} {Z : rk_Z} {I : rk_Mm} {R : rk_Rm} {idx a : Nat} {i : Int32} (hd : decode M.2.1 pc = .ok (.aaload, 1)) (hi : vp_in i 11) (kk : rk_Wp w l M d mc ms G (pc + 1) ls (rk_a 8 (R 23 a i.toNatClampNeg) :: st) Z I R) : rk_Wp w l M d mc ms G (pc) ls (rk_i i :: rk_a 23 a :: st) Z I R := rk_aald 23 23 11 8 5 (Cn := RX7) (by decide) rfl rfl (by decide) (fun _ => rfl) hd hi kk
theorem rk_s23 {w : rk_W} {l : Launch} {M : rk_M} {d mc ms : Nat} {G : List Frame → Array Value → State → State → Prop} {pc : Nat} {ls : List (Nat × rk_V)} {st : List rk_V} {Z : rk_Z} {I : rk_Mm} {R : rk_Rm} {idx a : Nat} {i : Int32} {v : Nat} (hd : decode M.2.1 pc = .ok (.aastore, 1)) (hi : vp_in i 11) (kk : ∀ R', R' = rk_uR R 23 a i.toNatClampNeg v → rk_Wp w l M d mc ms G (pc + 1) ls (st) Z I R') : rk_Wp w l M d mc ms G (pc) ls (rk_a 8 v :: rk_i i :: rk_a 23 a :: st) Z I R := rk_aast 23 23 11 8 5 7 (r := (RX7, TX7, 3)) (by decide) rfl rfl (by decide) (fun _ => rfl) rfl rfl hd hi kk
theorem rk_r24 {w : rk_W} {l : Launch} {M : rk_M} {d mc ms : Nat} {G : List Frame → Array Value → State → State → Prop} {pc : Nat} {ls : List (Nat × rk_V)} {st : List rk_V} {Z : rk_Z} {I : rk_Mm} {R : rk_Rm} {idx a : Nat} {i : Int32} (hd : decode M.2.1 pc = .ok (.aaload, 1)) (hi : vp_in i 2) (kk : rk_Wp w l M d mc ms G (pc + 1) ls (rk_a 10 (R 24 a i.toNatClampNeg) :: st) Z I R) : rk_Wp w l M d mc ms G (pc) ls (rk_i i :: rk_a 24 a :: st) Z I R := rk_aald 24 24 2 10 6 (Cn := RX9) (by decide) rfl rfl (by decide) (fun _ => rfl) hd hi kk
theorem rk_s24 {w : rk_W} {l : Launch} {M : rk_M} {d mc ms : Nat} {G : List Frame → Array Value → State → State → Prop} {pc : Nat} {ls : List (Nat × rk_V)} {st : List rk_V} {Z : rk_Z} {I : rk_Mm} {R : rk_Rm} {idx a : Nat} {i : Int32} {v : Nat} (hd : decode M.2.1 pc = .ok (.aastore, 1)) (hi : vp_in i 2) (kk : ∀ R', R' = rk_uR R 24 a i.toNatClampNeg v → rk_Wp w l M d mc ms G (pc + 1) ls (st) Z I R') : rk_Wp w l M d mc ms G (pc) ls (rk_a 10 v :: rk_i i :: rk_a 24 a :: st) Z I R := rk_aast 24 24 2 10 6 9 (r := (RX9, TX9, 8)) (by decide) rfl rfl (by decide) (fun _ => rfl) rfl rfl hd hi kk
theorem rk_r25 {w : rk_W} {l : Launch} {M : rk_M} {d mc ms : Nat} {G : List Frame → Array Value → State → State → Prop} {pc : Nat} {ls : List (Nat × rk_V)} {st : List rk_V} {Z : rk_Z} {I : rk_Mm} {R : rk_Rm} {idx a : Nat} {i : Int32} (hd : decode M.2.1 pc = .ok (.baload, 1)) (hi : vp_in i 2) (kk : rk_Wp w l M d mc ms G (pc + 1) ls (rk_i (I 25 a i.toNatClampNeg) :: st) Z I R) : rk_Wp w l M d mc ms G (pc) ls (rk_i i :: rk_a 25 a :: st) Z I R := rk_zald 25 25 2 (by decide) rfl rfl hd hi kk
theorem rk_s25 {w : rk_W} {l : Launch} {M : rk_M} {d mc ms : Nat} {G : List Frame → Array Value → State → State → Prop} {pc : Nat} {ls : List (Nat × rk_V)} {st : List rk_V} {Z : rk_Z} {I : rk_Mm} {R : rk_Rm} {idx a : Nat} {i x : Int32} (hd : decode M.2.1 pc = .ok (.bastore, 1)) (hi : vp_in i 2) (kk : ∀ I', I' = rk_uI I 25 a i.toNatClampNeg (vp_nar .boolean x) → rk_Wp w l M d mc ms G (pc + 1) ls (st) Z I' R) : rk_Wp w l M d mc ms G (pc) ls (rk_i x :: rk_i i :: rk_a 25 a :: st) Z I R := rk_zast 25 25 2 (by decide) rfl rfl hd hi kk
theorem rk_r26 {w : rk_W} {l : Launch} {M : rk_M} {d mc ms : Nat} {G : List Frame → Array Value → State → State → Prop} {pc : Nat} {ls : List (Nat × rk_V)} {st : List rk_V} {Z : rk_Z} {I : rk_Mm} {R : rk_Rm} {idx a : Nat} {i : Int32} (hd : decode M.2.1 pc = .ok (.iaload, 1)) (hi : vp_in i 340) (kk : rk_Wp w l M d mc ms G (pc + 1) ls (rk_i (I 26 a i.toNatClampNeg) :: st) Z I R) : rk_Wp w l M d mc ms G (pc) ls (rk_i i :: rk_a 26 a :: st) Z I R := rk_iald 26 26 340 (by decide) rfl rfl hd hi kk
theorem rk_s26 {w : rk_W} {l : Launch} {M : rk_M} {d mc ms : Nat} {G : List Frame → Array Value → State → State → Prop} {pc : Nat} {ls : List (Nat × rk_V)} {st : List rk_V} {Z : rk_Z} {I : rk_Mm} {R : rk_Rm} {idx a : Nat} {i x : Int32} (hd : decode M.2.1 pc = .ok (.iastore, 1)) (hi : vp_in i 340) (kk : ∀ I', I' = rk_uI I 26 a i.toNatClampNeg (x) → rk_Wp w l M d mc ms G (pc + 1) ls (st) Z I' R) : rk_Wp w l M d mc ms G (pc) ls (rk_i x :: rk_i i :: rk_a 26 a :: st) Z I R := rk_iast 26 26 340 (by decide) rfl rfl hd hi kk
theorem rk_r27 {w : rk_W} {l : Launch} {M : rk_M} {d mc ms : Nat} {G : List Frame → Array Value → State → State → Prop} {pc : Nat} {ls : List (Nat × rk_V)} {st : List rk_V} {Z : rk_Z} {I : rk_Mm} {R : rk_Rm} {idx a : Nat} {i : Int32} (hd : decode M.2.1 pc = .ok (.iaload, 1)) (hi : vp_in i 340) (kk : rk_Wp w l M d mc ms G (pc + 1) ls (rk_i (I 27 a i.toNatClampNeg) :: st) Z I R) : rk_Wp w l M d mc ms G (pc) ls (rk_i i :: rk_a 27 a :: st) Z I R := rk_iald 27 27 340 (by decide) rfl rfl hd hi kk
theorem rk_s27 {w : rk_W} {l : Launch} {M : rk_M} {d mc ms : Nat} {G : List Frame → Array Value → State → State → Prop} {pc : Nat} {ls : List (Nat × rk_V)} {st : List rk_V} {Z : rk_Z} {I : rk_Mm} {R : rk_Rm} {idx a : Nat} {i x : Int32} (hd : decode M.2.1 pc = .ok (.iastore, 1)) (hi : vp_in i 340) (kk : ∀ I', I' = rk_uI I 27 a i.toNatClampNeg (x) → rk_Wp w l M d mc ms G (pc + 1) ls (st) Z I' R) : rk_Wp w l M d mc ms G (pc) ls (rk_i x :: rk_i i :: rk_a 27 a :: st) Z I R := rk_iast 27 27 340 (by decide) rfl rfl hd hi kk
theorem rk_r28 {w : rk_W} {l : Launch} {M : rk_M} {d mc ms : Nat} {G : List Frame → Array Value → State → State → Prop} {pc : Nat} {ls : List (Nat × rk_V)} {st : List rk_V} {Z : rk_Z} {I : rk_Mm} {R : rk_Rm} {idx a : Nat} {i : Int32} (hd : decode M.2.1 pc = .ok (.iaload, 1)) (hi : vp_in i 2040) (kk : rk_Wp w l M d mc ms G (pc + 1) ls (rk_i (I 28 a i.toNatClampNeg) :: st) Z I R) : rk_Wp w l M d mc ms G (pc) ls (rk_i i :: rk_a 28 a :: st) Z I R := rk_iald 28 28 2040 (by decide) rfl rfl hd hi kk
theorem rk_s28 {w : rk_W} {l : Launch} {M : rk_M} {d mc ms : Nat} {G : List Frame → Array Value → State → State → Prop} {pc : Nat} {ls : List (Nat × rk_V)} {st : List rk_V} {Z : rk_Z} {I : rk_Mm} {R : rk_Rm} {idx a : Nat} {i x : Int32} (hd : decode M.2.1 pc = .ok (.iastore, 1)) (hi : vp_in i 2040) (kk : ∀ I', I' = rk_uI I 28 a i.toNatClampNeg (x) → rk_Wp w l M d mc ms G (pc + 1) ls (st) Z I' R) : rk_Wp w l M d mc ms G (pc) ls (rk_i x :: rk_i i :: rk_a 28 a :: st) Z I R := rk_iast 28 28 2040 (by decide) rfl rfl hd hi kk
theorem rk_r29 {w : rk_W} {l : Launch} {M : rk_M} {d mc ms : Nat} {G : List Frame → Array Value → State → State → Prop} {pc : Nat} {ls : List (Nat × rk_V)} {st : List rk_V} {Z : rk_Z} {I : rk_Mm} {R : rk_Rm} {idx a : Nat} {i : Int32} (hd : decode M.2.1 pc = .ok (.iaload, 1)) (hi : vp_in i 680) (kk : rk_Wp w l M d mc ms G (pc + 1) ls (rk_i (I 29 a i.toNatClampNeg) :: st) Z I R) : rk_Wp w l M d mc ms G (pc) ls (rk_i i :: rk_a 29 a :: st) Z I R := rk_iald 29 29 680 (by decide) rfl rfl hd hi kk
theorem rk_s29 {w : rk_W} {l : Launch} {M : rk_M} {d mc ms : Nat} {G : List Frame → Array Value → State → State → Prop} {pc : Nat} {ls : List (Nat × rk_V)} {st : List rk_V} {Z : rk_Z} {I : rk_Mm} {R : rk_Rm} {idx a : Nat} {i x : Int32} (hd : decode M.2.1 pc = .ok (.iastore, 1)) (hi : vp_in i 680) (kk : ∀ I', I' = rk_uI I 29 a i.toNatClampNeg (x) → rk_Wp w l M d mc ms G (pc + 1) ls (st) Z I' R) : rk_Wp w l M d mc ms G (pc) ls (rk_i x :: rk_i i :: rk_a 29 a :: st) Z I R := rk_iast 29 29 680 (by decide) rfl rfl hd hi kk
theorem rk_r30 {w : rk_W} {l : Launch} {M : rk_M} {d mc ms : Nat} {G : List Frame → Array Value → State → State → Prop} {pc : Nat} {ls : List (Nat × rk_V)} {st : List rk_V} {Z : rk_Z} {I : rk_Mm} {R : rk_Rm} {idx a : Nat} {i : Int32} (hd : decode M.2.1 pc = .ok (.baload, 1)) (hi : vp_in i 2) (kk : rk_Wp w l M d mc ms G (pc + 1) ls (rk_i (I 30 a i.toNatClampNeg) :: st) Z I R) : rk_Wp w l M d mc ms G (pc) ls (rk_i i :: rk_a 30 a :: st) Z I R := rk_zald 30 30 2 (by decide) rfl rfl hd hi kk
theorem rk_s30 {w : rk_W} {l : Launch} {M : rk_M} {d mc ms : Nat} {G : List Frame → Array Value → State → State → Prop} {pc : Nat} {ls : List (Nat × rk_V)} {st : List rk_V} {Z : rk_Z} {I : rk_Mm} {R : rk_Rm} {idx a : Nat} {i x : Int32} (hd : decode M.2.1 pc = .ok (.bastore, 1)) (hi : vp_in i 2) (kk : ∀ I', I' = rk_uI I 30 a i.toNatClampNeg (vp_nar .boolean x) → rk_Wp w l M d mc ms G (pc + 1) ls (st) Z I' R) : rk_Wp w l M d mc ms G (pc) ls (rk_i x :: rk_i i :: rk_a 30 a :: st) Z I R := rk_zast 30 30 2 (by decide) rfl rfl hd hi kk
theorem rk_r31 {w : rk_W} {l : Launch} {M : rk_M} {d mc ms : Nat} {G : List Frame → Array Value → State → State → Prop} {pc : Nat} {ls : List (Nat × rk_V)} {st : List rk_V} {Z : rk_Z} {I : rk_Mm} {R : rk_Rm} {idx a : Nat} {i : Int32} (hd : decode M.2.1 pc = .ok (.iaload, 1)) (hi : vp_in i 80) (kk : rk_Wp w l M d mc ms G (pc + 1) ls (rk_i (I 31 a i.toNatClampNeg) :: st) Z I R) : rk_Wp w l M d mc ms G (pc) ls (rk_i i :: rk_a 31 a :: st) Z I R := rk_iald 31 31 80 (by decide) rfl rfl hd hi kk
theorem rk_s31 {w : rk_W} {l : Launch} {M : rk_M} {d mc ms : Nat} {G : List Frame → Array Value → State → State → Prop} {pc : Nat} {ls : List (Nat × rk_V)} {st : List rk_V} {Z : rk_Z} {I : rk_Mm} {R : rk_Rm} {idx a : Nat} {i x : Int32} (hd : decode M.2.1 pc = .ok (.iastore, 1)) (hi : vp_in i 80) (kk : ∀ I', I' = rk_uI I 31 a i.toNatClampNeg (x) → rk_Wp w l M d mc ms G (pc + 1) ls (st) Z I' R) : rk_Wp w l M d mc ms G (pc) ls (rk_i x :: rk_i i :: rk_a 31 a :: st) Z I R := rk_iast 31 31 80 (by decide) rfl rfl hd hi kk
theorem rk_r32 {w : rk_W} {l : Launch} {M : rk_M} {d mc ms : Nat} {G : List Frame → Array Value → State → State → Prop} {pc : Nat} {ls : List (Nat × rk_V)} {st : List rk_V} {Z : rk_Z} {I : rk_Mm} {R : rk_Rm} {idx a : Nat} {i : Int32} (hd : decode M.2.1 pc = .ok (.baload, 1)) (hi : vp_in i 24) (kk : rk_Wp w l M d mc ms G (pc + 1) ls (rk_i (I 32 a i.toNatClampNeg) :: st) Z I R) : rk_Wp w l M d mc ms G (pc) ls (rk_i i :: rk_a 32 a :: st) Z I R := rk_zald 32 32 24 (by decide) rfl rfl hd hi kk
theorem rk_s32 {w : rk_W} {l : Launch} {M : rk_M} {d mc ms : Nat} {G : List Frame → Array Value → State → State → Prop} {pc : Nat} {ls : List (Nat × rk_V)} {st : List rk_V} {Z : rk_Z} {I : rk_Mm} {R : rk_Rm} {idx a : Nat} {i x : Int32} (hd : decode M.2.1 pc = .ok (.bastore, 1)) (hi : vp_in i 24) (kk : ∀ I', I' = rk_uI I 32 a i.toNatClampNeg (vp_nar .boolean x) → rk_Wp w l M d mc ms G (pc + 1) ls (st) Z I' R) : rk_Wp w l M d mc ms G (pc) ls (rk_i x :: rk_i i :: rk_a 32 a :: st) Z I R := rk_zast 32 32 24 (by decide) rfl rfl hd hi kk
theorem rk_r33 {w : rk_W} {l : Launch} {M : rk_M} {d mc ms : Nat} {G : List Frame → Array Value → State → State → Prop} {pc : Nat} {ls : List (Nat × rk_V)} {st : List rk_V} {Z : rk_Z} {I : rk_Mm} {R : rk_Rm} {idx a : Nat} {i : Int32} (hd : decode M.2.1 pc = .ok (.iaload, 1)) (hi : vp_in i 200) (kk : rk_Wp w l M d mc ms G (pc + 1) ls (rk_i (I 33 a i.toNatClampNeg) :: st) Z I R) : rk_Wp w l M d mc ms G (pc) ls (rk_i i :: rk_a 33 a :: st) Z I R := rk_iald 33 33 200 (by decide) rfl rfl hd hi kk
theorem rk_s33 {w : rk_W} {l : Launch} {M : rk_M} {d mc ms : Nat} {G : List Frame → Array Value → State → State → Prop} {pc : Nat} {ls : List (Nat × rk_V)} {st : List rk_V} {Z : rk_Z} {I : rk_Mm} {R : rk_Rm} {idx a : Nat} {i x : Int32} (hd : decode M.2.1 pc = .ok (.iastore, 1)) (hi : vp_in i 200) (kk : ∀ I', I' = rk_uI I 33 a i.toNatClampNeg (x) → rk_Wp w l M d mc ms G (pc + 1) ls (st) Z I' R) : rk_Wp w l M d mc ms G (pc) ls (rk_i x :: rk_i i :: rk_a 33 a :: st) Z I R := rk_iast 33 33 200 (by decide) rfl rfl hd hi kk
abbrev rk_mX0_copyFrom : rk_M := (yX0_copyFrom, cX0_copyFrom, 3, none)
theorem rk_eX0_copyFrom : rk_MeV rk_mX0_copyFrom 1 := ⟨⟨rk_inT 364 (by decide +kernel) (by decide +kernel), rk_inT 7 (by decide +kernel) (by decide +kernel), ⟨by decide +kernel, by decide +kernel, by decide +kernel⟩, by decide, by decide +kernel⟩, rk_inT 362 (by decide +kernel) (by decide +kernel), rk_inT 363 (by decide +kernel) (by decide +kernel)⟩
abbrev rk_mX0_has : rk_M := (yX0_has, cX0_has, 2, (some .boolean))
theorem rk_eX0_has : rk_MeV rk_mX0_has 1 := ⟨⟨rk_inT 551 (by decide +kernel) (by decide +kernel), rk_inT 7 (by decide +kernel) (by decide +kernel), ⟨by decide +kernel, by decide +kernel, by decide +kernel⟩, by decide, by decide +kernel⟩, rk_inT 549 (by decide +kernel) (by decide +kernel), rk_inT 550 (by decide +kernel) (by decide +kernel)⟩
abbrev rk_mX0_init : rk_M := (yX0_init, cX0_init, 2, none)
theorem rk_eX0_init : rk_MeI rk_mX0_init 0 := ⟨⟨rk_inT 142 (by decide +kernel) (by decide +kernel), rk_inT 7 (by decide +kernel) (by decide +kernel), ⟨by decide +kernel, by decide +kernel, by decide +kernel⟩, by decide, by decide +kernel⟩, rk_inT 141 (by decide +kernel) (by decide +kernel), rfl, rfl⟩
abbrev rk_mX0_isFull : rk_M := (yX0_isFull, cX0_isFull, 1, (some .boolean))
theorem rk_eX0_isFull : rk_MeV rk_mX0_isFull 0 := ⟨⟨rk_inT 539 (by decide +kernel) (by decide +kernel), rk_inT 7 (by decide +kernel) (by decide +kernel), ⟨by decide +kernel, by decide +kernel, by decide +kernel⟩, by decide, by decide +kernel⟩, rk_inT 537 (by decide +kernel) (by decide +kernel), rk_inT 538 (by decide +kernel) (by decide +kernel)⟩
abbrev rk_mX0_lateRopes : rk_M := (yX0_lateRopes, cX0_lateRopes, 6, (some .int))
theorem rk_eX0_lateRopes : rk_MeV rk_mX0_lateRopes 2 := ⟨⟨rk_inT 594 (by decide +kernel) (by decide +kernel), rk_inT 7 (by decide +kernel) (by decide +kernel), ⟨by decide +kernel, by decide +kernel, by decide +kernel⟩, by decide, by decide +kernel⟩, rk_inT 592 (by decide +kernel) (by decide +kernel), rk_inT 593 (by decide +kernel) (by decide +kernel)⟩
abbrev rk_mX0_remove : rk_M := (yX0_remove, cX0_remove, 4, none)
theorem rk_eX0_remove : rk_MeV rk_mX0_remove 1 := ⟨⟨rk_inT 570 (by decide +kernel) (by decide +kernel), rk_inT 7 (by decide +kernel) (by decide +kernel), ⟨by decide +kernel, by decide +kernel, by decide +kernel⟩, by decide, by decide +kernel⟩, rk_inT 568 (by decide +kernel) (by decide +kernel), rk_inT 569 (by decide +kernel) (by decide +kernel)⟩
abbrev rk_mX10_account : rk_M := (yX10_account, cX10_account, 3, (some .int))
theorem rk_eX10_account : rk_MeV rk_mX10_account 2 := ⟨⟨rk_inT 631 (by decide +kernel) (by decide +kernel), rk_inT 1 (by decide +kernel) (by decide +kernel), ⟨by decide +kernel, by decide +kernel, by decide +kernel⟩, by decide, by decide +kernel⟩, rk_inT 629 (by decide +kernel) (by decide +kernel), rk_inT 630 (by decide +kernel) (by decide +kernel)⟩
abbrev rk_mX10_bestSet : rk_M := (yX10_bestSet, cX10_bestSet, 2, (some .int))
theorem rk_eX10_bestSet : rk_MeV rk_mX10_bestSet 1 := ⟨⟨rk_inT 680 (by decide +kernel) (by decide +kernel), rk_inT 1 (by decide +kernel) (by decide +kernel), ⟨by decide +kernel, by decide +kernel, by decide +kernel⟩, by decide, by decide +kernel⟩, rk_inT 678 (by decide +kernel) (by decide +kernel), rk_inT 679 (by decide +kernel) (by decide +kernel)⟩
abbrev rk_mX10_carryOut : rk_M := (yX10_carryOut, cX10_carryOut, 2, (some .int))
theorem rk_eX10_carryOut : rk_MeV rk_mX10_carryOut 0 := ⟨⟨rk_inT 849 (by decide +kernel) (by decide +kernel), rk_inT 1 (by decide +kernel) (by decide +kernel), ⟨by decide +kernel, by decide +kernel, by decide +kernel⟩, by decide, by decide +kernel⟩, rk_inT 847 (by decide +kernel) (by decide +kernel), rk_inT 848 (by decide +kernel) (by decide +kernel)⟩
abbrev rk_mX10_count : rk_M := (yX10_count, cX10_count, 2, (some .int))
theorem rk_eX10_count : rk_MeV rk_mX10_count 1 := ⟨⟨rk_inT 619 (by decide +kernel) (by decide +kernel), rk_inT 1 (by decide +kernel) (by decide +kernel), ⟨by decide +kernel, by decide +kernel, by decide +kernel⟩, by decide, by decide +kernel⟩, rk_inT 617 (by decide +kernel) (by decide +kernel), rk_inT 618 (by decide +kernel) (by decide +kernel)⟩
abbrev rk_mX10_doJob : rk_M := (yX10_doJob, cX10_doJob, 2, (some .int))
theorem rk_eX10_doJob : rk_MeV rk_mX10_doJob 0 := ⟨⟨rk_inT 855 (by decide +kernel) (by decide +kernel), rk_inT 1 (by decide +kernel) (by decide +kernel), ⟨by decide +kernel, by decide +kernel, by decide +kernel⟩, by decide, by decide +kernel⟩, rk_inT 854 (by decide +kernel) (by decide +kernel), rk_inP (by decide +kernel) (by decide +kernel)⟩
abbrev rk_mX10_drop : rk_M := (yX10_drop, cX10_drop, 2, (some .int))
theorem rk_eX10_drop : rk_MeV rk_mX10_drop 1 := ⟨⟨rk_inT 574 (by decide +kernel) (by decide +kernel), rk_inT 1 (by decide +kernel) (by decide +kernel), ⟨by decide +kernel, by decide +kernel, by decide +kernel⟩, by decide, by decide +kernel⟩, rk_inT 572 (by decide +kernel) (by decide +kernel), rk_inT 573 (by decide +kernel) (by decide +kernel)⟩
abbrev rk_mX10_fault : rk_M := (yX10_fault, cX10_fault, 1, (some .int))
theorem rk_eX10_fault : rk_MeV rk_mX10_fault 0 := ⟨⟨rk_inT 744 (by decide +kernel) (by decide +kernel), rk_inT 1 (by decide +kernel) (by decide +kernel), ⟨by decide +kernel, by decide +kernel, by decide +kernel⟩, by decide, by decide +kernel⟩, rk_inT 742 (by decide +kernel) (by decide +kernel), rk_inT 743 (by decide +kernel) (by decide +kernel)⟩
abbrev rk_mX10_fewestJoined : rk_M := (yX10_fewestJoined, cX10_fewestJoined, 3, (some .int))
theorem rk_eX10_fewestJoined : rk_MeV rk_mX10_fewestJoined 2 := ⟨⟨rk_inT 701 (by decide +kernel) (by decide +kernel), rk_inT 1 (by decide +kernel) (by decide +kernel), ⟨by decide +kernel, by decide +kernel, by decide +kernel⟩, by decide, by decide +kernel⟩, rk_inT 699 (by decide +kernel) (by decide +kernel), rk_inT 700 (by decide +kernel) (by decide +kernel)⟩
abbrev rk_mX10_fibre : rk_M := (yX10_fibre, cX10_fibre, 4, (some .int))
theorem rk_eX10_fibre : rk_MeV rk_mX10_fibre 3 := ⟨⟨rk_inT 391 (by decide +kernel) (by decide +kernel), rk_inT 1 (by decide +kernel) (by decide +kernel), ⟨by decide +kernel, by decide +kernel, by decide +kernel⟩, by decide, by decide +kernel⟩, rk_inT 389 (by decide +kernel) (by decide +kernel), rk_inT 390 (by decide +kernel) (by decide +kernel)⟩
abbrev rk_mX10_fill : rk_M := (yX10_fill, cX10_fill, 2, (some .int))
theorem rk_eX10_fill : rk_MeV rk_mX10_fill 1 := ⟨⟨rk_inT 543 (by decide +kernel) (by decide +kernel), rk_inT 1 (by decide +kernel) (by decide +kernel), ⟨by decide +kernel, by decide +kernel, by decide +kernel⟩, by decide, by decide +kernel⟩, rk_inT 541 (by decide +kernel) (by decide +kernel), rk_inT 542 (by decide +kernel) (by decide +kernel)⟩
abbrev rk_mX10_finesIn : rk_M := (yX10_finesIn, cX10_finesIn, 2, (some .int))
theorem rk_eX10_finesIn : rk_MeV rk_mX10_finesIn 1 := ⟨⟨rk_inT 715 (by decide +kernel) (by decide +kernel), rk_inT 1 (by decide +kernel) (by decide +kernel), ⟨by decide +kernel, by decide +kernel, by decide +kernel⟩, by decide, by decide +kernel⟩, rk_inT 713 (by decide +kernel) (by decide +kernel), rk_inT 714 (by decide +kernel) (by decide +kernel)⟩
abbrev rk_mX10_inRange : rk_M := (yX10_inRange, cX10_inRange, 3, (some .boolean))
theorem rk_eX10_inRange : rk_MeS rk_mX10_inRange 3 := ⟨⟨rk_inT 375 (by decide +kernel) (by decide +kernel), rk_inT 1 (by decide +kernel) (by decide +kernel), ⟨by decide +kernel, by decide +kernel, by decide +kernel⟩, by decide, by decide +kernel⟩, rk_inT 374 (by decide +kernel) (by decide +kernel)⟩
abbrev rk_mX10_init : rk_M := (yX10_init, cX10_init, 2, none)
theorem rk_eX10_init : rk_MeI rk_mX10_init 0 := ⟨⟨rk_inT 24 (by decide +kernel) (by decide +kernel), rk_inT 1 (by decide +kernel) (by decide +kernel), ⟨by decide +kernel, by decide +kernel, by decide +kernel⟩, by decide, by decide +kernel⟩, rk_inT 23 (by decide +kernel) (by decide +kernel), rfl, rfl⟩
abbrev rk_mX10_isFibre : rk_M := (yX10_isFibre, cX10_isFibre, 1, (some .boolean))
theorem rk_eX10_isFibre : rk_MeS rk_mX10_isFibre 1 := ⟨⟨rk_inT 398 (by decide +kernel) (by decide +kernel), rk_inT 1 (by decide +kernel) (by decide +kernel), ⟨by decide +kernel, by decide +kernel, by decide +kernel⟩, by decide, by decide +kernel⟩, rk_inT 397 (by decide +kernel) (by decide +kernel)⟩
abbrev rk_mX10_isMake : rk_M := (yX10_isMake, cX10_isMake, 2, (some .boolean))
theorem rk_eX10_isMake : rk_MeS rk_mX10_isMake 2 := ⟨⟨rk_inT 424 (by decide +kernel) (by decide +kernel), rk_inT 1 (by decide +kernel) (by decide +kernel), ⟨by decide +kernel, by decide +kernel, by decide +kernel⟩, by decide, by decide +kernel⟩, rk_inT 423 (by decide +kernel) (by decide +kernel)⟩
abbrev rk_mX10_join : rk_M := (yX10_join, cX10_join, 3, (some .int))
theorem rk_eX10_join : rk_MeV rk_mX10_join 2 := ⟨⟨rk_inT 480 (by decide +kernel) (by decide +kernel), rk_inT 1 (by decide +kernel) (by decide +kernel), ⟨by decide +kernel, by decide +kernel, by decide +kernel⟩, by decide, by decide +kernel⟩, rk_inT 478 (by decide +kernel) (by decide +kernel), rk_inT 479 (by decide +kernel) (by decide +kernel)⟩
abbrev rk_mX10_lay : rk_M := (yX10_lay, cX10_lay, 5, (some .int))
theorem rk_eX10_lay : rk_MeV rk_mX10_lay 4 := ⟨⟨rk_inT 417 (by decide +kernel) (by decide +kernel), rk_inT 1 (by decide +kernel) (by decide +kernel), ⟨by decide +kernel, by decide +kernel, by decide +kernel⟩, by decide, by decide +kernel⟩, rk_inT 415 (by decide +kernel) (by decide +kernel), rk_inT 416 (by decide +kernel) (by decide +kernel)⟩
abbrev rk_mX10_leastYarns : rk_M := (yX10_leastYarns, cX10_leastYarns, 4, (some .int))
theorem rk_eX10_leastYarns : rk_MeV rk_mX10_leastYarns 3 := ⟨⟨rk_inT 660 (by decide +kernel) (by decide +kernel), rk_inT 1 (by decide +kernel) (by decide +kernel), ⟨by decide +kernel, by decide +kernel, by decide +kernel⟩, by decide, by decide +kernel⟩, rk_inT 658 (by decide +kernel) (by decide +kernel), rk_inT 659 (by decide +kernel) (by decide +kernel)⟩
abbrev rk_mX10_longest : rk_M := (yX10_longest, cX10_longest, 4, (some .int))
theorem rk_eX10_longest : rk_MeV rk_mX10_longest 3 := ⟨⟨rk_inT 652 (by decide +kernel) (by decide +kernel), rk_inT 1 (by decide +kernel) (by decide +kernel), ⟨by decide +kernel, by decide +kernel, by decide +kernel⟩, by decide, by decide +kernel⟩, rk_inT 650 (by decide +kernel) (by decide +kernel), rk_inT 651 (by decide +kernel) (by decide +kernel)⟩
abbrev rk_mX10_ofOrder : rk_M := (yX10_ofOrder, cX10_ofOrder, 3, (some .int))
theorem rk_eX10_ofOrder : rk_MeV rk_mX10_ofOrder 2 := ⟨⟨rk_inT 607 (by decide +kernel) (by decide +kernel), rk_inT 1 (by decide +kernel) (by decide +kernel), ⟨by decide +kernel, by decide +kernel, by decide +kernel⟩, by decide, by decide +kernel⟩, rk_inT 605 (by decide +kernel) (by decide +kernel), rk_inT 606 (by decide +kernel) (by decide +kernel)⟩
abbrev rk_mX10_order : rk_M := (yX10_order, cX10_order, 7, (some .int))
theorem rk_eX10_order : rk_MeV rk_mX10_order 6 := ⟨⟨rk_inT 529 (by decide +kernel) (by decide +kernel), rk_inT 1 (by decide +kernel) (by decide +kernel), ⟨by decide +kernel, by decide +kernel, by decide +kernel⟩, by decide, by decide +kernel⟩, rk_inT 527 (by decide +kernel) (by decide +kernel), rk_inT 528 (by decide +kernel) (by decide +kernel)⟩
abbrev rk_mX10_pass : rk_M := (yX10_pass, cX10_pass, 2, (some .int))
theorem rk_eX10_pass : rk_MeV rk_mX10_pass 1 := ⟨⟨rk_inT 582 (by decide +kernel) (by decide +kernel), rk_inT 1 (by decide +kernel) (by decide +kernel), ⟨by decide +kernel, by decide +kernel, by decide +kernel⟩, by decide, by decide +kernel⟩, rk_inT 580 (by decide +kernel) (by decide +kernel), rk_inT 581 (by decide +kernel) (by decide +kernel)⟩
abbrev rk_mX10_piece : rk_M := (yX10_piece, cX10_piece, 3, (some .int))
theorem rk_eX10_piece : rk_MeV rk_mX10_piece 2 := ⟨⟨rk_inT 599 (by decide +kernel) (by decide +kernel), rk_inT 1 (by decide +kernel) (by decide +kernel), ⟨by decide +kernel, by decide +kernel, by decide +kernel⟩, by decide, by decide +kernel⟩, rk_inT 597 (by decide +kernel) (by decide +kernel), rk_inT 598 (by decide +kernel) (by decide +kernel)⟩
abbrev rk_mX10_put : rk_M := (yX10_put, cX10_put, 3, (some .int))
theorem rk_eX10_put : rk_MeV rk_mX10_put 1 := ⟨⟨rk_inT 720 (by decide +kernel) (by decide +kernel), rk_inT 1 (by decide +kernel) (by decide +kernel), ⟨by decide +kernel, by decide +kernel, by decide +kernel⟩, by decide, by decide +kernel⟩, rk_inT 718 (by decide +kernel) (by decide +kernel), rk_inT 719 (by decide +kernel) (by decide +kernel)⟩
abbrev rk_mX10_restore : rk_M := (yX10_restore, cX10_restore, 2, (some .int))
theorem rk_eX10_restore : rk_MeV rk_mX10_restore 1 := ⟨⟨rk_inT 872 (by decide +kernel) (by decide +kernel), rk_inT 1 (by decide +kernel) (by decide +kernel), ⟨by decide +kernel, by decide +kernel, by decide +kernel⟩, by decide, by decide +kernel⟩, rk_inT 870 (by decide +kernel) (by decide +kernel), rk_inT 871 (by decide +kernel) (by decide +kernel)⟩
abbrev rk_mX10_save : rk_M := (yX10_save, cX10_save, 2, (some .int))
theorem rk_eX10_save : rk_MeV rk_mX10_save 1 := ⟨⟨rk_inT 867 (by decide +kernel) (by decide +kernel), rk_inT 1 (by decide +kernel) (by decide +kernel), ⟨by decide +kernel, by decide +kernel, by decide +kernel⟩, by decide, by decide +kernel⟩, rk_inT 865 (by decide +kernel) (by decide +kernel), rk_inT 866 (by decide +kernel) (by decide +kernel)⟩
abbrev rk_mX10_set : rk_M := (yX10_set, cX10_set, 3, (some .int))
theorem rk_eX10_set : rk_MeV rk_mX10_set 2 := ⟨⟨rk_inT 339 (by decide +kernel) (by decide +kernel), rk_inT 1 (by decide +kernel) (by decide +kernel), ⟨by decide +kernel, by decide +kernel, by decide +kernel⟩, by decide, by decide +kernel⟩, rk_inT 337 (by decide +kernel) (by decide +kernel), rk_inT 338 (by decide +kernel) (by decide +kernel)⟩
abbrev rk_mX10_spin : rk_M := (yX10_spin, cX10_spin, 3, (some .int))
theorem rk_eX10_spin : rk_MeV rk_mX10_spin 2 := ⟨⟨rk_inT 403 (by decide +kernel) (by decide +kernel), rk_inT 1 (by decide +kernel) (by decide +kernel), ⟨by decide +kernel, by decide +kernel, by decide +kernel⟩, by decide, by decide +kernel⟩, rk_inT 401 (by decide +kernel) (by decide +kernel), rk_inT 402 (by decide +kernel) (by decide +kernel)⟩
abbrev rk_mX10_takes : rk_M := (yX10_takes, cX10_takes, 6, (some .int))
theorem rk_eX10_takes : rk_MeV rk_mX10_takes 5 := ⟨⟨rk_inT 636 (by decide +kernel) (by decide +kernel), rk_inT 1 (by decide +kernel) (by decide +kernel), ⟨by decide +kernel, by decide +kernel, by decide +kernel⟩, by decide, by decide +kernel⟩, rk_inT 634 (by decide +kernel) (by decide +kernel), rk_inT 635 (by decide +kernel) (by decide +kernel)⟩
abbrev rk_mX10_test : rk_M := (yX10_test, cX10_test, 2, (some .int))
theorem rk_eX10_test : rk_MeV rk_mX10_test 1 := ⟨⟨rk_inT 509 (by decide +kernel) (by decide +kernel), rk_inT 1 (by decide +kernel) (by decide +kernel), ⟨by decide +kernel, by decide +kernel, by decide +kernel⟩, by decide, by decide +kernel⟩, rk_inT 507 (by decide +kernel) (by decide +kernel), rk_inT 508 (by decide +kernel) (by decide +kernel)⟩
abbrev rk_mX10_undo : rk_M := (yX10_undo, cX10_undo, 1, (some .int))
theorem rk_eX10_undo : rk_MeV rk_mX10_undo 0 := ⟨⟨rk_inT 859 (by decide +kernel) (by decide +kernel), rk_inT 1 (by decide +kernel) (by decide +kernel), ⟨by decide +kernel, by decide +kernel, by decide +kernel⟩, by decide, by decide +kernel⟩, rk_inT 857 (by decide +kernel) (by decide +kernel), rk_inT 858 (by decide +kernel) (by decide +kernel)⟩
abbrev rk_mX10_wipe : rk_M := (yX10_wipe, cX10_wipe, 1, (some .int))
theorem rk_eX10_wipe : rk_MeV rk_mX10_wipe 0 := ⟨⟨rk_inT 736 (by decide +kernel) (by decide +kernel), rk_inT 1 (by decide +kernel) (by decide +kernel), ⟨by decide +kernel, by decide +kernel, by decide +kernel⟩, by decide, by decide +kernel⟩, rk_inT 734 (by decide +kernel) (by decide +kernel), rk_inT 735 (by decide +kernel) (by decide +kernel)⟩
abbrev rk_mX10_wouldFill : rk_M := (yX10_wouldFill, cX10_wouldFill, 3, (some .int))
theorem rk_eX10_wouldFill : rk_MeV rk_mX10_wouldFill 2 := ⟨⟨rk_inT 669 (by decide +kernel) (by decide +kernel), rk_inT 1 (by decide +kernel) (by decide +kernel), ⟨by decide +kernel, by decide +kernel, by decide +kernel⟩, by decide, by decide +kernel⟩, rk_inT 667 (by decide +kernel) (by decide +kernel), rk_inT 668 (by decide +kernel) (by decide +kernel)⟩
abbrev rk_mX11_account : rk_M := (yX11_account, cX11_account, 6, (some .int))
theorem rk_eX11_account : rk_MeV rk_mX11_account 2 := ⟨⟨rk_inT 1079 (by decide +kernel) (by decide +kernel), rk_inT 13 (by decide +kernel) (by decide +kernel), ⟨by decide +kernel, by decide +kernel, by decide +kernel⟩, by decide, by decide +kernel⟩, rk_inT 1077 (by decide +kernel) (by decide +kernel), rk_inT 1078 (by decide +kernel) (by decide +kernel)⟩
abbrev rk_mX11_areStrands : rk_M := (yX11_areStrands, cX11_areStrands, 2, (some .boolean))
theorem rk_eX11_areStrands : rk_MeS rk_mX11_areStrands 2 := ⟨⟨rk_inT 958 (by decide +kernel) (by decide +kernel), rk_inT 13 (by decide +kernel) (by decide +kernel), ⟨by decide +kernel, by decide +kernel, by decide +kernel⟩, by decide, by decide +kernel⟩, rk_inT 957 (by decide +kernel) (by decide +kernel)⟩
abbrev rk_mX11_bestPiece : rk_M := (yX11_bestPiece, cX11_bestPiece, 4, (some .int))
theorem rk_eX11_bestPiece : rk_MeV rk_mX11_bestPiece 1 := ⟨⟨rk_inT 1031 (by decide +kernel) (by decide +kernel), rk_inT 13 (by decide +kernel) (by decide +kernel), ⟨by decide +kernel, by decide +kernel, by decide +kernel⟩, by decide, by decide +kernel⟩, rk_inT 1030 (by decide +kernel) (by decide +kernel), rk_inP (by decide +kernel) (by decide +kernel)⟩
abbrev rk_mX11_bestSet : rk_M := (yX11_bestSet, cX11_bestSet, 9, (some .int))
theorem rk_eX11_bestSet : rk_MeV rk_mX11_bestSet 1 := ⟨⟨rk_inT 1111 (by decide +kernel) (by decide +kernel), rk_inT 13 (by decide +kernel) (by decide +kernel), ⟨by decide +kernel, by decide +kernel, by decide +kernel⟩, by decide, by decide +kernel⟩, rk_inT 1109 (by decide +kernel) (by decide +kernel), rk_inT 1110 (by decide +kernel) (by decide +kernel)⟩
abbrev rk_mX11_canLay : rk_M := (yX11_canLay, cX11_canLay, 5, (some .boolean))
theorem rk_eX11_canLay : rk_MeV rk_mX11_canLay 4 := ⟨⟨rk_inT 962 (by decide +kernel) (by decide +kernel), rk_inT 13 (by decide +kernel) (by decide +kernel), ⟨by decide +kernel, by decide +kernel, by decide +kernel⟩, by decide, by decide +kernel⟩, rk_inT 961 (by decide +kernel) (by decide +kernel), rk_inP (by decide +kernel) (by decide +kernel)⟩
abbrev rk_mX11_carry : rk_M := (yX11_carry, cX11_carry, 4, (some .int))
theorem rk_eX11_carry : rk_MeV rk_mX11_carry 1 := ⟨⟨rk_inT 1165 (by decide +kernel) (by decide +kernel), rk_inT 13 (by decide +kernel) (by decide +kernel), ⟨by decide +kernel, by decide +kernel, by decide +kernel⟩, by decide, by decide +kernel⟩, rk_inT 1164 (by decide +kernel) (by decide +kernel), rk_inP (by decide +kernel) (by decide +kernel)⟩
abbrev rk_mX11_carryOut : rk_M := (yX11_carryOut, cX11_carryOut, 2, (some .int))
theorem rk_eX11_carryOut : rk_MeV rk_mX11_carryOut 0 := ⟨⟨rk_inT 1161 (by decide +kernel) (by decide +kernel), rk_inT 13 (by decide +kernel) (by decide +kernel), ⟨by decide +kernel, by decide +kernel, by decide +kernel⟩, by decide, by decide +kernel⟩, rk_inT 1159 (by decide +kernel) (by decide +kernel), rk_inT 1160 (by decide +kernel) (by decide +kernel)⟩
abbrev rk_mX11_comeBack : rk_M := (yX11_comeBack, cX11_comeBack, 2, none)
theorem rk_eX11_comeBack : rk_MeV rk_mX11_comeBack 0 := ⟨⟨rk_inT 1107 (by decide +kernel) (by decide +kernel), rk_inT 13 (by decide +kernel) (by decide +kernel), ⟨by decide +kernel, by decide +kernel, by decide +kernel⟩, by decide, by decide +kernel⟩, rk_inT 1106 (by decide +kernel) (by decide +kernel), rk_inP (by decide +kernel) (by decide +kernel)⟩
abbrev rk_mX11_count : rk_M := (yX11_count, cX11_count, 2, (some .int))
theorem rk_eX11_count : rk_MeV rk_mX11_count 1 := ⟨⟨rk_inT 1075 (by decide +kernel) (by decide +kernel), rk_inT 13 (by decide +kernel) (by decide +kernel), ⟨by decide +kernel, by decide +kernel, by decide +kernel⟩, by decide, by decide +kernel⟩, rk_inT 1073 (by decide +kernel) (by decide +kernel), rk_inT 1074 (by decide +kernel) (by decide +kernel)⟩
abbrev rk_mX11_cutFor : rk_M := (yX11_cutFor, cX11_cutFor, 5, (some .int))
theorem rk_eX11_cutFor : rk_MeV rk_mX11_cutFor 1 := ⟨⟨rk_inT 1043 (by decide +kernel) (by decide +kernel), rk_inT 13 (by decide +kernel) (by decide +kernel), ⟨by decide +kernel, by decide +kernel, by decide +kernel⟩, by decide, by decide +kernel⟩, rk_inT 1042 (by decide +kernel) (by decide +kernel), rk_inP (by decide +kernel) (by decide +kernel)⟩
abbrev rk_mX11_cutFrom : rk_M := (yX11_cutFrom, cX11_cutFrom, 5, (some .int))
theorem rk_eX11_cutFrom : rk_MeV rk_mX11_cutFrom 2 := ⟨⟨rk_inT 1013 (by decide +kernel) (by decide +kernel), rk_inT 13 (by decide +kernel) (by decide +kernel), ⟨by decide +kernel, by decide +kernel, by decide +kernel⟩, by decide, by decide +kernel⟩, rk_inT 1012 (by decide +kernel) (by decide +kernel), rk_inP (by decide +kernel) (by decide +kernel)⟩
abbrev rk_mX11_digit : rk_M := (yX11_digit, cX11_digit, 4, (some .int))
theorem rk_eX11_digit : rk_MeV rk_mX11_digit 2 := ⟨⟨rk_inT 1148 (by decide +kernel) (by decide +kernel), rk_inT 13 (by decide +kernel) (by decide +kernel), ⟨by decide +kernel, by decide +kernel, by decide +kernel⟩, by decide, by decide +kernel⟩, rk_inT 1147 (by decide +kernel) (by decide +kernel), rk_inP (by decide +kernel) (by decide +kernel)⟩
abbrev rk_mX11_drop : rk_M := (yX11_drop, cX11_drop, 3, (some .int))
theorem rk_eX11_drop : rk_MeV rk_mX11_drop 1 := ⟨⟨rk_inT 1051 (by decide +kernel) (by decide +kernel), rk_inT 13 (by decide +kernel) (by decide +kernel), ⟨by decide +kernel, by decide +kernel, by decide +kernel⟩, by decide, by decide +kernel⟩, rk_inT 1049 (by decide +kernel) (by decide +kernel), rk_inT 1050 (by decide +kernel) (by decide +kernel)⟩
abbrev rk_mX11_dropOrder : rk_M := (yX11_dropOrder, cX11_dropOrder, 3, none)
theorem rk_eX11_dropOrder : rk_MeV rk_mX11_dropOrder 1 := ⟨⟨rk_inT 1047 (by decide +kernel) (by decide +kernel), rk_inT 13 (by decide +kernel) (by decide +kernel), ⟨by decide +kernel, by decide +kernel, by decide +kernel⟩, by decide, by decide +kernel⟩, rk_inT 1046 (by decide +kernel) (by decide +kernel), rk_inP (by decide +kernel) (by decide +kernel)⟩
abbrev rk_mX11_dropPiece : rk_M := (yX11_dropPiece, cX11_dropPiece, 3, none)
theorem rk_eX11_dropPiece : rk_MeV rk_mX11_dropPiece 1 := ⟨⟨rk_inT 1001 (by decide +kernel) (by decide +kernel), rk_inT 13 (by decide +kernel) (by decide +kernel), ⟨by decide +kernel, by decide +kernel, by decide +kernel⟩, by decide, by decide +kernel⟩, rk_inT 1000 (by decide +kernel) (by decide +kernel), rk_inP (by decide +kernel) (by decide +kernel)⟩
abbrev rk_mX11_fault : rk_M := (yX11_fault, cX11_fault, 1, (some .int))
theorem rk_eX11_fault : rk_MeV rk_mX11_fault 0 := ⟨⟨rk_inT 1132 (by decide +kernel) (by decide +kernel), rk_inT 13 (by decide +kernel) (by decide +kernel), ⟨by decide +kernel, by decide +kernel, by decide +kernel⟩, by decide, by decide +kernel⟩, rk_inT 1130 (by decide +kernel) (by decide +kernel), rk_inT 1131 (by decide +kernel) (by decide +kernel)⟩
abbrev rk_mX11_faultOf : rk_M := (yX11_faultOf, cX11_faultOf, 1, (some .int))
theorem rk_eX11_faultOf : rk_MeV rk_mX11_faultOf 0 := ⟨⟨rk_inT 1136 (by decide +kernel) (by decide +kernel), rk_inT 13 (by decide +kernel) (by decide +kernel), ⟨by decide +kernel, by decide +kernel, by decide +kernel⟩, by decide, by decide +kernel⟩, rk_inT 1135 (by decide +kernel) (by decide +kernel), rk_inP (by decide +kernel) (by decide +kernel)⟩
abbrev rk_mX11_fewestJoined : rk_M := (yX11_fewestJoined, cX11_fewestJoined, 8, (some .int))
theorem rk_eX11_fewestJoined : rk_MeV rk_mX11_fewestJoined 2 := ⟨⟨rk_inT 1115 (by decide +kernel) (by decide +kernel), rk_inT 13 (by decide +kernel) (by decide +kernel), ⟨by decide +kernel, by decide +kernel, by decide +kernel⟩, by decide, by decide +kernel⟩, rk_inT 1113 (by decide +kernel) (by decide +kernel), rk_inT 1114 (by decide +kernel) (by decide +kernel)⟩
abbrev rk_mX11_fibre : rk_M := (yX11_fibre, cX11_fibre, 6, (some .int))
theorem rk_eX11_fibre : rk_MeV rk_mX11_fibre 3 := ⟨⟨rk_inT 942 (by decide +kernel) (by decide +kernel), rk_inT 13 (by decide +kernel) (by decide +kernel), ⟨by decide +kernel, by decide +kernel, by decide +kernel⟩, by decide, by decide +kernel⟩, rk_inT 940 (by decide +kernel) (by decide +kernel), rk_inT 941 (by decide +kernel) (by decide +kernel)⟩
abbrev rk_mX11_fill : rk_M := (yX11_fill, cX11_fill, 3, (some .int))
theorem rk_eX11_fill : rk_MeV rk_mX11_fill 1 := ⟨⟨rk_inT 1023 (by decide +kernel) (by decide +kernel), rk_inT 13 (by decide +kernel) (by decide +kernel), ⟨by decide +kernel, by decide +kernel, by decide +kernel⟩, by decide, by decide +kernel⟩, rk_inT 1021 (by decide +kernel) (by decide +kernel), rk_inT 1022 (by decide +kernel) (by decide +kernel)⟩
abbrev rk_mX11_finesIn : rk_M := (yX11_finesIn, cX11_finesIn, 2, (some .int))
theorem rk_eX11_finesIn : rk_MeV rk_mX11_finesIn 1 := ⟨⟨rk_inT 1119 (by decide +kernel) (by decide +kernel), rk_inT 13 (by decide +kernel) (by decide +kernel), ⟨by decide +kernel, by decide +kernel, by decide +kernel⟩, by decide, by decide +kernel⟩, rk_inT 1117 (by decide +kernel) (by decide +kernel), rk_inT 1118 (by decide +kernel) (by decide +kernel)⟩
abbrev rk_mX11_finesOf : rk_M := (yX11_finesOf, cX11_finesOf, 5, (some .int))
theorem rk_eX11_finesOf : rk_MeV rk_mX11_finesOf 1 := ⟨⟨rk_inT 1059 (by decide +kernel) (by decide +kernel), rk_inT 13 (by decide +kernel) (by decide +kernel), ⟨by decide +kernel, by decide +kernel, by decide +kernel⟩, by decide, by decide +kernel⟩, rk_inT 1058 (by decide +kernel) (by decide +kernel), rk_inP (by decide +kernel) (by decide +kernel)⟩
abbrev rk_mX11_hoursOf : rk_M := (yX11_hoursOf, cX11_hoursOf, 3, (some .int))
theorem rk_eX11_hoursOf : rk_MeV rk_mX11_hoursOf 2 := ⟨⟨rk_inT 977 (by decide +kernel) (by decide +kernel), rk_inT 13 (by decide +kernel) (by decide +kernel), ⟨by decide +kernel, by decide +kernel, by decide +kernel⟩, by decide, by decide +kernel⟩, rk_inT 976 (by decide +kernel) (by decide +kernel), rk_inP (by decide +kernel) (by decide +kernel)⟩
abbrev rk_mX11_in : rk_M := (yX11_in, cX11_in, 3, (some .boolean))
theorem rk_eX11_in : rk_MeS rk_mX11_in 3 := ⟨⟨rk_inT 928 (by decide +kernel) (by decide +kernel), rk_inT 13 (by decide +kernel) (by decide +kernel), ⟨by decide +kernel, by decide +kernel, by decide +kernel⟩, by decide, by decide +kernel⟩, rk_inT 927 (by decide +kernel) (by decide +kernel)⟩
abbrev rk_mX11_init : rk_M := (yX11_init, cX11_init, 2, none)
theorem rk_eX11_init : rk_MeI rk_mX11_init 0 := ⟨⟨rk_inT 877 (by decide +kernel) (by decide +kernel), rk_inT 13 (by decide +kernel) (by decide +kernel), ⟨by decide +kernel, by decide +kernel, by decide +kernel⟩, by decide, by decide +kernel⟩, rk_inT 876 (by decide +kernel) (by decide +kernel), rfl, rfl⟩
abbrev rk_mX11_isFibre : rk_M := (yX11_isFibre, cX11_isFibre, 1, (some .boolean))
theorem rk_eX11_isFibre : rk_MeS rk_mX11_isFibre 1 := ⟨⟨rk_inT 945 (by decide +kernel) (by decide +kernel), rk_inT 13 (by decide +kernel) (by decide +kernel), ⟨by decide +kernel, by decide +kernel, by decide +kernel⟩, by decide, by decide +kernel⟩, rk_inT 944 (by decide +kernel) (by decide +kernel)⟩
abbrev rk_mX11_isOrder : rk_M := (yX11_isOrder, cX11_isOrder, 2, (some .boolean))
theorem rk_eX11_isOrder : rk_MeV rk_mX11_isOrder 1 := ⟨⟨rk_inT 1027 (by decide +kernel) (by decide +kernel), rk_inT 13 (by decide +kernel) (by decide +kernel), ⟨by decide +kernel, by decide +kernel, by decide +kernel⟩, by decide, by decide +kernel⟩, rk_inT 1026 (by decide +kernel) (by decide +kernel), rk_inP (by decide +kernel) (by decide +kernel)⟩
abbrev rk_mX11_isPiece : rk_M := (yX11_isPiece, cX11_isPiece, 2, (some .boolean))
theorem rk_eX11_isPiece : rk_MeV rk_mX11_isPiece 1 := ⟨⟨rk_inT 993 (by decide +kernel) (by decide +kernel), rk_inT 13 (by decide +kernel) (by decide +kernel), ⟨by decide +kernel, by decide +kernel, by decide +kernel⟩, by decide, by decide +kernel⟩, rk_inT 992 (by decide +kernel) (by decide +kernel), rk_inP (by decide +kernel) (by decide +kernel)⟩
abbrev rk_mX11_join : rk_M := (yX11_join, cX11_join, 6, (some .int))
theorem rk_eX11_join : rk_MeV rk_mX11_join 2 := ⟨⟨rk_inT 989 (by decide +kernel) (by decide +kernel), rk_inT 13 (by decide +kernel) (by decide +kernel), ⟨by decide +kernel, by decide +kernel, by decide +kernel⟩, by decide, by decide +kernel⟩, rk_inT 987 (by decide +kernel) (by decide +kernel), rk_inT 988 (by decide +kernel) (by decide +kernel)⟩
abbrev rk_mX11_keep : rk_M := (yX11_keep, cX11_keep, 2, none)
theorem rk_eX11_keep : rk_MeV rk_mX11_keep 0 := ⟨⟨rk_inT 1103 (by decide +kernel) (by decide +kernel), rk_inT 13 (by decide +kernel) (by decide +kernel), ⟨by decide +kernel, by decide +kernel, by decide +kernel⟩, by decide, by decide +kernel⟩, rk_inT 1102 (by decide +kernel) (by decide +kernel), rk_inP (by decide +kernel) (by decide +kernel)⟩
abbrev rk_mX11_lay : rk_M := (yX11_lay, cX11_lay, 7, (some .int))
theorem rk_eX11_lay : rk_MeV rk_mX11_lay 4 := ⟨⟨rk_inT 955 (by decide +kernel) (by decide +kernel), rk_inT 13 (by decide +kernel) (by decide +kernel), ⟨by decide +kernel, by decide +kernel, by decide +kernel⟩, by decide, by decide +kernel⟩, rk_inT 953 (by decide +kernel) (by decide +kernel), rk_inT 954 (by decide +kernel) (by decide +kernel)⟩
abbrev rk_mX11_least : rk_M := (yX11_least, cX11_least, 1, (some .int))
theorem rk_eX11_least : rk_MeS rk_mX11_least 1 := ⟨⟨rk_inT 931 (by decide +kernel) (by decide +kernel), rk_inT 13 (by decide +kernel) (by decide +kernel), ⟨by decide +kernel, by decide +kernel, by decide +kernel⟩, by decide, by decide +kernel⟩, rk_inT 930 (by decide +kernel) (by decide +kernel)⟩
abbrev rk_mX11_leastYarns : rk_M := (yX11_leastYarns, cX11_leastYarns, 5, (some .int))
theorem rk_eX11_leastYarns : rk_MeV rk_mX11_leastYarns 3 := ⟨⟨rk_inT 1095 (by decide +kernel) (by decide +kernel), rk_inT 13 (by decide +kernel) (by decide +kernel), ⟨by decide +kernel, by decide +kernel, by decide +kernel⟩, by decide, by decide +kernel⟩, rk_inT 1093 (by decide +kernel) (by decide +kernel), rk_inT 1094 (by decide +kernel) (by decide +kernel)⟩
abbrev rk_mX11_leftHours : rk_M := (yX11_leftHours, cX11_leftHours, 1, (some .int))
theorem rk_eX11_leftHours : rk_MeV rk_mX11_leftHours 0 := ⟨⟨rk_inT 981 (by decide +kernel) (by decide +kernel), rk_inT 13 (by decide +kernel) (by decide +kernel), ⟨by decide +kernel, by decide +kernel, by decide +kernel⟩, by decide, by decide +kernel⟩, rk_inT 980 (by decide +kernel) (by decide +kernel), rk_inP (by decide +kernel) (by decide +kernel)⟩
abbrev rk_mX11_longest : rk_M := (yX11_longest, cX11_longest, 5, (some .int))
theorem rk_eX11_longest : rk_MeV rk_mX11_longest 3 := ⟨⟨rk_inT 1091 (by decide +kernel) (by decide +kernel), rk_inT 13 (by decide +kernel) (by decide +kernel), ⟨by decide +kernel, by decide +kernel, by decide +kernel⟩, by decide, by decide +kernel⟩, rk_inT 1089 (by decide +kernel) (by decide +kernel), rk_inT 1090 (by decide +kernel) (by decide +kernel)⟩
abbrev rk_mX11_most : rk_M := (yX11_most, cX11_most, 1, (some .int))
theorem rk_eX11_most : rk_MeS rk_mX11_most 1 := ⟨⟨rk_inT 934 (by decide +kernel) (by decide +kernel), rk_inT 13 (by decide +kernel) (by decide +kernel), ⟨by decide +kernel, by decide +kernel, by decide +kernel⟩, by decide, by decide +kernel⟩, rk_inT 933 (by decide +kernel) (by decide +kernel)⟩
abbrev rk_mX11_need : rk_M := (yX11_need, cX11_need, 2, none)
theorem rk_eX11_need : rk_MeV rk_mX11_need 1 := ⟨⟨rk_inT 1152 (by decide +kernel) (by decide +kernel), rk_inT 13 (by decide +kernel) (by decide +kernel), ⟨by decide +kernel, by decide +kernel, by decide +kernel⟩, by decide, by decide +kernel⟩, rk_inT 1151 (by decide +kernel) (by decide +kernel), rk_inP (by decide +kernel) (by decide +kernel)⟩
abbrev rk_mX11_newStrength : rk_M := (yX11_newStrength, cX11_newStrength, 4, (some .int))
theorem rk_eX11_newStrength : rk_MeV rk_mX11_newStrength 3 := ⟨⟨rk_inT 1087 (by decide +kernel) (by decide +kernel), rk_inT 13 (by decide +kernel) (by decide +kernel), ⟨by decide +kernel, by decide +kernel, by decide +kernel⟩, by decide, by decide +kernel⟩, rk_inT 1086 (by decide +kernel) (by decide +kernel), rk_inP (by decide +kernel) (by decide +kernel)⟩
abbrev rk_mX11_number : rk_M := (yX11_number, cX11_number, 2, (some .int))
theorem rk_eX11_number : rk_MeV rk_mX11_number 0 := ⟨⟨rk_inT 1156 (by decide +kernel) (by decide +kernel), rk_inT 13 (by decide +kernel) (by decide +kernel), ⟨by decide +kernel, by decide +kernel, by decide +kernel⟩, by decide, by decide +kernel⟩, rk_inT 1155 (by decide +kernel) (by decide +kernel), rk_inP (by decide +kernel) (by decide +kernel)⟩
abbrev rk_mX11_ofOrder : rk_M := (yX11_ofOrder, cX11_ofOrder, 3, (some .int))
theorem rk_eX11_ofOrder : rk_MeV rk_mX11_ofOrder 2 := ⟨⟨rk_inT 1067 (by decide +kernel) (by decide +kernel), rk_inT 13 (by decide +kernel) (by decide +kernel), ⟨by decide +kernel, by decide +kernel, by decide +kernel⟩, by decide, by decide +kernel⟩, rk_inT 1065 (by decide +kernel) (by decide +kernel), rk_inT 1066 (by decide +kernel) (by decide +kernel)⟩
abbrev rk_mX11_ofPiece : rk_M := (yX11_ofPiece, cX11_ofPiece, 3, (some .int))
theorem rk_eX11_ofPiece : rk_MeV rk_mX11_ofPiece 2 := ⟨⟨rk_inT 997 (by decide +kernel) (by decide +kernel), rk_inT 13 (by decide +kernel) (by decide +kernel), ⟨by decide +kernel, by decide +kernel, by decide +kernel⟩, by decide, by decide +kernel⟩, rk_inT 996 (by decide +kernel) (by decide +kernel), rk_inP (by decide +kernel) (by decide +kernel)⟩
abbrev rk_mX11_order : rk_M := (yX11_order, cX11_order, 8, (some .int))
theorem rk_eX11_order : rk_MeV rk_mX11_order 6 := ⟨⟨rk_inT 1017 (by decide +kernel) (by decide +kernel), rk_inT 13 (by decide +kernel) (by decide +kernel), ⟨by decide +kernel, by decide +kernel, by decide +kernel⟩, by decide, by decide +kernel⟩, rk_inT 1015 (by decide +kernel) (by decide +kernel), rk_inT 1016 (by decide +kernel) (by decide +kernel)⟩
abbrev rk_mX11_orderAt : rk_M := (yX11_orderAt, cX11_orderAt, 3, (some .int))
theorem rk_eX11_orderAt : rk_MeV rk_mX11_orderAt 2 := ⟨⟨rk_inT 1039 (by decide +kernel) (by decide +kernel), rk_inT 13 (by decide +kernel) (by decide +kernel), ⟨by decide +kernel, by decide +kernel, by decide +kernel⟩, by decide, by decide +kernel⟩, rk_inT 1038 (by decide +kernel) (by decide +kernel), rk_inP (by decide +kernel) (by decide +kernel)⟩
abbrev rk_mX11_pass : rk_M := (yX11_pass, cX11_pass, 2, (some .int))
theorem rk_eX11_pass : rk_MeV rk_mX11_pass 1 := ⟨⟨rk_inT 1055 (by decide +kernel) (by decide +kernel), rk_inT 13 (by decide +kernel) (by decide +kernel), ⟨by decide +kernel, by decide +kernel, by decide +kernel⟩, by decide, by decide +kernel⟩, rk_inT 1053 (by decide +kernel) (by decide +kernel), rk_inT 1054 (by decide +kernel) (by decide +kernel)⟩
abbrev rk_mX11_piece : rk_M := (yX11_piece, cX11_piece, 3, (some .int))
theorem rk_eX11_piece : rk_MeV rk_mX11_piece 2 := ⟨⟨rk_inT 1063 (by decide +kernel) (by decide +kernel), rk_inT 13 (by decide +kernel) (by decide +kernel), ⟨by decide +kernel, by decide +kernel, by decide +kernel⟩, by decide, by decide +kernel⟩, rk_inT 1061 (by decide +kernel) (by decide +kernel), rk_inT 1062 (by decide +kernel) (by decide +kernel)⟩
abbrev rk_mX11_put : rk_M := (yX11_put, cX11_put, 7, (some .int))
theorem rk_eX11_put : rk_MeV rk_mX11_put 1 := ⟨⟨rk_inT 1123 (by decide +kernel) (by decide +kernel), rk_inT 13 (by decide +kernel) (by decide +kernel), ⟨by decide +kernel, by decide +kernel, by decide +kernel⟩, by decide, by decide +kernel⟩, rk_inT 1121 (by decide +kernel) (by decide +kernel), rk_inT 1122 (by decide +kernel) (by decide +kernel)⟩
abbrev rk_mX11_qualityOf : rk_M := (yX11_qualityOf, cX11_qualityOf, 4, (some .int))
theorem rk_eX11_qualityOf : rk_MeV rk_mX11_qualityOf 1 := ⟨⟨rk_inT 985 (by decide +kernel) (by decide +kernel), rk_inT 13 (by decide +kernel) (by decide +kernel), ⟨by decide +kernel, by decide +kernel, by decide +kernel⟩, by decide, by decide +kernel⟩, rk_inT 984 (by decide +kernel) (by decide +kernel), rk_inP (by decide +kernel) (by decide +kernel)⟩
abbrev rk_mX11_readOne : rk_M := (yX11_readOne, cX11_readOne, 3, none)
theorem rk_eX11_readOne : rk_MeV rk_mX11_readOne 0 := ⟨⟨rk_inT 1140 (by decide +kernel) (by decide +kernel), rk_inT 13 (by decide +kernel) (by decide +kernel), ⟨by decide +kernel, by decide +kernel, by decide +kernel⟩, by decide, by decide +kernel⟩, rk_inT 1139 (by decide +kernel) (by decide +kernel), rk_inP (by decide +kernel) (by decide +kernel)⟩
abbrev rk_mX11_record : rk_M := (yX11_record, cX11_record, 2, none)
theorem rk_eX11_record : rk_MeV rk_mX11_record 0 := ⟨⟨rk_inT 938 (by decide +kernel) (by decide +kernel), rk_inT 13 (by decide +kernel) (by decide +kernel), ⟨by decide +kernel, by decide +kernel, by decide +kernel⟩, by decide, by decide +kernel⟩, rk_inT 937 (by decide +kernel) (by decide +kernel), rk_inP (by decide +kernel) (by decide +kernel)⟩
abbrev rk_mX11_restore : rk_M := (yX11_restore, cX11_restore, 3, (some .int))
theorem rk_eX11_restore : rk_MeV rk_mX11_restore 1 := ⟨⟨rk_inT 1183 (by decide +kernel) (by decide +kernel), rk_inT 13 (by decide +kernel) (by decide +kernel), ⟨by decide +kernel, by decide +kernel, by decide +kernel⟩, by decide, by decide +kernel⟩, rk_inT 1181 (by decide +kernel) (by decide +kernel), rk_inT 1182 (by decide +kernel) (by decide +kernel)⟩
abbrev rk_mX11_save : rk_M := (yX11_save, cX11_save, 3, (some .int))
theorem rk_eX11_save : rk_MeV rk_mX11_save 1 := ⟨⟨rk_inT 1179 (by decide +kernel) (by decide +kernel), rk_inT 13 (by decide +kernel) (by decide +kernel), ⟨by decide +kernel, by decide +kernel, by decide +kernel⟩, by decide, by decide +kernel⟩, rk_inT 1177 (by decide +kernel) (by decide +kernel), rk_inT 1178 (by decide +kernel) (by decide +kernel)⟩
abbrev rk_mX11_set : rk_M := (yX11_set, cX11_set, 4, (some .int))
theorem rk_eX11_set : rk_MeV rk_mX11_set 2 := ⟨⟨rk_inT 925 (by decide +kernel) (by decide +kernel), rk_inT 13 (by decide +kernel) (by decide +kernel), ⟨by decide +kernel, by decide +kernel, by decide +kernel⟩, by decide, by decide +kernel⟩, rk_inT 923 (by decide +kernel) (by decide +kernel), rk_inT 924 (by decide +kernel) (by decide +kernel)⟩
abbrev rk_mX11_sign : rk_M := (yX11_sign, cX11_sign, 1, (some .int))
theorem rk_eX11_sign : rk_MeV rk_mX11_sign 0 := ⟨⟨rk_inT 1144 (by decide +kernel) (by decide +kernel), rk_inT 13 (by decide +kernel) (by decide +kernel), ⟨by decide +kernel, by decide +kernel, by decide +kernel⟩, by decide, by decide +kernel⟩, rk_inT 1143 (by decide +kernel) (by decide +kernel), rk_inP (by decide +kernel) (by decide +kernel)⟩
abbrev rk_mX11_spin : rk_M := (yX11_spin, cX11_spin, 4, (some .int))
theorem rk_eX11_spin : rk_MeV rk_mX11_spin 2 := ⟨⟨rk_inT 949 (by decide +kernel) (by decide +kernel), rk_inT 13 (by decide +kernel) (by decide +kernel), ⟨by decide +kernel, by decide +kernel, by decide +kernel⟩, by decide, by decide +kernel⟩, rk_inT 947 (by decide +kernel) (by decide +kernel), rk_inT 948 (by decide +kernel) (by decide +kernel)⟩
abbrev rk_mX11_strandOf : rk_M := (yX11_strandOf, cX11_strandOf, 2, (some .int))
theorem rk_eX11_strandOf : rk_MeV rk_mX11_strandOf 1 := ⟨⟨rk_inT 966 (by decide +kernel) (by decide +kernel), rk_inT 13 (by decide +kernel) (by decide +kernel), ⟨by decide +kernel, by decide +kernel, by decide +kernel⟩, by decide, by decide +kernel⟩, rk_inT 965 (by decide +kernel) (by decide +kernel), rk_inP (by decide +kernel) (by decide +kernel)⟩
abbrev rk_mX11_strengthOf : rk_M := (yX11_strengthOf, cX11_strengthOf, 3, (some .int))
theorem rk_eX11_strengthOf : rk_MeV rk_mX11_strengthOf 1 := ⟨⟨rk_inT 1009 (by decide +kernel) (by decide +kernel), rk_inT 13 (by decide +kernel) (by decide +kernel), ⟨by decide +kernel, by decide +kernel, by decide +kernel⟩, by decide, by decide +kernel⟩, rk_inT 1008 (by decide +kernel) (by decide +kernel), rk_inP (by decide +kernel) (by decide +kernel)⟩
abbrev rk_mX11_suiting : rk_M := (yX11_suiting, cX11_suiting, 4, (some .int))
theorem rk_eX11_suiting : rk_MeV rk_mX11_suiting 1 := ⟨⟨rk_inT 1071 (by decide +kernel) (by decide +kernel), rk_inT 13 (by decide +kernel) (by decide +kernel), ⟨by decide +kernel, by decide +kernel, by decide +kernel⟩, by decide, by decide +kernel⟩, rk_inT 1070 (by decide +kernel) (by decide +kernel), rk_inP (by decide +kernel) (by decide +kernel)⟩
abbrev rk_mX11_suits : rk_M := (yX11_suits, cX11_suits, 4, (some .boolean))
theorem rk_eX11_suits : rk_MeV rk_mX11_suits 2 := ⟨⟨rk_inT 1035 (by decide +kernel) (by decide +kernel), rk_inT 13 (by decide +kernel) (by decide +kernel), ⟨by decide +kernel, by decide +kernel, by decide +kernel⟩, by decide, by decide +kernel⟩, rk_inT 1034 (by decide +kernel) (by decide +kernel), rk_inP (by decide +kernel) (by decide +kernel)⟩
abbrev rk_mX11_takes : rk_M := (yX11_takes, cX11_takes, 6, (some .int))
theorem rk_eX11_takes : rk_MeV rk_mX11_takes 5 := ⟨⟨rk_inT 1083 (by decide +kernel) (by decide +kernel), rk_inT 13 (by decide +kernel) (by decide +kernel), ⟨by decide +kernel, by decide +kernel, by decide +kernel⟩, by decide, by decide +kernel⟩, rk_inT 1081 (by decide +kernel) (by decide +kernel), rk_inT 1082 (by decide +kernel) (by decide +kernel)⟩
abbrev rk_mX11_test : rk_M := (yX11_test, cX11_test, 4, (some .int))
theorem rk_eX11_test : rk_MeV rk_mX11_test 1 := ⟨⟨rk_inT 1005 (by decide +kernel) (by decide +kernel), rk_inT 13 (by decide +kernel) (by decide +kernel), ⟨by decide +kernel, by decide +kernel, by decide +kernel⟩, by decide, by decide +kernel⟩, rk_inT 1003 (by decide +kernel) (by decide +kernel), rk_inT 1004 (by decide +kernel) (by decide +kernel)⟩
abbrev rk_mX11_undo : rk_M := (yX11_undo, cX11_undo, 2, (some .int))
theorem rk_eX11_undo : rk_MeV rk_mX11_undo 0 := ⟨⟨rk_inT 1175 (by decide +kernel) (by decide +kernel), rk_inT 13 (by decide +kernel) (by decide +kernel), ⟨by decide +kernel, by decide +kernel, by decide +kernel⟩, by decide, by decide +kernel⟩, rk_inT 1173 (by decide +kernel) (by decide +kernel), rk_inT 1174 (by decide +kernel) (by decide +kernel)⟩
abbrev rk_mX11_up : rk_M := (yX11_up, cX11_up, 2, (some .int))
theorem rk_eX11_up : rk_MeS rk_mX11_up 2 := ⟨⟨rk_inT 969 (by decide +kernel) (by decide +kernel), rk_inT 13 (by decide +kernel) (by decide +kernel), ⟨by decide +kernel, by decide +kernel, by decide +kernel⟩, by decide, by decide +kernel⟩, rk_inT 968 (by decide +kernel) (by decide +kernel)⟩
abbrev rk_mX11_wipe : rk_M := (yX11_wipe, cX11_wipe, 2, (some .int))
theorem rk_eX11_wipe : rk_MeV rk_mX11_wipe 0 := ⟨⟨rk_inT 1128 (by decide +kernel) (by decide +kernel), rk_inT 13 (by decide +kernel) (by decide +kernel), ⟨by decide +kernel, by decide +kernel, by decide +kernel⟩, by decide, by decide +kernel⟩, rk_inT 1126 (by decide +kernel) (by decide +kernel), rk_inT 1127 (by decide +kernel) (by decide +kernel)⟩
abbrev rk_mX11_wouldFill : rk_M := (yX11_wouldFill, cX11_wouldFill, 7, (some .int))
theorem rk_eX11_wouldFill : rk_MeV rk_mX11_wouldFill 2 := ⟨⟨rk_inT 1099 (by decide +kernel) (by decide +kernel), rk_inT 13 (by decide +kernel) (by decide +kernel), ⟨by decide +kernel, by decide +kernel, by decide +kernel⟩, by decide, by decide +kernel⟩, rk_inT 1097 (by decide +kernel) (by decide +kernel), rk_inT 1098 (by decide +kernel) (by decide +kernel)⟩
abbrev rk_mX11_yarnOf : rk_M := (yX11_yarnOf, cX11_yarnOf, 2, (some .int))
theorem rk_eX11_yarnOf : rk_MeV rk_mX11_yarnOf 1 := ⟨⟨rk_inT 973 (by decide +kernel) (by decide +kernel), rk_inT 13 (by decide +kernel) (by decide +kernel), ⟨by decide +kernel, by decide +kernel, by decide +kernel⟩, by decide, by decide +kernel⟩, rk_inT 972 (by decide +kernel) (by decide +kernel), rk_inP (by decide +kernel) (by decide +kernel)⟩
abbrev rk_mX1_init : rk_M := (yX1_init, cX1_init, 2, none)
theorem rk_eX1_init : rk_MeI rk_mX1_init 0 := ⟨⟨rk_inT 237 (by decide +kernel) (by decide +kernel), rk_inT 9 (by decide +kernel) (by decide +kernel), ⟨by decide +kernel, by decide +kernel, by decide +kernel⟩, by decide, by decide +kernel⟩, rk_inT 236 (by decide +kernel) (by decide +kernel), rfl, rfl⟩
abbrev rk_mX1_keep : rk_M := (yX1_keep, cX1_keep, 3, none)
theorem rk_eX1_keep : rk_MeV rk_mX1_keep 0 := ⟨⟨rk_inT 387 (by decide +kernel) (by decide +kernel), rk_inT 9 (by decide +kernel) (by decide +kernel), ⟨by decide +kernel, by decide +kernel, by decide +kernel⟩, by decide, by decide +kernel⟩, rk_inT 386 (by decide +kernel) (by decide +kernel), rk_inP (by decide +kernel) (by decide +kernel)⟩
abbrev rk_mX1_prepare : rk_M := (yX1_prepare, cX1_prepare, 2, none)
theorem rk_eX1_prepare : rk_MeV rk_mX1_prepare 1 := ⟨⟨rk_inT 343 (by decide +kernel) (by decide +kernel), rk_inT 9 (by decide +kernel) (by decide +kernel), ⟨by decide +kernel, by decide +kernel, by decide +kernel⟩, by decide, by decide +kernel⟩, rk_inT 341 (by decide +kernel) (by decide +kernel), rk_inT 342 (by decide +kernel) (by decide +kernel)⟩
abbrev rk_mX1_settle : rk_M := (yX1_settle, cX1_settle, 2, (some .int))
theorem rk_eX1_settle : rk_MeV rk_mX1_settle 1 := ⟨⟨rk_inT 383 (by decide +kernel) (by decide +kernel), rk_inT 9 (by decide +kernel) (by decide +kernel), ⟨by decide +kernel, by decide +kernel, by decide +kernel⟩, by decide, by decide +kernel⟩, rk_inT 381 (by decide +kernel) (by decide +kernel), rk_inT 382 (by decide +kernel) (by decide +kernel)⟩
abbrev rk_mX1_stepBack : rk_M := (yX1_stepBack, cX1_stepBack, 2, (some .int))
theorem rk_eX1_stepBack : rk_MeV rk_mX1_stepBack 1 := ⟨⟨rk_inT 863 (by decide +kernel) (by decide +kernel), rk_inT 9 (by decide +kernel) (by decide +kernel), ⟨by decide +kernel, by decide +kernel, by decide +kernel⟩, by decide, by decide +kernel⟩, rk_inT 861 (by decide +kernel) (by decide +kernel), rk_inT 862 (by decide +kernel) (by decide +kernel)⟩
abbrev rk_mX2_copyFrom : rk_M := (yX2_copyFrom, cX2_copyFrom, 2, none)
theorem rk_eX2_copyFrom : rk_MeV rk_mX2_copyFrom 1 := ⟨⟨rk_inT 368 (by decide +kernel) (by decide +kernel), rk_inT 8 (by decide +kernel) (by decide +kernel), ⟨by decide +kernel, by decide +kernel, by decide +kernel⟩, by decide, by decide +kernel⟩, rk_inT 366 (by decide +kernel) (by decide +kernel), rk_inT 367 (by decide +kernel) (by decide +kernel)⟩
abbrev rk_mX2_init : rk_M := (yX2_init, cX2_init, 1, none)
theorem rk_eX2_init : rk_MeI rk_mX2_init 0 := ⟨⟨rk_inT 149 (by decide +kernel) (by decide +kernel), rk_inT 8 (by decide +kernel) (by decide +kernel), ⟨by decide +kernel, by decide +kernel, by decide +kernel⟩, by decide, by decide +kernel⟩, rk_inT 148 (by decide +kernel) (by decide +kernel), rfl, rfl⟩
abbrev rk_mX3_append : rk_M := (yX3_append, cX3_append, 5, (some .int))
theorem rk_eX3_append : rk_MeV rk_mX3_append 1 := ⟨⟨rk_inT 724 (by decide +kernel) (by decide +kernel), rk_inT 11 (by decide +kernel) (by decide +kernel), ⟨by decide +kernel, by decide +kernel, by decide +kernel⟩, by decide, by decide +kernel⟩, rk_inT 722 (by decide +kernel) (by decide +kernel), rk_inT 723 (by decide +kernel) (by decide +kernel)⟩
abbrev rk_mX3_clear : rk_M := (yX3_clear, cX3_clear, 2, (some .int))
theorem rk_eX3_clear : rk_MeV rk_mX3_clear 0 := ⟨⟨rk_inT 740 (by decide +kernel) (by decide +kernel), rk_inT 11 (by decide +kernel) (by decide +kernel), ⟨by decide +kernel, by decide +kernel, by decide +kernel⟩, by decide, by decide +kernel⟩, rk_inT 738 (by decide +kernel) (by decide +kernel), rk_inT 739 (by decide +kernel) (by decide +kernel)⟩
abbrev rk_mX3_codeAt : rk_M := (yX3_codeAt, cX3_codeAt, 3, (some .int))
theorem rk_eX3_codeAt : rk_MeS rk_mX3_codeAt 2 := ⟨⟨rk_inT 730 (by decide +kernel) (by decide +kernel), rk_inT 11 (by decide +kernel) (by decide +kernel), ⟨by decide +kernel, by decide +kernel, by decide +kernel⟩, by decide, by decide +kernel⟩, rk_inT 729 (by decide +kernel) (by decide +kernel)⟩
abbrev rk_mX3_countOf : rk_M := (yX3_countOf, cX3_countOf, 3, (some .int))
theorem rk_eX3_countOf : rk_MeS rk_mX3_countOf 1 := ⟨⟨rk_inT 727 (by decide +kernel) (by decide +kernel), rk_inT 11 (by decide +kernel) (by decide +kernel), ⟨by decide +kernel, by decide +kernel, by decide +kernel⟩, by decide, by decide +kernel⟩, rk_inT 726 (by decide +kernel) (by decide +kernel)⟩
abbrev rk_mX3_init : rk_M := (yX3_init, cX3_init, 1, none)
theorem rk_eX3_init : rk_MeI rk_mX3_init 0 := ⟨⟨rk_inT 260 (by decide +kernel) (by decide +kernel), rk_inT 11 (by decide +kernel) (by decide +kernel), ⟨by decide +kernel, by decide +kernel, by decide +kernel⟩, by decide, by decide +kernel⟩, rk_inT 259 (by decide +kernel) (by decide +kernel), rfl, rfl⟩
abbrev rk_mX4_copyFrom : rk_M := (yX4_copyFrom, cX4_copyFrom, 2, none)
theorem rk_eX4_copyFrom : rk_MeV rk_mX4_copyFrom 1 := ⟨⟨rk_inT 359 (by decide +kernel) (by decide +kernel), rk_inT 6 (by decide +kernel) (by decide +kernel), ⟨by decide +kernel, by decide +kernel, by decide +kernel⟩, by decide, by decide +kernel⟩, rk_inT 357 (by decide +kernel) (by decide +kernel), rk_inT 358 (by decide +kernel) (by decide +kernel)⟩
abbrev rk_mX4_init : rk_M := (yX4_init, cX4_init, 1, none)
theorem rk_eX4_init : rk_MeI rk_mX4_init 0 := ⟨⟨rk_inT 78 (by decide +kernel) (by decide +kernel), rk_inT 6 (by decide +kernel) (by decide +kernel), ⟨by decide +kernel, by decide +kernel, by decide +kernel⟩, by decide, by decide +kernel⟩, rk_inT 77 (by decide +kernel) (by decide +kernel), rfl, rfl⟩
abbrev rk_mX4_isLike : rk_M := (yX4_isLike, cX4_isLike, 2, (some .boolean))
theorem rk_eX4_isLike : rk_MeV rk_mX4_isLike 1 := ⟨⟨rk_inT 493 (by decide +kernel) (by decide +kernel), rk_inT 6 (by decide +kernel) (by decide +kernel), ⟨by decide +kernel, by decide +kernel, by decide +kernel⟩, by decide, by decide +kernel⟩, rk_inT 491 (by decide +kernel) (by decide +kernel), rk_inT 492 (by decide +kernel) (by decide +kernel)⟩
abbrev rk_mX4_yarnIn : rk_M := (yX4_yarnIn, cX4_yarnIn, 2, (some .int))
theorem rk_eX4_yarnIn : rk_MeV rk_mX4_yarnIn 1 := ⟨⟨rk_inT 525 (by decide +kernel) (by decide +kernel), rk_inT 6 (by decide +kernel) (by decide +kernel), ⟨by decide +kernel, by decide +kernel, by decide +kernel⟩, by decide, by decide +kernel⟩, rk_inT 523 (by decide +kernel) (by decide +kernel), rk_inT 524 (by decide +kernel) (by decide +kernel)⟩
abbrev rk_mX5_firstFault : rk_M := (yX5_firstFault, cX5_firstFault, 2, (some .int))
theorem rk_eX5_firstFault : rk_MeV rk_mX5_firstFault 0 := ⟨⟨rk_inT 748 (by decide +kernel) (by decide +kernel), rk_inT 10 (by decide +kernel) (by decide +kernel), ⟨by decide +kernel, by decide +kernel, by decide +kernel⟩, by decide, by decide +kernel⟩, rk_inT 746 (by decide +kernel) (by decide +kernel), rk_inT 747 (by decide +kernel) (by decide +kernel)⟩
abbrev rk_mX5_here : rk_M := (yX5_here, cX5_here, 1, (some .int))
theorem rk_eX5_here : rk_MeV rk_mX5_here 0 := ⟨⟨rk_inT 764 (by decide +kernel) (by decide +kernel), rk_inT 10 (by decide +kernel) (by decide +kernel), ⟨by decide +kernel, by decide +kernel, by decide +kernel⟩, by decide, by decide +kernel⟩, rk_inT 763 (by decide +kernel) (by decide +kernel), rk_inP (by decide +kernel) (by decide +kernel)⟩
abbrev rk_mX5_init : rk_M := (yX5_init, cX5_init, 1, none)
theorem rk_eX5_init : rk_MeI rk_mX5_init 0 := ⟨⟨rk_inT 254 (by decide +kernel) (by decide +kernel), rk_inT 10 (by decide +kernel) (by decide +kernel), ⟨by decide +kernel, by decide +kernel, by decide +kernel⟩, by decide, by decide +kernel⟩, rk_inT 253 (by decide +kernel) (by decide +kernel), rfl, rfl⟩
abbrev rk_mX5_isDigit : rk_M := (yX5_isDigit, cX5_isDigit, 1, (some .boolean))
theorem rk_eX5_isDigit : rk_MeS rk_mX5_isDigit 1 := ⟨⟨rk_inT 844 (by decide +kernel) (by decide +kernel), rk_inT 10 (by decide +kernel) (by decide +kernel), ⟨by decide +kernel, by decide +kernel, by decide +kernel⟩, by decide, by decide +kernel⟩, rk_inT 843 (by decide +kernel) (by decide +kernel)⟩
abbrev rk_mX5_keep : rk_M := (yX5_keep, cX5_keep, 2, none)
theorem rk_eX5_keep : rk_MeV rk_mX5_keep 1 := ⟨⟨rk_inT 837 (by decide +kernel) (by decide +kernel), rk_inT 10 (by decide +kernel) (by decide +kernel), ⟨by decide +kernel, by decide +kernel, by decide +kernel⟩, by decide, by decide +kernel⟩, rk_inT 836 (by decide +kernel) (by decide +kernel), rk_inP (by decide +kernel) (by decide +kernel)⟩
abbrev rk_mX5_nextJob : rk_M := (yX5_nextJob, cX5_nextJob, 3, (some .boolean))
theorem rk_eX5_nextJob : rk_MeV rk_mX5_nextJob 0 := ⟨⟨rk_inT 756 (by decide +kernel) (by decide +kernel), rk_inT 10 (by decide +kernel) (by decide +kernel), ⟨by decide +kernel, by decide +kernel, by decide +kernel⟩, by decide, by decide +kernel⟩, rk_inT 754 (by decide +kernel) (by decide +kernel), rk_inT 755 (by decide +kernel) (by decide +kernel)⟩
abbrev rk_mX5_readDigit : rk_M := (yX5_readDigit, cX5_readDigit, 3, (some .boolean))
theorem rk_eX5_readDigit : rk_MeV rk_mX5_readDigit 2 := ⟨⟨rk_inT 832 (by decide +kernel) (by decide +kernel), rk_inT 10 (by decide +kernel) (by decide +kernel), ⟨by decide +kernel, by decide +kernel, by decide +kernel⟩, by decide, by decide +kernel⟩, rk_inT 831 (by decide +kernel) (by decide +kernel), rk_inP (by decide +kernel) (by decide +kernel)⟩
abbrev rk_mX5_readNumber : rk_M := (yX5_readNumber, cX5_readNumber, 3, (some .boolean))
theorem rk_eX5_readNumber : rk_MeV rk_mX5_readNumber 0 := ⟨⟨rk_inT 841 (by decide +kernel) (by decide +kernel), rk_inT 10 (by decide +kernel) (by decide +kernel), ⟨by decide +kernel, by decide +kernel, by decide +kernel⟩, by decide, by decide +kernel⟩, rk_inT 840 (by decide +kernel) (by decide +kernel), rk_inP (by decide +kernel) (by decide +kernel)⟩
abbrev rk_mX5_readPart : rk_M := (yX5_readPart, cX5_readPart, 2, (some .boolean))
theorem rk_eX5_readPart : rk_MeV rk_mX5_readPart 1 := ⟨⟨rk_inT 828 (by decide +kernel) (by decide +kernel), rk_inT 10 (by decide +kernel) (by decide +kernel), ⟨by decide +kernel, by decide +kernel, by decide +kernel⟩, by decide, by decide +kernel⟩, rk_inT 827 (by decide +kernel) (by decide +kernel), rk_inP (by decide +kernel) (by decide +kernel)⟩
abbrev rk_mX5_readSign : rk_M := (yX5_readSign, cX5_readSign, 2, (some .boolean))
theorem rk_eX5_readSign : rk_MeV rk_mX5_readSign 1 := ⟨⟨rk_inT 760 (by decide +kernel) (by decide +kernel), rk_inT 10 (by decide +kernel) (by decide +kernel), ⟨by decide +kernel, by decide +kernel, by decide +kernel⟩, by decide, by decide +kernel⟩, rk_inT 759 (by decide +kernel) (by decide +kernel), rk_inP (by decide +kernel) (by decide +kernel)⟩
abbrev rk_mX5_rewind : rk_M := (yX5_rewind, cX5_rewind, 1, none)
theorem rk_eX5_rewind : rk_MeV rk_mX5_rewind 0 := ⟨⟨rk_inT 752 (by decide +kernel) (by decide +kernel), rk_inT 10 (by decide +kernel) (by decide +kernel), ⟨by decide +kernel, by decide +kernel, by decide +kernel⟩, by decide, by decide +kernel⟩, rk_inT 750 (by decide +kernel) (by decide +kernel), rk_inT 751 (by decide +kernel) (by decide +kernel)⟩
abbrev rk_mX5_shapeOf : rk_M := (yX5_shapeOf, cX5_shapeOf, 1, (some (.object "java/lang/String")))
theorem rk_eX5_shapeOf : rk_MeS rk_mX5_shapeOf 1 := ⟨⟨rk_inT 767 (by decide +kernel) (by decide +kernel), rk_inT 10 (by decide +kernel) (by decide +kernel), ⟨by decide +kernel, by decide +kernel, by decide +kernel⟩, by decide, by decide +kernel⟩, rk_inT 766 (by decide +kernel) (by decide +kernel)⟩
abbrev rk_mX6_aboutNewRope : rk_M := (yX6_aboutNewRope, cX6_aboutNewRope, 6, (some .int))
theorem rk_eX6_aboutNewRope : rk_MeV rk_mX6_aboutNewRope 5 := ⟨⟨rk_inT 641 (by decide +kernel) (by decide +kernel), rk_inT 3 (by decide +kernel) (by decide +kernel), ⟨by decide +kernel, by decide +kernel, by decide +kernel⟩, by decide, by decide +kernel⟩, rk_inT 639 (by decide +kernel) (by decide +kernel), rk_inT 640 (by decide +kernel) (by decide +kernel)⟩
abbrev rk_mX6_copyFrom : rk_M := (yX6_copyFrom, cX6_copyFrom, 2, none)
theorem rk_eX6_copyFrom : rk_MeV rk_mX6_copyFrom 1 := ⟨⟨rk_inT 351 (by decide +kernel) (by decide +kernel), rk_inT 3 (by decide +kernel) (by decide +kernel), ⟨by decide +kernel, by decide +kernel, by decide +kernel⟩, by decide, by decide +kernel⟩, rk_inT 349 (by decide +kernel) (by decide +kernel), rk_inT 350 (by decide +kernel) (by decide +kernel)⟩
abbrev rk_mX6_fewestYarns : rk_M := (yX6_fewestYarns, cX6_fewestYarns, 5, (some .int))
theorem rk_eX6_fewestYarns : rk_MeV rk_mX6_fewestYarns 3 := ⟨⟨rk_inT 665 (by decide +kernel) (by decide +kernel), rk_inT 3 (by decide +kernel) (by decide +kernel), ⟨by decide +kernel, by decide +kernel, by decide +kernel⟩, by decide, by decide +kernel⟩, rk_inT 663 (by decide +kernel) (by decide +kernel), rk_inT 664 (by decide +kernel) (by decide +kernel)⟩
abbrev rk_mX6_hoursFor : rk_M := (yX6_hoursFor, cX6_hoursFor, 4, (some .int))
theorem rk_eX6_hoursFor : rk_MeV rk_mX6_hoursFor 2 := ⟨⟨rk_inT 451 (by decide +kernel) (by decide +kernel), rk_inT 3 (by decide +kernel) (by decide +kernel), ⟨by decide +kernel, by decide +kernel, by decide +kernel⟩, by decide, by decide +kernel⟩, rk_inT 449 (by decide +kernel) (by decide +kernel), rk_inT 450 (by decide +kernel) (by decide +kernel)⟩
abbrev rk_mX6_init : rk_M := (yX6_init, cX6_init, 1, none)
theorem rk_eX6_init : rk_MeI rk_mX6_init 0 := ⟨⟨rk_inT 38 (by decide +kernel) (by decide +kernel), rk_inT 3 (by decide +kernel) (by decide +kernel), ⟨by decide +kernel, by decide +kernel, by decide +kernel⟩, by decide, by decide +kernel⟩, rk_inT 37 (by decide +kernel) (by decide +kernel), rfl, rfl⟩
abbrev rk_mX6_lengthened : rk_M := (yX6_lengthened, cX6_lengthened, 2, (some .int))
theorem rk_eX6_lengthened : rk_MeS rk_mX6_lengthened 2 := ⟨⟨rk_inT 439 (by decide +kernel) (by decide +kernel), rk_inT 3 (by decide +kernel) (by decide +kernel), ⟨by decide +kernel, by decide +kernel, by decide +kernel⟩, by decide, by decide +kernel⟩, rk_inT 438 (by decide +kernel) (by decide +kernel)⟩
abbrev rk_mX6_newStrength : rk_M := (yX6_newStrength, cX6_newStrength, 4, (some .int))
theorem rk_eX6_newStrength : rk_MeV rk_mX6_newStrength 3 := ⟨⟨rk_inT 648 (by decide +kernel) (by decide +kernel), rk_inT 3 (by decide +kernel) (by decide +kernel), ⟨by decide +kernel, by decide +kernel, by decide +kernel⟩, by decide, by decide +kernel⟩, rk_inT 646 (by decide +kernel) (by decide +kernel), rk_inT 647 (by decide +kernel) (by decide +kernel)⟩
abbrev rk_mX6_qualityNow : rk_M := (yX6_qualityNow, cX6_qualityNow, 3, (some .int))
theorem rk_eX6_qualityNow : rk_MeV rk_mX6_qualityNow 1 := ⟨⟨rk_inT 469 (by decide +kernel) (by decide +kernel), rk_inT 3 (by decide +kernel) (by decide +kernel), ⟨by decide +kernel, by decide +kernel, by decide +kernel⟩, by decide, by decide +kernel⟩, rk_inT 467 (by decide +kernel) (by decide +kernel), rk_inT 468 (by decide +kernel) (by decide +kernel)⟩
abbrev rk_mX6_strandLength : rk_M := (yX6_strandLength, cX6_strandLength, 2, (some .int))
theorem rk_eX6_strandLength : rk_MeV rk_mX6_strandLength 1 := ⟨⟨rk_inT 436 (by decide +kernel) (by decide +kernel), rk_inT 3 (by decide +kernel) (by decide +kernel), ⟨by decide +kernel, by decide +kernel, by decide +kernel⟩, by decide, by decide +kernel⟩, rk_inT 434 (by decide +kernel) (by decide +kernel), rk_inT 435 (by decide +kernel) (by decide +kernel)⟩
abbrev rk_mX6_strengthOf : rk_M := (yX6_strengthOf, cX6_strengthOf, 3, (some .int))
theorem rk_eX6_strengthOf : rk_MeV rk_mX6_strengthOf 1 := ⟨⟨rk_inT 517 (by decide +kernel) (by decide +kernel), rk_inT 3 (by decide +kernel) (by decide +kernel), ⟨by decide +kernel, by decide +kernel, by decide +kernel⟩, by decide, by decide +kernel⟩, rk_inT 515 (by decide +kernel) (by decide +kernel), rk_inT 516 (by decide +kernel) (by decide +kernel)⟩
abbrev rk_mX6_suits : rk_M := (yX6_suits, cX6_suits, 3, (some .boolean))
theorem rk_eX6_suits : rk_MeV rk_mX6_suits 2 := ⟨⟨rk_inT 564 (by decide +kernel) (by decide +kernel), rk_inT 3 (by decide +kernel) (by decide +kernel), ⟨by decide +kernel, by decide +kernel, by decide +kernel⟩, by decide, by decide +kernel⟩, rk_inT 562 (by decide +kernel) (by decide +kernel), rk_inT 563 (by decide +kernel) (by decide +kernel)⟩
abbrev rk_mX6_yarnFor : rk_M := (yX6_yarnFor, cX6_yarnFor, 4, (some .int))
theorem rk_eX6_yarnFor : rk_MeV rk_mX6_yarnFor 3 := ⟨⟨rk_inT 443 (by decide +kernel) (by decide +kernel), rk_inT 3 (by decide +kernel) (by decide +kernel), ⟨by decide +kernel, by decide +kernel, by decide +kernel⟩, by decide, by decide +kernel⟩, rk_inT 441 (by decide +kernel) (by decide +kernel), rk_inT 442 (by decide +kernel) (by decide +kernel)⟩
abbrev rk_mX6_yarnLength : rk_M := (yX6_yarnLength, cX6_yarnLength, 2, (some .int))
theorem rk_eX6_yarnLength : rk_MeV rk_mX6_yarnLength 1 := ⟨⟨rk_inT 447 (by decide +kernel) (by decide +kernel), rk_inT 3 (by decide +kernel) (by decide +kernel), ⟨by decide +kernel, by decide +kernel, by decide +kernel⟩, by decide, by decide +kernel⟩, rk_inT 445 (by decide +kernel) (by decide +kernel), rk_inT 446 (by decide +kernel) (by decide +kernel)⟩
abbrev rk_mX7_addRope : rk_M := (yX7_addRope, cX7_addRope, 7, (some .int))
theorem rk_eX7_addRope : rk_MeV rk_mX7_addRope 5 := ⟨⟨rk_inT 464 (by decide +kernel) (by decide +kernel), rk_inT 5 (by decide +kernel) (by decide +kernel), ⟨by decide +kernel, by decide +kernel, by decide +kernel⟩, by decide, by decide +kernel⟩, rk_inT 462 (by decide +kernel) (by decide +kernel), rk_inT 463 (by decide +kernel) (by decide +kernel)⟩
abbrev rk_mX7_addYarn : rk_M := (yX7_addYarn, cX7_addYarn, 3, (some .int))
theorem rk_eX7_addYarn : rk_MeV rk_mX7_addYarn 2 := ⟨⟨rk_inT 413 (by decide +kernel) (by decide +kernel), rk_inT 5 (by decide +kernel) (by decide +kernel), ⟨by decide +kernel, by decide +kernel, by decide +kernel⟩, by decide, by decide +kernel⟩, rk_inT 411 (by decide +kernel) (by decide +kernel), rk_inT 412 (by decide +kernel) (by decide +kernel)⟩
abbrev rk_mX7_copyFrom : rk_M := (yX7_copyFrom, cX7_copyFrom, 3, none)
theorem rk_eX7_copyFrom : rk_MeV rk_mX7_copyFrom 1 := ⟨⟨rk_inT 355 (by decide +kernel) (by decide +kernel), rk_inT 5 (by decide +kernel) (by decide +kernel), ⟨by decide +kernel, by decide +kernel, by decide +kernel⟩, by decide, by decide +kernel⟩, rk_inT 353 (by decide +kernel) (by decide +kernel), rk_inT 354 (by decide +kernel) (by decide +kernel)⟩
abbrev rk_mX7_cut : rk_M := (yX7_cut, cX7_cut, 7, none)
theorem rk_eX7_cut : rk_MeV rk_mX7_cut 4 := ⟨⟨rk_inT 521 (by decide +kernel) (by decide +kernel), rk_inT 5 (by decide +kernel) (by decide +kernel), ⟨by decide +kernel, by decide +kernel, by decide +kernel⟩, by decide, by decide +kernel⟩, rk_inT 519 (by decide +kernel) (by decide +kernel), rk_inT 520 (by decide +kernel) (by decide +kernel)⟩
abbrev rk_mX7_cutFor : rk_M := (yX7_cutFor, cX7_cutFor, 5, (some .int))
theorem rk_eX7_cutFor : rk_MeV rk_mX7_cutFor 2 := ⟨⟨rk_inT 556 (by decide +kernel) (by decide +kernel), rk_inT 5 (by decide +kernel) (by decide +kernel), ⟨by decide +kernel, by decide +kernel, by decide +kernel⟩, by decide, by decide +kernel⟩, rk_inT 554 (by decide +kernel) (by decide +kernel), rk_inT 555 (by decide +kernel) (by decide +kernel)⟩
abbrev rk_mX7_fewestFor : rk_M := (yX7_fewestFor, cX7_fewestFor, 9, (some .int))
theorem rk_eX7_fewestFor : rk_MeV rk_mX7_fewestFor 3 := ⟨⟨rk_inT 706 (by decide +kernel) (by decide +kernel), rk_inT 5 (by decide +kernel) (by decide +kernel), ⟨by decide +kernel, by decide +kernel, by decide +kernel⟩, by decide, by decide +kernel⟩, rk_inT 704 (by decide +kernel) (by decide +kernel), rk_inT 705 (by decide +kernel) (by decide +kernel)⟩
abbrev rk_mX7_has : rk_M := (yX7_has, cX7_has, 2, (some .boolean))
theorem rk_eX7_has : rk_MeV rk_mX7_has 1 := ⟨⟨rk_inT 488 (by decide +kernel) (by decide +kernel), rk_inT 5 (by decide +kernel) (by decide +kernel), ⟨by decide +kernel, by decide +kernel, by decide +kernel⟩, by decide, by decide +kernel⟩, rk_inT 486 (by decide +kernel) (by decide +kernel), rk_inT 487 (by decide +kernel) (by decide +kernel)⟩
abbrev rk_mX7_init : rk_M := (yX7_init, cX7_init, 2, none)
theorem rk_eX7_init : rk_MeI rk_mX7_init 0 := ⟨⟨rk_inT 69 (by decide +kernel) (by decide +kernel), rk_inT 5 (by decide +kernel) (by decide +kernel), ⟨by decide +kernel, by decide +kernel, by decide +kernel⟩, by decide, by decide +kernel⟩, rk_inT 68 (by decide +kernel) (by decide +kernel), rfl, rfl⟩
abbrev rk_mX7_isFull : rk_M := (yX7_isFull, cX7_isFull, 1, (some .boolean))
theorem rk_eX7_isFull : rk_MeV rk_mX7_isFull 0 := ⟨⟨rk_inT 428 (by decide +kernel) (by decide +kernel), rk_inT 5 (by decide +kernel) (by decide +kernel), ⟨by decide +kernel, by decide +kernel, by decide +kernel⟩, by decide, by decide +kernel⟩, rk_inT 426 (by decide +kernel) (by decide +kernel), rk_inT 427 (by decide +kernel) (by decide +kernel)⟩
abbrev rk_mX7_longestLike : rk_M := (yX7_longestLike, cX7_longestLike, 6, (some .int))
theorem rk_eX7_longestLike : rk_MeV rk_mX7_longestLike 2 := ⟨⟨rk_inT 710 (by decide +kernel) (by decide +kernel), rk_inT 5 (by decide +kernel) (by decide +kernel), ⟨by decide +kernel, by decide +kernel, by decide +kernel⟩, by decide, by decide +kernel⟩, rk_inT 709 (by decide +kernel) (by decide +kernel), rk_inP (by decide +kernel) (by decide +kernel)⟩
abbrev rk_mX7_move : rk_M := (yX7_move, cX7_move, 5, none)
theorem rk_eX7_move : rk_MeV rk_mX7_move 4 := ⟨⟨rk_inT 476 (by decide +kernel) (by decide +kernel), rk_inT 5 (by decide +kernel) (by decide +kernel), ⟨by decide +kernel, by decide +kernel, by decide +kernel⟩, by decide, by decide +kernel⟩, rk_inT 475 (by decide +kernel) (by decide +kernel), rk_inP (by decide +kernel) (by decide +kernel)⟩
abbrev rk_mX7_remove : rk_M := (yX7_remove, cX7_remove, 4, none)
theorem rk_eX7_remove : rk_MeV rk_mX7_remove 1 := ⟨⟨rk_inT 505 (by decide +kernel) (by decide +kernel), rk_inT 5 (by decide +kernel) (by decide +kernel), ⟨by decide +kernel, by decide +kernel, by decide +kernel⟩, by decide, by decide +kernel⟩, rk_inT 504 (by decide +kernel) (by decide +kernel), rk_inP (by decide +kernel) (by decide +kernel)⟩
abbrev rk_mX7_shortestFor : rk_M := (yX7_shortestFor, cX7_shortestFor, 5, (some .int))
theorem rk_eX7_shortestFor : rk_MeV rk_mX7_shortestFor 2 := ⟨⟨rk_inT 560 (by decide +kernel) (by decide +kernel), rk_inT 5 (by decide +kernel) (by decide +kernel), ⟨by decide +kernel, by decide +kernel, by decide +kernel⟩, by decide, by decide +kernel⟩, rk_inT 559 (by decide +kernel) (by decide +kernel), rk_inP (by decide +kernel) (by decide +kernel)⟩
abbrev rk_mX7_splice : rk_M := (yX7_splice, cX7_splice, 8, (some .int))
theorem rk_eX7_splice : rk_MeV rk_mX7_splice 3 := ⟨⟨rk_inT 497 (by decide +kernel) (by decide +kernel), rk_inT 5 (by decide +kernel) (by decide +kernel), ⟨by decide +kernel, by decide +kernel, by decide +kernel⟩, by decide, by decide +kernel⟩, rk_inT 495 (by decide +kernel) (by decide +kernel), rk_inT 496 (by decide +kernel) (by decide +kernel)⟩
abbrev rk_mX7_suitingCount : rk_M := (yX7_suitingCount, cX7_suitingCount, 5, (some .int))
theorem rk_eX7_suitingCount : rk_MeV rk_mX7_suitingCount 2 := ⟨⟨rk_inT 615 (by decide +kernel) (by decide +kernel), rk_inT 5 (by decide +kernel) (by decide +kernel), ⟨by decide +kernel, by decide +kernel, by decide +kernel⟩, by decide, by decide +kernel⟩, rk_inT 613 (by decide +kernel) (by decide +kernel), rk_inT 614 (by decide +kernel) (by decide +kernel)⟩
abbrev rk_mX8_choose : rk_M := (yX8_choose, cX8_choose, 9, none)
theorem rk_eX8_choose : rk_MeS rk_mX8_choose 5 := ⟨⟨rk_inT 687 (by decide +kernel) (by decide +kernel), rk_inT 12 (by decide +kernel) (by decide +kernel), ⟨by decide +kernel, by decide +kernel, by decide +kernel⟩, by decide, by decide +kernel⟩, rk_inT 686 (by decide +kernel) (by decide +kernel)⟩
abbrev rk_mX8_compare : rk_M := (yX8_compare, cX8_compare, 5, none)
theorem rk_eX8_compare : rk_MeV rk_mX8_compare 2 := ⟨⟨rk_inT 691 (by decide +kernel) (by decide +kernel), rk_inT 12 (by decide +kernel) (by decide +kernel), ⟨by decide +kernel, by decide +kernel, by decide +kernel⟩, by decide, by decide +kernel⟩, rk_inT 690 (by decide +kernel) (by decide +kernel), rk_inP (by decide +kernel) (by decide +kernel)⟩
abbrev rk_mX8_fillOne : rk_M := (yX8_fillOne, cX8_fillOne, 7, (some .int))
theorem rk_eX8_fillOne : rk_MeV rk_mX8_fillOne 3 := ⟨⟨rk_inT 674 (by decide +kernel) (by decide +kernel), rk_inT 12 (by decide +kernel) (by decide +kernel), ⟨by decide +kernel, by decide +kernel, by decide +kernel⟩, by decide, by decide +kernel⟩, rk_inT 672 (by decide +kernel) (by decide +kernel), rk_inT 673 (by decide +kernel) (by decide +kernel)⟩
abbrev rk_mX8_findBestSet : rk_M := (yX8_findBestSet, cX8_findBestSet, 2, none)
theorem rk_eX8_findBestSet : rk_MeV rk_mX8_findBestSet 1 := ⟨⟨rk_inT 684 (by decide +kernel) (by decide +kernel), rk_inT 12 (by decide +kernel) (by decide +kernel), ⟨by decide +kernel, by decide +kernel, by decide +kernel⟩, by decide, by decide +kernel⟩, rk_inT 682 (by decide +kernel) (by decide +kernel), rk_inT 683 (by decide +kernel) (by decide +kernel)⟩
abbrev rk_mX8_init : rk_M := (yX8_init, cX8_init, 2, none)
theorem rk_eX8_init : rk_MeI rk_mX8_init 0 := ⟨⟨rk_inT 297 (by decide +kernel) (by decide +kernel), rk_inT 12 (by decide +kernel) (by decide +kernel), ⟨by decide +kernel, by decide +kernel, by decide +kernel⟩, by decide, by decide +kernel⟩, rk_inT 296 (by decide +kernel) (by decide +kernel), rfl, rfl⟩
abbrev rk_mX9_aboutAll : rk_M := (yX9_aboutAll, cX9_aboutAll, 2, (some .int))
theorem rk_eX9_aboutAll : rk_MeV rk_mX9_aboutAll 1 := ⟨⟨rk_inT 623 (by decide +kernel) (by decide +kernel), rk_inT 2 (by decide +kernel) (by decide +kernel), ⟨by decide +kernel, by decide +kernel, by decide +kernel⟩, by decide, by decide +kernel⟩, rk_inT 621 (by decide +kernel) (by decide +kernel), rk_inT 622 (by decide +kernel) (by decide +kernel)⟩
abbrev rk_mX9_aboutOrder : rk_M := (yX9_aboutOrder, cX9_aboutOrder, 4, (some .int))
theorem rk_eX9_aboutOrder : rk_MeV rk_mX9_aboutOrder 2 := ⟨⟨rk_inT 611 (by decide +kernel) (by decide +kernel), rk_inT 2 (by decide +kernel) (by decide +kernel), ⟨by decide +kernel, by decide +kernel, by decide +kernel⟩, by decide, by decide +kernel⟩, rk_inT 609 (by decide +kernel) (by decide +kernel), rk_inT 610 (by decide +kernel) (by decide +kernel)⟩
abbrev rk_mX9_aboutPiece : rk_M := (yX9_aboutPiece, cX9_aboutPiece, 4, (some .int))
theorem rk_eX9_aboutPiece : rk_MeV rk_mX9_aboutPiece 2 := ⟨⟨rk_inT 603 (by decide +kernel) (by decide +kernel), rk_inT 2 (by decide +kernel) (by decide +kernel), ⟨by decide +kernel, by decide +kernel, by decide +kernel⟩, by decide, by decide +kernel⟩, rk_inT 601 (by decide +kernel) (by decide +kernel), rk_inT 602 (by decide +kernel) (by decide +kernel)⟩
abbrev rk_mX9_aboutRules : rk_M := (yX9_aboutRules, cX9_aboutRules, 2, (some .int))
theorem rk_eX9_aboutRules : rk_MeV rk_mX9_aboutRules 1 := ⟨⟨rk_inT 627 (by decide +kernel) (by decide +kernel), rk_inT 2 (by decide +kernel) (by decide +kernel), ⟨by decide +kernel, by decide +kernel, by decide +kernel⟩, by decide, by decide +kernel⟩, rk_inT 626 (by decide +kernel) (by decide +kernel), rk_inP (by decide +kernel) (by decide +kernel)⟩
abbrev rk_mX9_canLay : rk_M := (yX9_canLay, cX9_canLay, 5, (some .boolean))
theorem rk_eX9_canLay : rk_MeV rk_mX9_canLay 4 := ⟨⟨rk_inT 432 (by decide +kernel) (by decide +kernel), rk_inT 2 (by decide +kernel) (by decide +kernel), ⟨by decide +kernel, by decide +kernel, by decide +kernel⟩, by decide, by decide +kernel⟩, rk_inT 431 (by decide +kernel) (by decide +kernel), rk_inP (by decide +kernel) (by decide +kernel)⟩
abbrev rk_mX9_changeFibre : rk_M := (yX9_changeFibre, cX9_changeFibre, 5, (some .int))
theorem rk_eX9_changeFibre : rk_MeV rk_mX9_changeFibre 3 := ⟨⟨rk_inT 395 (by decide +kernel) (by decide +kernel), rk_inT 2 (by decide +kernel) (by decide +kernel), ⟨by decide +kernel, by decide +kernel, by decide +kernel⟩, by decide, by decide +kernel⟩, rk_inT 393 (by decide +kernel) (by decide +kernel), rk_inT 394 (by decide +kernel) (by decide +kernel)⟩
abbrev rk_mX9_changeSetting : rk_M := (yX9_changeSetting, cX9_changeSetting, 4, (some .int))
theorem rk_eX9_changeSetting : rk_MeV rk_mX9_changeSetting 2 := ⟨⟨rk_inT 372 (by decide +kernel) (by decide +kernel), rk_inT 2 (by decide +kernel) (by decide +kernel), ⟨by decide +kernel, by decide +kernel, by decide +kernel⟩, by decide, by decide +kernel⟩, rk_inT 370 (by decide +kernel) (by decide +kernel), rk_inT 371 (by decide +kernel) (by decide +kernel)⟩
abbrev rk_mX9_copyFrom : rk_M := (yX9_copyFrom, cX9_copyFrom, 2, none)
theorem rk_eX9_copyFrom : rk_MeV rk_mX9_copyFrom 1 := ⟨⟨rk_inT 347 (by decide +kernel) (by decide +kernel), rk_inT 2 (by decide +kernel) (by decide +kernel), ⟨by decide +kernel, by decide +kernel, by decide +kernel⟩, by decide, by decide +kernel⟩, rk_inT 345 (by decide +kernel) (by decide +kernel), rk_inT 346 (by decide +kernel) (by decide +kernel)⟩
abbrev rk_mX9_dropOrder : rk_M := (yX9_dropOrder, cX9_dropOrder, 3, (some .int))
theorem rk_eX9_dropOrder : rk_MeV rk_mX9_dropOrder 1 := ⟨⟨rk_inT 578 (by decide +kernel) (by decide +kernel), rk_inT 2 (by decide +kernel) (by decide +kernel), ⟨by decide +kernel, by decide +kernel, by decide +kernel⟩, by decide, by decide +kernel⟩, rk_inT 576 (by decide +kernel) (by decide +kernel), rk_inT 577 (by decide +kernel) (by decide +kernel)⟩
abbrev rk_mX9_fillOrder : rk_M := (yX9_fillOrder, cX9_fillOrder, 4, (some .int))
theorem rk_eX9_fillOrder : rk_MeV rk_mX9_fillOrder 1 := ⟨⟨rk_inT 547 (by decide +kernel) (by decide +kernel), rk_inT 2 (by decide +kernel) (by decide +kernel), ⟨by decide +kernel, by decide +kernel, by decide +kernel⟩, by decide, by decide +kernel⟩, rk_inT 545 (by decide +kernel) (by decide +kernel), rk_inT 546 (by decide +kernel) (by decide +kernel)⟩
abbrev rk_mX9_finesOver : rk_M := (yX9_finesOver, cX9_finesOver, 2, (some .int))
theorem rk_eX9_finesOver : rk_MeV rk_mX9_finesOver 1 := ⟨⟨rk_inT 590 (by decide +kernel) (by decide +kernel), rk_inT 2 (by decide +kernel) (by decide +kernel), ⟨by decide +kernel, by decide +kernel, by decide +kernel⟩, by decide, by decide +kernel⟩, rk_inT 588 (by decide +kernel) (by decide +kernel), rk_inT 589 (by decide +kernel) (by decide +kernel)⟩
abbrev rk_mX9_hoursLeft : rk_M := (yX9_hoursLeft, cX9_hoursLeft, 1, (some .int))
theorem rk_eX9_hoursLeft : rk_MeV rk_mX9_hoursLeft 0 := ⟨⟨rk_inT 459 (by decide +kernel) (by decide +kernel), rk_inT 2 (by decide +kernel) (by decide +kernel), ⟨by decide +kernel, by decide +kernel, by decide +kernel⟩, by decide, by decide +kernel⟩, rk_inT 458 (by decide +kernel) (by decide +kernel), rk_inP (by decide +kernel) (by decide +kernel)⟩
abbrev rk_mX9_init : rk_M := (yX9_init, cX9_init, 1, none)
theorem rk_eX9_init : rk_MeI rk_mX9_init 0 := ⟨⟨rk_inT 32 (by decide +kernel) (by decide +kernel), rk_inT 2 (by decide +kernel) (by decide +kernel), ⟨by decide +kernel, by decide +kernel, by decide +kernel⟩, by decide, by decide +kernel⟩, rk_inT 31 (by decide +kernel) (by decide +kernel), rfl, rfl⟩
abbrev rk_mX9_joinPieces : rk_M := (yX9_joinPieces, cX9_joinPieces, 6, (some .int))
theorem rk_eX9_joinPieces : rk_MeV rk_mX9_joinPieces 2 := ⟨⟨rk_inT 484 (by decide +kernel) (by decide +kernel), rk_inT 2 (by decide +kernel) (by decide +kernel), ⟨by decide +kernel, by decide +kernel, by decide +kernel⟩, by decide, by decide +kernel⟩, rk_inT 482 (by decide +kernel) (by decide +kernel), rk_inT 483 (by decide +kernel) (by decide +kernel)⟩
abbrev rk_mX9_layRope : rk_M := (yX9_layRope, cX9_layRope, 5, (some .int))
theorem rk_eX9_layRope : rk_MeV rk_mX9_layRope 4 := ⟨⟨rk_inT 421 (by decide +kernel) (by decide +kernel), rk_inT 2 (by decide +kernel) (by decide +kernel), ⟨by decide +kernel, by decide +kernel, by decide +kernel⟩, by decide, by decide +kernel⟩, rk_inT 419 (by decide +kernel) (by decide +kernel), rk_inT 420 (by decide +kernel) (by decide +kernel)⟩
abbrev rk_mX9_longestRope : rk_M := (yX9_longestRope, cX9_longestRope, 5, (some .int))
theorem rk_eX9_longestRope : rk_MeV rk_mX9_longestRope 3 := ⟨⟨rk_inT 656 (by decide +kernel) (by decide +kernel), rk_inT 2 (by decide +kernel) (by decide +kernel), ⟨by decide +kernel, by decide +kernel, by decide +kernel⟩, by decide, by decide +kernel⟩, rk_inT 654 (by decide +kernel) (by decide +kernel), rk_inT 655 (by decide +kernel) (by decide +kernel)⟩
abbrev rk_mX9_passDays : rk_M := (yX9_passDays, cX9_passDays, 2, (some .int))
theorem rk_eX9_passDays : rk_MeV rk_mX9_passDays 1 := ⟨⟨rk_inT 586 (by decide +kernel) (by decide +kernel), rk_inT 2 (by decide +kernel) (by decide +kernel), ⟨by decide +kernel, by decide +kernel, by decide +kernel⟩, by decide, by decide +kernel⟩, rk_inT 584 (by decide +kernel) (by decide +kernel), rk_inT 585 (by decide +kernel) (by decide +kernel)⟩
abbrev rk_mX9_spinYarn : rk_M := (yX9_spinYarn, cX9_spinYarn, 3, (some .int))
theorem rk_eX9_spinYarn : rk_MeV rk_mX9_spinYarn 2 := ⟨⟨rk_inT 407 (by decide +kernel) (by decide +kernel), rk_inT 2 (by decide +kernel) (by decide +kernel), ⟨by decide +kernel, by decide +kernel, by decide +kernel⟩, by decide, by decide +kernel⟩, rk_inT 405 (by decide +kernel) (by decide +kernel), rk_inT 406 (by decide +kernel) (by decide +kernel)⟩
abbrev rk_mX9_takeOrder : rk_M := (yX9_takeOrder, cX9_takeOrder, 8, (some .int))
theorem rk_eX9_takeOrder : rk_MeV rk_mX9_takeOrder 6 := ⟨⟨rk_inT 533 (by decide +kernel) (by decide +kernel), rk_inT 2 (by decide +kernel) (by decide +kernel), ⟨by decide +kernel, by decide +kernel, by decide +kernel⟩, by decide, by decide +kernel⟩, rk_inT 531 (by decide +kernel) (by decide +kernel), rk_inT 532 (by decide +kernel) (by decide +kernel)⟩
abbrev rk_mX9_testPiece : rk_M := (yX9_testPiece, cX9_testPiece, 4, (some .int))
theorem rk_eX9_testPiece : rk_MeV rk_mX9_testPiece 1 := ⟨⟨rk_inT 513 (by decide +kernel) (by decide +kernel), rk_inT 2 (by decide +kernel) (by decide +kernel), ⟨by decide +kernel, by decide +kernel, by decide +kernel⟩, by decide, by decide +kernel⟩, rk_inT 511 (by decide +kernel) (by decide +kernel), rk_inT 512 (by decide +kernel) (by decide +kernel)⟩
theorem rk_nX10_9 : (RX10, 9, yX9_init, "RopeWalk") ∈ rk_nest := by decide +kernel
theorem rk_kX10_18 : Cond.methodLink RX10 18 yX1_init ∈ rk_tbl := rk_inT 235 (by decide +kernel) (by decide +kernel)
theorem rk_nX10_33 : (RX10, 33, yX5_init, "RopeWalk") ∈ rk_nest := by decide +kernel
theorem rk_kX10_45 : Cond.methodLink RX10 45 yX8_init ∈ rk_tbl := rk_inT 295 (by decide +kernel) (by decide +kernel)
theorem rk_kX10_50 : Cond.methodLink RX10 50 yX1_prepare ∈ rk_tbl := rk_inT 340 (by decide +kernel) (by decide +kernel)
theorem rk_kX10_54 : Cond.methodLink RX10 54 yX9_changeSetting ∈ rk_tbl := rk_inT 369 (by decide +kernel) (by decide +kernel)
theorem rk_kX10_58 : Cond.methodLink RX10 58 yX1_settle ∈ rk_tbl := rk_inT 380 (by decide +kernel) (by decide +kernel)
theorem rk_kX10_62 : Cond.methodLink RX10 62 yX9_changeFibre ∈ rk_tbl := rk_inT 392 (by decide +kernel) (by decide +kernel)
theorem rk_kX10_66 : Cond.methodLink RX10 66 yX9_spinYarn ∈ rk_tbl := rk_inT 404 (by decide +kernel) (by decide +kernel)
theorem rk_kX10_69 : Cond.methodLink RX10 69 yX9_layRope ∈ rk_tbl := rk_inT 418 (by decide +kernel) (by decide +kernel)
theorem rk_kX10_73 : Cond.methodLink RX10 73 yX9_joinPieces ∈ rk_tbl := rk_inT 481 (by decide +kernel) (by decide +kernel)
theorem rk_kX10_76 : Cond.methodLink RX10 76 yX9_testPiece ∈ rk_tbl := rk_inT 510 (by decide +kernel) (by decide +kernel)
theorem rk_kX10_79 : Cond.methodLink RX10 79 yX9_takeOrder ∈ rk_tbl := rk_inT 530 (by decide +kernel) (by decide +kernel)
theorem rk_kX10_83 : Cond.methodLink RX10 83 yX9_fillOrder ∈ rk_tbl := rk_inT 544 (by decide +kernel) (by decide +kernel)
theorem rk_kX10_86 : Cond.methodLink RX10 86 yX9_dropOrder ∈ rk_tbl := rk_inT 575 (by decide +kernel) (by decide +kernel)
theorem rk_kX10_89 : Cond.methodLink RX10 89 yX9_passDays ∈ rk_tbl := rk_inT 583 (by decide +kernel) (by decide +kernel)
theorem rk_kX10_92 : Cond.methodLink RX10 92 yX9_aboutPiece ∈ rk_tbl := rk_inT 600 (by decide +kernel) (by decide +kernel)
theorem rk_kX10_95 : Cond.methodLink RX10 95 yX9_aboutOrder ∈ rk_tbl := rk_inT 608 (by decide +kernel) (by decide +kernel)
theorem rk_kX10_107 : Cond.methodLink RX10 107 yX9_aboutAll ∈ rk_tbl := rk_inT 620 (by decide +kernel) (by decide +kernel)
theorem rk_kX10_110 : Cond.methodLink RX10 110 yX10_isFibre ∈ rk_tbl := rk_inT 632 (by decide +kernel) (by decide +kernel)
theorem rk_kX10_114 : Cond.methodLink RX10 114 yX10_inRange ∈ rk_tbl := rk_inT 399 (by decide +kernel) (by decide +kernel)
theorem rk_kX10_128 : Cond.methodLink RX10 128 yX10_isMake ∈ rk_tbl := rk_inT 637 (by decide +kernel) (by decide +kernel)
theorem rk_kX10_136 : Cond.methodLink RX10 136 yX6_aboutNewRope ∈ rk_tbl := rk_inT 638 (by decide +kernel) (by decide +kernel)
theorem rk_kX10_142 : Cond.methodLink RX10 142 yX9_longestRope ∈ rk_tbl := rk_inT 653 (by decide +kernel) (by decide +kernel)
theorem rk_kX10_146 : Cond.methodLink RX10 146 yX6_fewestYarns ∈ rk_tbl := rk_inT 662 (by decide +kernel) (by decide +kernel)
theorem rk_kX10_153 : Cond.methodLink RX10 153 yX0_has ∈ rk_tbl := rk_inT 670 (by decide +kernel) (by decide +kernel)
theorem rk_kX10_158 : Cond.methodLink RX10 158 yX8_fillOne ∈ rk_tbl := rk_inT 671 (by decide +kernel) (by decide +kernel)
theorem rk_kX10_162 : Cond.methodLink RX10 162 yX8_findBestSet ∈ rk_tbl := rk_inT 681 (by decide +kernel) (by decide +kernel)
theorem rk_kX10_171 : Cond.methodLink RX10 171 yX7_has ∈ rk_tbl := rk_inT 702 (by decide +kernel) (by decide +kernel)
theorem rk_kX10_176 : Cond.methodLink RX10 176 yX7_fewestFor ∈ rk_tbl := rk_inT 703 (by decide +kernel) (by decide +kernel)
theorem rk_kX10_179 : Cond.methodLink RX10 179 yX9_finesOver ∈ rk_tbl := rk_inT 716 (by decide +kernel) (by decide +kernel)
theorem rk_kX10_182 : Cond.methodLink RX10 182 yX3_append ∈ rk_tbl := rk_inT 721 (by decide +kernel) (by decide +kernel)
theorem rk_kX10_186 : Cond.methodLink RX10 186 yX3_clear ∈ rk_tbl := rk_inT 737 (by decide +kernel) (by decide +kernel)
theorem rk_kX10_190 : Cond.methodLink RX10 190 yX5_firstFault ∈ rk_tbl := rk_inT 745 (by decide +kernel) (by decide +kernel)
theorem rk_kX10_193 : Cond.methodLink RX10 193 yX5_rewind ∈ rk_tbl := rk_inT 850 (by decide +kernel) (by decide +kernel)
theorem rk_kX10_196 : Cond.methodLink RX10 196 yX5_nextJob ∈ rk_tbl := rk_inT 851 (by decide +kernel) (by decide +kernel)
theorem rk_kX10_200 : Cond.methodLink RX10 200 yX10_doJob ∈ rk_tbl := rk_inT 852 (by decide +kernel) (by decide +kernel)
theorem rk_kX10_209 : Cond.methodLink RX10 209 yX1_stepBack ∈ rk_tbl := rk_inT 860 (by decide +kernel) (by decide +kernel)
theorem rk_kX10_213 : Cond.methodLink RX10 213 yX9_copyFrom ∈ rk_tbl := rk_inT 868 (by decide +kernel) (by decide +kernel)
theorem rk_nX0_17 : (RX0, 17, yX2_init, "RopeWalk") ∈ rk_nest := by decide +kernel
theorem rk_kX0_22 : Cond.methodLink RX0 22 yX2_copyFrom ∈ rk_tbl := rk_inT 365 (by decide +kernel) (by decide +kernel)
theorem rk_nX0_26 : (RX0, 26, yX10_inRange, "RopeWalk") ∈ rk_nest := by decide +kernel
theorem rk_nX1_17 : (RX1, 17, yX9_init, "RopeWalk") ∈ rk_nest := by decide +kernel
theorem rk_kX1_22 : Cond.methodLink RX1 22 yX9_copyFrom ∈ rk_tbl := rk_inT 344 (by decide +kernel) (by decide +kernel)
theorem rk_kX1_26 : Cond.methodLink RX1 26 yX1_keep ∈ rk_tbl := rk_inT 384 (by decide +kernel) (by decide +kernel)
theorem rk_kX3_15 : Cond.methodLink RX3 15 yX3_countOf ∈ rk_tbl := rk_inT 725 (by decide +kernel) (by decide +kernel)
theorem rk_kX3_23 : Cond.methodLink RX3 23 yX3_codeAt ∈ rk_tbl := rk_inT 728 (by decide +kernel) (by decide +kernel)
theorem rk_nX3_29 : (RX3, 29, yX10_inRange, "RopeWalk") ∈ rk_nest := by decide +kernel
theorem rk_nX5_11 : (RX5, 11, yX3_init, "RopeWalk") ∈ rk_nest := by decide +kernel
theorem rk_kX5_26 : Cond.methodLink RX5 26 yX5_rewind ∈ rk_tbl := rk_inT 749 (by decide +kernel) (by decide +kernel)
theorem rk_kX5_29 : Cond.methodLink RX5 29 yX5_nextJob ∈ rk_tbl := rk_inT 753 (by decide +kernel) (by decide +kernel)
theorem rk_kX5_36 : Cond.methodLink RX5 36 yX5_readSign ∈ rk_tbl := rk_inT 757 (by decide +kernel) (by decide +kernel)
theorem rk_kX5_40 : Cond.methodLink RX5 40 yX5_here ∈ rk_tbl := rk_inT 761 (by decide +kernel) (by decide +kernel)
theorem rk_kX5_47 : Cond.methodLink RX5 47 yX5_shapeOf ∈ rk_tbl := rk_inT 765 (by decide +kernel) (by decide +kernel)
theorem rk_kX5_65 : Cond.methodLink RX5 65 yX5_readPart ∈ rk_tbl := rk_inT 825 (by decide +kernel) (by decide +kernel)
theorem rk_kX5_82 : Cond.methodLink RX5 82 yX5_readDigit ∈ rk_tbl := rk_inT 829 (by decide +kernel) (by decide +kernel)
theorem rk_kX5_86 : Cond.methodLink RX5 86 yX5_readNumber ∈ rk_tbl := rk_inT 838 (by decide +kernel) (by decide +kernel)
theorem rk_nX5_89 : (RX5, 89, yX10_inRange, "RopeWalk") ∈ rk_nest := by decide +kernel
theorem rk_kX5_93 : Cond.methodLink RX5 93 yX5_keep ∈ rk_tbl := rk_inT 834 (by decide +kernel) (by decide +kernel)
theorem rk_kX5_97 : Cond.methodLink RX5 97 yX5_isDigit ∈ rk_tbl := rk_inT 842 (by decide +kernel) (by decide +kernel)
theorem rk_kX6_36 : Cond.methodLink RX6 36 yX6_lengthened ∈ rk_tbl := rk_inT 437 (by decide +kernel) (by decide +kernel)
theorem rk_kX6_40 : Cond.methodLink RX6 40 yX6_yarnLength ∈ rk_tbl := rk_inT 444 (by decide +kernel) (by decide +kernel)
theorem rk_kX6_49 : Cond.methodLink RX6 49 yX6_strandLength ∈ rk_tbl := rk_inT 455 (by decide +kernel) (by decide +kernel)
theorem rk_kX6_55 : Cond.methodLink RX6 55 yX6_qualityNow ∈ rk_tbl := rk_inT 644 (by decide +kernel) (by decide +kernel)
theorem rk_kX6_87 : Cond.methodLink RX6 87 yX6_strengthOf ∈ rk_tbl := rk_inT 565 (by decide +kernel) (by decide +kernel)
theorem rk_kX6_94 : Cond.methodLink RX6 94 yX6_yarnFor ∈ rk_tbl := rk_inT 642 (by decide +kernel) (by decide +kernel)
theorem rk_kX6_98 : Cond.methodLink RX6 98 yX6_hoursFor ∈ rk_tbl := rk_inT 643 (by decide +kernel) (by decide +kernel)
theorem rk_kX6_101 : Cond.methodLink RX6 101 yX6_newStrength ∈ rk_tbl := rk_inT 645 (by decide +kernel) (by decide +kernel)
theorem rk_nX7_22 : (RX7, 22, yX4_init, "RopeWalk") ∈ rk_nest := by decide +kernel
theorem rk_kX7_27 : Cond.methodLink RX7 27 yX4_copyFrom ∈ rk_tbl := rk_inT 356 (by decide +kernel) (by decide +kernel)
theorem rk_nX7_37 : (RX7, 37, yX10_inRange, "RopeWalk") ∈ rk_nest := by decide +kernel
theorem rk_kX7_53 : Cond.methodLink RX7 53 yX6_yarnFor ∈ rk_tbl := rk_inT 465 (by decide +kernel) (by decide +kernel)
theorem rk_kX7_62 : Cond.methodLink RX7 62 yX6_qualityNow ∈ rk_tbl := rk_inT 466 (by decide +kernel) (by decide +kernel)
theorem rk_kX7_72 : Cond.methodLink RX7 72 yX7_move ∈ rk_tbl := rk_inT 473 (by decide +kernel) (by decide +kernel)
theorem rk_kX7_85 : Cond.methodLink RX7 85 yX7_remove ∈ rk_tbl := rk_inT 502 (by decide +kernel) (by decide +kernel)
theorem rk_kX7_89 : Cond.methodLink RX7 89 yX4_yarnIn ∈ rk_tbl := rk_inT 522 (by decide +kernel) (by decide +kernel)
theorem rk_kX7_97 : Cond.methodLink RX7 97 yX7_shortestFor ∈ rk_tbl := rk_inT 557 (by decide +kernel) (by decide +kernel)
theorem rk_kX7_106 : Cond.methodLink RX7 106 yX7_cut ∈ rk_tbl := rk_inT 566 (by decide +kernel) (by decide +kernel)
theorem rk_kX7_109 : Cond.methodLink RX7 109 yX6_suits ∈ rk_tbl := rk_inT 561 (by decide +kernel) (by decide +kernel)
theorem rk_kX7_113 : Cond.methodLink RX7 113 yX7_longestLike ∈ rk_tbl := rk_inT 707 (by decide +kernel) (by decide +kernel)
theorem rk_kX7_117 : Cond.methodLink RX7 117 yX4_isLike ∈ rk_tbl := rk_inT 711 (by decide +kernel) (by decide +kernel)
theorem rk_kX8_17 : Cond.methodLink RX8 17 yX7_init ∈ rk_tbl := rk_inT 301 (by decide +kernel) (by decide +kernel)
theorem rk_kX8_24 : Cond.methodLink RX8 24 yX7_copyFrom ∈ rk_tbl := rk_inT 675 (by decide +kernel) (by decide +kernel)
theorem rk_kX8_42 : Cond.methodLink RX8 42 yX7_cutFor ∈ rk_tbl := rk_inT 676 (by decide +kernel) (by decide +kernel)
theorem rk_kX8_65 : Cond.methodLink RX8 65 yX8_choose ∈ rk_tbl := rk_inT 685 (by decide +kernel) (by decide +kernel)
theorem rk_kX8_70 : Cond.methodLink RX8 70 yX8_compare ∈ rk_tbl := rk_inT 688 (by decide +kernel) (by decide +kernel)
theorem rk_kX9_11 : Cond.methodLink RX9 11 yX6_init ∈ rk_tbl := rk_inT 36 (by decide +kernel) (by decide +kernel)
theorem rk_kX9_20 : Cond.methodLink RX9 20 yX7_init ∈ rk_tbl := rk_inT 67 (by decide +kernel) (by decide +kernel)
theorem rk_kX9_27 : Cond.methodLink RX9 27 yX0_init ∈ rk_tbl := rk_inT 140 (by decide +kernel) (by decide +kernel)
theorem rk_kX9_32 : Cond.methodLink RX9 32 yX6_copyFrom ∈ rk_tbl := rk_inT 348 (by decide +kernel) (by decide +kernel)
theorem rk_kX9_36 : Cond.methodLink RX9 36 yX7_copyFrom ∈ rk_tbl := rk_inT 352 (by decide +kernel) (by decide +kernel)
theorem rk_kX9_39 : Cond.methodLink RX9 39 yX0_copyFrom ∈ rk_tbl := rk_inT 361 (by decide +kernel) (by decide +kernel)
theorem rk_nX9_58 : (RX9, 58, yX10_inRange, "RopeWalk") ∈ rk_nest := by decide +kernel
theorem rk_nX9_72 : (RX9, 72, yX10_isFibre, "RopeWalk") ∈ rk_nest := by decide +kernel
theorem rk_kX9_88 : Cond.methodLink RX9 88 yX7_addYarn ∈ rk_tbl := rk_inT 410 (by decide +kernel) (by decide +kernel)
theorem rk_nX9_92 : (RX9, 92, yX10_isMake, "RopeWalk") ∈ rk_nest := by decide +kernel
theorem rk_kX9_96 : Cond.methodLink RX9 96 yX7_isFull ∈ rk_tbl := rk_inT 425 (by decide +kernel) (by decide +kernel)
theorem rk_kX9_100 : Cond.methodLink RX9 100 yX9_canLay ∈ rk_tbl := rk_inT 429 (by decide +kernel) (by decide +kernel)
theorem rk_kX9_104 : Cond.methodLink RX9 104 yX6_hoursFor ∈ rk_tbl := rk_inT 448 (by decide +kernel) (by decide +kernel)
theorem rk_kX9_107 : Cond.methodLink RX9 107 yX7_addRope ∈ rk_tbl := rk_inT 461 (by decide +kernel) (by decide +kernel)
theorem rk_kX9_111 : Cond.methodLink RX9 111 yX6_strandLength ∈ rk_tbl := rk_inT 433 (by decide +kernel) (by decide +kernel)
theorem rk_kX9_115 : Cond.methodLink RX9 115 yX6_yarnFor ∈ rk_tbl := rk_inT 440 (by decide +kernel) (by decide +kernel)
theorem rk_kX9_119 : Cond.methodLink RX9 119 yX9_hoursLeft ∈ rk_tbl := rk_inT 456 (by decide +kernel) (by decide +kernel)
theorem rk_kX9_128 : Cond.methodLink RX9 128 yX7_has ∈ rk_tbl := rk_inT 485 (by decide +kernel) (by decide +kernel)
theorem rk_kX9_135 : Cond.methodLink RX9 135 yX4_isLike ∈ rk_tbl := rk_inT 490 (by decide +kernel) (by decide +kernel)
theorem rk_kX9_144 : Cond.methodLink RX9 144 yX7_splice ∈ rk_tbl := rk_inT 494 (by decide +kernel) (by decide +kernel)
theorem rk_kX9_147 : Cond.methodLink RX9 147 yX6_strengthOf ∈ rk_tbl := rk_inT 514 (by decide +kernel) (by decide +kernel)
theorem rk_kX9_151 : Cond.methodLink RX9 151 yX7_cut ∈ rk_tbl := rk_inT 518 (by decide +kernel) (by decide +kernel)
theorem rk_kX9_157 : Cond.methodLink RX9 157 yX0_isFull ∈ rk_tbl := rk_inT 536 (by decide +kernel) (by decide +kernel)
theorem rk_kX9_187 : Cond.methodLink RX9 187 yX0_has ∈ rk_tbl := rk_inT 548 (by decide +kernel) (by decide +kernel)
theorem rk_kX9_188 : Cond.methodLink RX9 188 yX7_cutFor ∈ rk_tbl := rk_inT 553 (by decide +kernel) (by decide +kernel)
theorem rk_kX9_192 : Cond.methodLink RX9 192 yX0_remove ∈ rk_tbl := rk_inT 567 (by decide +kernel) (by decide +kernel)
theorem rk_kX9_196 : Cond.methodLink RX9 196 yX9_finesOver ∈ rk_tbl := rk_inT 587 (by decide +kernel) (by decide +kernel)
theorem rk_kX9_199 : Cond.methodLink RX9 199 yX0_lateRopes ∈ rk_tbl := rk_inT 591 (by decide +kernel) (by decide +kernel)
theorem rk_kX9_218 : Cond.methodLink RX9 218 yX7_suitingCount ∈ rk_tbl := rk_inT 612 (by decide +kernel) (by decide +kernel)
theorem rk_kX9_222 : Cond.methodLink RX9 222 yX9_aboutRules ∈ rk_tbl := rk_inT 624 (by decide +kernel) (by decide +kernel)
theorem rk_kL_9 : Cond.methodLink "RopeWalkLaw" 9 yX10_init ∈ rk_tbl := rk_inT 22 (by decide +kernel) (by decide +kernel)
theorem rk_kL_12 : Cond.methodLink "RopeWalkLaw" 12 yX11_init ∈ rk_tbl := rk_inT 875 (by decide +kernel) (by decide +kernel)
theorem rk_kL_13 : Cond.methodLink "RopeWalkLaw" 13 yX10_set ∈ rk_tbl := rk_inT 336 (by decide +kernel) (by decide +kernel)
theorem rk_kL_17 : Cond.methodLink "RopeWalkLaw" 17 yX11_set ∈ rk_tbl := rk_inT 922 (by decide +kernel) (by decide +kernel)
theorem rk_kL_18 : Cond.methodLink "RopeWalkLaw" 18 yX10_fibre ∈ rk_tbl := rk_inT 388 (by decide +kernel) (by decide +kernel)
theorem rk_kL_22 : Cond.methodLink "RopeWalkLaw" 22 yX11_fibre ∈ rk_tbl := rk_inT 939 (by decide +kernel) (by decide +kernel)
theorem rk_kL_23 : Cond.methodLink "RopeWalkLaw" 23 yX10_spin ∈ rk_tbl := rk_inT 400 (by decide +kernel) (by decide +kernel)
theorem rk_kL_26 : Cond.methodLink "RopeWalkLaw" 26 yX11_spin ∈ rk_tbl := rk_inT 946 (by decide +kernel) (by decide +kernel)
theorem rk_kL_27 : Cond.methodLink "RopeWalkLaw" 27 yX10_lay ∈ rk_tbl := rk_inT 414 (by decide +kernel) (by decide +kernel)
theorem rk_kL_31 : Cond.methodLink "RopeWalkLaw" 31 yX11_lay ∈ rk_tbl := rk_inT 952 (by decide +kernel) (by decide +kernel)
theorem rk_kL_32 : Cond.methodLink "RopeWalkLaw" 32 yX10_join ∈ rk_tbl := rk_inT 477 (by decide +kernel) (by decide +kernel)
theorem rk_kL_35 : Cond.methodLink "RopeWalkLaw" 35 yX11_join ∈ rk_tbl := rk_inT 986 (by decide +kernel) (by decide +kernel)
theorem rk_kL_36 : Cond.methodLink "RopeWalkLaw" 36 yX10_test ∈ rk_tbl := rk_inT 506 (by decide +kernel) (by decide +kernel)
theorem rk_kL_40 : Cond.methodLink "RopeWalkLaw" 40 yX11_test ∈ rk_tbl := rk_inT 1002 (by decide +kernel) (by decide +kernel)
theorem rk_kL_41 : Cond.methodLink "RopeWalkLaw" 41 yX10_order ∈ rk_tbl := rk_inT 526 (by decide +kernel) (by decide +kernel)
theorem rk_kL_45 : Cond.methodLink "RopeWalkLaw" 45 yX11_order ∈ rk_tbl := rk_inT 1014 (by decide +kernel) (by decide +kernel)
theorem rk_kL_46 : Cond.methodLink "RopeWalkLaw" 46 yX10_fill ∈ rk_tbl := rk_inT 540 (by decide +kernel) (by decide +kernel)
theorem rk_kL_49 : Cond.methodLink "RopeWalkLaw" 49 yX11_fill ∈ rk_tbl := rk_inT 1020 (by decide +kernel) (by decide +kernel)
theorem rk_kL_50 : Cond.methodLink "RopeWalkLaw" 50 yX10_drop ∈ rk_tbl := rk_inT 571 (by decide +kernel) (by decide +kernel)
theorem rk_kL_53 : Cond.methodLink "RopeWalkLaw" 53 yX11_drop ∈ rk_tbl := rk_inT 1048 (by decide +kernel) (by decide +kernel)
theorem rk_kL_54 : Cond.methodLink "RopeWalkLaw" 54 yX10_pass ∈ rk_tbl := rk_inT 579 (by decide +kernel) (by decide +kernel)
theorem rk_kL_57 : Cond.methodLink "RopeWalkLaw" 57 yX11_pass ∈ rk_tbl := rk_inT 1052 (by decide +kernel) (by decide +kernel)
theorem rk_kL_58 : Cond.methodLink "RopeWalkLaw" 58 yX10_piece ∈ rk_tbl := rk_inT 596 (by decide +kernel) (by decide +kernel)
theorem rk_kL_61 : Cond.methodLink "RopeWalkLaw" 61 yX11_piece ∈ rk_tbl := rk_inT 1060 (by decide +kernel) (by decide +kernel)
theorem rk_kL_62 : Cond.methodLink "RopeWalkLaw" 62 yX10_ofOrder ∈ rk_tbl := rk_inT 604 (by decide +kernel) (by decide +kernel)
theorem rk_kL_65 : Cond.methodLink "RopeWalkLaw" 65 yX11_ofOrder ∈ rk_tbl := rk_inT 1064 (by decide +kernel) (by decide +kernel)
theorem rk_kL_66 : Cond.methodLink "RopeWalkLaw" 66 yX10_count ∈ rk_tbl := rk_inT 616 (by decide +kernel) (by decide +kernel)
theorem rk_kL_69 : Cond.methodLink "RopeWalkLaw" 69 yX11_count ∈ rk_tbl := rk_inT 1072 (by decide +kernel) (by decide +kernel)
theorem rk_kL_70 : Cond.methodLink "RopeWalkLaw" 70 yX10_account ∈ rk_tbl := rk_inT 628 (by decide +kernel) (by decide +kernel)
theorem rk_kL_73 : Cond.methodLink "RopeWalkLaw" 73 yX11_account ∈ rk_tbl := rk_inT 1076 (by decide +kernel) (by decide +kernel)
theorem rk_kL_74 : Cond.methodLink "RopeWalkLaw" 74 yX10_takes ∈ rk_tbl := rk_inT 633 (by decide +kernel) (by decide +kernel)
theorem rk_kL_78 : Cond.methodLink "RopeWalkLaw" 78 yX11_takes ∈ rk_tbl := rk_inT 1080 (by decide +kernel) (by decide +kernel)
theorem rk_kL_79 : Cond.methodLink "RopeWalkLaw" 79 yX10_longest ∈ rk_tbl := rk_inT 649 (by decide +kernel) (by decide +kernel)
theorem rk_kL_82 : Cond.methodLink "RopeWalkLaw" 82 yX11_longest ∈ rk_tbl := rk_inT 1088 (by decide +kernel) (by decide +kernel)
theorem rk_kL_83 : Cond.methodLink "RopeWalkLaw" 83 yX10_leastYarns ∈ rk_tbl := rk_inT 657 (by decide +kernel) (by decide +kernel)
theorem rk_kL_86 : Cond.methodLink "RopeWalkLaw" 86 yX11_leastYarns ∈ rk_tbl := rk_inT 1092 (by decide +kernel) (by decide +kernel)
theorem rk_kL_87 : Cond.methodLink "RopeWalkLaw" 87 yX10_wouldFill ∈ rk_tbl := rk_inT 666 (by decide +kernel) (by decide +kernel)
theorem rk_kL_90 : Cond.methodLink "RopeWalkLaw" 90 yX11_wouldFill ∈ rk_tbl := rk_inT 1096 (by decide +kernel) (by decide +kernel)
theorem rk_kL_91 : Cond.methodLink "RopeWalkLaw" 91 yX10_bestSet ∈ rk_tbl := rk_inT 677 (by decide +kernel) (by decide +kernel)
theorem rk_kL_94 : Cond.methodLink "RopeWalkLaw" 94 yX11_bestSet ∈ rk_tbl := rk_inT 1108 (by decide +kernel) (by decide +kernel)
theorem rk_kL_95 : Cond.methodLink "RopeWalkLaw" 95 yX10_fewestJoined ∈ rk_tbl := rk_inT 698 (by decide +kernel) (by decide +kernel)
theorem rk_kL_98 : Cond.methodLink "RopeWalkLaw" 98 yX11_fewestJoined ∈ rk_tbl := rk_inT 1112 (by decide +kernel) (by decide +kernel)
theorem rk_kL_99 : Cond.methodLink "RopeWalkLaw" 99 yX10_finesIn ∈ rk_tbl := rk_inT 712 (by decide +kernel) (by decide +kernel)
theorem rk_kL_102 : Cond.methodLink "RopeWalkLaw" 102 yX11_finesIn ∈ rk_tbl := rk_inT 1116 (by decide +kernel) (by decide +kernel)
theorem rk_kL_105 : Cond.methodLink "RopeWalkLaw" 105 yX10_put ∈ rk_tbl := rk_inT 717 (by decide +kernel) (by decide +kernel)
theorem rk_kL_109 : Cond.methodLink "RopeWalkLaw" 109 yX11_put ∈ rk_tbl := rk_inT 1120 (by decide +kernel) (by decide +kernel)
theorem rk_kL_110 : Cond.methodLink "RopeWalkLaw" 110 yX10_wipe ∈ rk_tbl := rk_inT 733 (by decide +kernel) (by decide +kernel)
theorem rk_kL_114 : Cond.methodLink "RopeWalkLaw" 114 yX11_wipe ∈ rk_tbl := rk_inT 1125 (by decide +kernel) (by decide +kernel)
theorem rk_kL_115 : Cond.methodLink "RopeWalkLaw" 115 yX10_fault ∈ rk_tbl := rk_inT 741 (by decide +kernel) (by decide +kernel)
theorem rk_kL_118 : Cond.methodLink "RopeWalkLaw" 118 yX11_fault ∈ rk_tbl := rk_inT 1129 (by decide +kernel) (by decide +kernel)
theorem rk_kL_119 : Cond.methodLink "RopeWalkLaw" 119 yX10_carryOut ∈ rk_tbl := rk_inT 846 (by decide +kernel) (by decide +kernel)
theorem rk_kL_122 : Cond.methodLink "RopeWalkLaw" 122 yX11_carryOut ∈ rk_tbl := rk_inT 1158 (by decide +kernel) (by decide +kernel)
theorem rk_kL_123 : Cond.methodLink "RopeWalkLaw" 123 yX10_undo ∈ rk_tbl := rk_inT 856 (by decide +kernel) (by decide +kernel)
theorem rk_kL_126 : Cond.methodLink "RopeWalkLaw" 126 yX11_undo ∈ rk_tbl := rk_inT 1172 (by decide +kernel) (by decide +kernel)
theorem rk_kL_127 : Cond.methodLink "RopeWalkLaw" 127 yX10_save ∈ rk_tbl := rk_inT 864 (by decide +kernel) (by decide +kernel)
theorem rk_kL_130 : Cond.methodLink "RopeWalkLaw" 130 yX11_save ∈ rk_tbl := rk_inT 1176 (by decide +kernel) (by decide +kernel)
theorem rk_kL_131 : Cond.methodLink "RopeWalkLaw" 131 yX10_restore ∈ rk_tbl := rk_inT 869 (by decide +kernel) (by decide +kernel)
theorem rk_kL_134 : Cond.methodLink "RopeWalkLaw" 134 yX11_restore ∈ rk_tbl := rk_inT 1180 (by decide +kernel) (by decide +kernel)
theorem rk_kX11_43 : Cond.methodLink RX11 43 yX11_in ∈ rk_tbl := rk_inT 926 (by decide +kernel) (by decide +kernel)
theorem rk_kX11_47 : Cond.methodLink RX11 47 yX11_least ∈ rk_tbl := rk_inT 929 (by decide +kernel) (by decide +kernel)
theorem rk_kX11_51 : Cond.methodLink RX11 51 yX11_most ∈ rk_tbl := rk_inT 932 (by decide +kernel) (by decide +kernel)
theorem rk_kX11_54 : Cond.methodLink RX11 54 yX11_record ∈ rk_tbl := rk_inT 935 (by decide +kernel) (by decide +kernel)
theorem rk_kX11_57 : Cond.methodLink RX11 57 yX11_isFibre ∈ rk_tbl := rk_inT 943 (by decide +kernel) (by decide +kernel)
theorem rk_kX11_63 : Cond.methodLink RX11 63 yX11_up ∈ rk_tbl := rk_inT 967 (by decide +kernel) (by decide +kernel)
theorem rk_kX11_67 : Cond.methodLink RX11 67 yX11_strandOf ∈ rk_tbl := rk_inT 963 (by decide +kernel) (by decide +kernel)
theorem rk_kX11_70 : Cond.methodLink RX11 70 yX11_yarnOf ∈ rk_tbl := rk_inT 970 (by decide +kernel) (by decide +kernel)
theorem rk_kX11_73 : Cond.methodLink RX11 73 yX11_hoursOf ∈ rk_tbl := rk_inT 974 (by decide +kernel) (by decide +kernel)
theorem rk_kX11_76 : Cond.methodLink RX11 76 yX11_leftHours ∈ rk_tbl := rk_inT 978 (by decide +kernel) (by decide +kernel)
theorem rk_kX11_80 : Cond.methodLink RX11 80 yX11_areStrands ∈ rk_tbl := rk_inT 956 (by decide +kernel) (by decide +kernel)
theorem rk_kX11_84 : Cond.methodLink RX11 84 yX11_canLay ∈ rk_tbl := rk_inT 959 (by decide +kernel) (by decide +kernel)
theorem rk_kX11_88 : Cond.methodLink RX11 88 yX11_qualityOf ∈ rk_tbl := rk_inT 982 (by decide +kernel) (by decide +kernel)
theorem rk_kX11_91 : Cond.methodLink RX11 91 yX11_ofPiece ∈ rk_tbl := rk_inT 994 (by decide +kernel) (by decide +kernel)
theorem rk_kX11_94 : Cond.methodLink RX11 94 yX11_dropPiece ∈ rk_tbl := rk_inT 998 (by decide +kernel) (by decide +kernel)
theorem rk_kX11_98 : Cond.methodLink RX11 98 yX11_isPiece ∈ rk_tbl := rk_inT 990 (by decide +kernel) (by decide +kernel)
theorem rk_kX11_101 : Cond.methodLink RX11 101 yX11_strengthOf ∈ rk_tbl := rk_inT 1006 (by decide +kernel) (by decide +kernel)
theorem rk_kX11_104 : Cond.methodLink RX11 104 yX11_cutFrom ∈ rk_tbl := rk_inT 1010 (by decide +kernel) (by decide +kernel)
theorem rk_kX11_109 : Cond.methodLink RX11 109 yX11_orderAt ∈ rk_tbl := rk_inT 1036 (by decide +kernel) (by decide +kernel)
theorem rk_kX11_112 : Cond.methodLink RX11 112 yX11_suits ∈ rk_tbl := rk_inT 1032 (by decide +kernel) (by decide +kernel)
theorem rk_kX11_115 : Cond.methodLink RX11 115 yX11_bestPiece ∈ rk_tbl := rk_inT 1028 (by decide +kernel) (by decide +kernel)
theorem rk_kX11_118 : Cond.methodLink RX11 118 yX11_isOrder ∈ rk_tbl := rk_inT 1024 (by decide +kernel) (by decide +kernel)
theorem rk_kX11_121 : Cond.methodLink RX11 121 yX11_cutFor ∈ rk_tbl := rk_inT 1040 (by decide +kernel) (by decide +kernel)
theorem rk_kX11_124 : Cond.methodLink RX11 124 yX11_dropOrder ∈ rk_tbl := rk_inT 1044 (by decide +kernel) (by decide +kernel)
theorem rk_kX11_127 : Cond.methodLink RX11 127 yX11_finesOf ∈ rk_tbl := rk_inT 1056 (by decide +kernel) (by decide +kernel)
theorem rk_kX11_130 : Cond.methodLink RX11 130 yX11_suiting ∈ rk_tbl := rk_inT 1068 (by decide +kernel) (by decide +kernel)
theorem rk_kX11_136 : Cond.methodLink RX11 136 yX11_newStrength ∈ rk_tbl := rk_inT 1084 (by decide +kernel) (by decide +kernel)
theorem rk_kX11_140 : Cond.methodLink RX11 140 yX11_keep ∈ rk_tbl := rk_inT 1100 (by decide +kernel) (by decide +kernel)
theorem rk_kX11_143 : Cond.methodLink RX11 143 yX11_comeBack ∈ rk_tbl := rk_inT 1104 (by decide +kernel) (by decide +kernel)
theorem rk_kX11_152 : Cond.methodLink RX11 152 yX11_sign ∈ rk_tbl := rk_inT 1141 (by decide +kernel) (by decide +kernel)
theorem rk_kX11_155 : Cond.methodLink RX11 155 yX11_digit ∈ rk_tbl := rk_inT 1145 (by decide +kernel) (by decide +kernel)
theorem rk_kX11_162 : Cond.methodLink RX11 162 yX11_need ∈ rk_tbl := rk_inT 1149 (by decide +kernel) (by decide +kernel)
theorem rk_kX11_165 : Cond.methodLink RX11 165 yX11_number ∈ rk_tbl := rk_inT 1153 (by decide +kernel) (by decide +kernel)
theorem rk_kX11_168 : Cond.methodLink RX11 168 yX11_readOne ∈ rk_tbl := rk_inT 1137 (by decide +kernel) (by decide +kernel)
theorem rk_kX11_173 : Cond.methodLink RX11 173 yX11_faultOf ∈ rk_tbl := rk_inT 1133 (by decide +kernel) (by decide +kernel)
theorem rk_kX11_176 : Cond.methodLink RX11 176 yX11_spin ∈ rk_tbl := rk_inT 1166 (by decide +kernel) (by decide +kernel)
theorem rk_kX11_179 : Cond.methodLink RX11 179 yX11_lay ∈ rk_tbl := rk_inT 1167 (by decide +kernel) (by decide +kernel)
theorem rk_kX11_183 : Cond.methodLink RX11 183 yX11_join ∈ rk_tbl := rk_inT 1168 (by decide +kernel) (by decide +kernel)
theorem rk_kX11_186 : Cond.methodLink RX11 186 yX11_test ∈ rk_tbl := rk_inT 1169 (by decide +kernel) (by decide +kernel)
theorem rk_kX11_189 : Cond.methodLink RX11 189 yX11_fill ∈ rk_tbl := rk_inT 1170 (by decide +kernel) (by decide +kernel)
theorem rk_kX11_192 : Cond.methodLink RX11 192 yX11_pass ∈ rk_tbl := rk_inT 1171 (by decide +kernel) (by decide +kernel)
theorem rk_kX11_195 : Cond.methodLink RX11 195 yX11_carry ∈ rk_tbl := rk_inT 1162 (by decide +kernel) (by decide +kernel)
theorem rk_kX10_10 : Cond.fieldLink RX10 10 RX10 "yard" "LRopeWalk$Yard;" ∈ rk_tbl := rk_inT 314 (by decide +kernel) (by decide +kernel)
theorem rk_kX10_19 : Cond.fieldLink RX10 19 RX10 "history" "LRopeWalk$History;" ∈ rk_tbl := rk_inT 315 (by decide +kernel) (by decide +kernel)
theorem rk_kX10_23 : Cond.fieldLink RX10 23 RX10 "slots" "[LRopeWalk$Yard;" ∈ rk_tbl := rk_inT 316 (by decide +kernel) (by decide +kernel)
theorem rk_kX10_27 : Cond.fieldLink RX10 27 RX10 "saved" "[Z" ∈ rk_tbl := rk_inT 317 (by decide +kernel) (by decide +kernel)
theorem rk_kX10_34 : Cond.fieldLink RX10 34 RX10 "reader" "LRopeWalk$Reader;" ∈ rk_tbl := rk_inT 318 (by decide +kernel) (by decide +kernel)
theorem rk_kX10_38 : Cond.fieldLink RX10 38 RX5 "pad" "LRopeWalk$Pad;" ∈ rk_tbl := rk_inT 275 (by decide +kernel) (by decide +kernel)
theorem rk_kX10_42 : Cond.fieldLink RX10 42 RX10 "pad" "LRopeWalk$Pad;" ∈ rk_tbl := rk_inT 319 (by decide +kernel) (by decide +kernel)
theorem rk_kX10_46 : Cond.fieldLink RX10 46 RX10 "trial" "LRopeWalk$Trial;" ∈ rk_tbl := rk_inT 320 (by decide +kernel) (by decide +kernel)
theorem rk_kX10_98 : Cond.fieldLink RX10 98 RX3 "length" "I" ∈ rk_tbl := rk_inT 266 (by decide +kernel) (by decide +kernel)
theorem rk_kX10_104 : Cond.fieldLink RX10 104 RX1 "count" "I" ∈ rk_tbl := rk_inT 244 (by decide +kernel) (by decide +kernel)
theorem rk_kX10_118 : Cond.fieldLink RX10 118 RX9 "stock" "LRopeWalk$Stock;" ∈ rk_tbl := rk_inT 206 (by decide +kernel) (by decide +kernel)
theorem rk_kX10_122 : Cond.fieldLink RX10 122 RX7 "accounts" "[[I" ∈ rk_tbl := rk_inT 130 (by decide +kernel) (by decide +kernel)
theorem rk_kX10_132 : Cond.fieldLink RX10 132 RX9 "rules" "LRopeWalk$Rules;" ∈ rk_tbl := rk_inT 203 (by decide +kernel) (by decide +kernel)
theorem rk_kX10_149 : Cond.fieldLink RX10 149 RX9 "book" "LRopeWalk$Book;" ∈ rk_tbl := rk_inT 209 (by decide +kernel) (by decide +kernel)
theorem rk_kX10_165 : Cond.fieldLink RX10 165 RX8 "bestMask" "I" ∈ rk_tbl := rk_inT 304 (by decide +kernel) (by decide +kernel)
theorem rk_kX10_168 : Cond.fieldLink RX10 168 RX8 "bestSum" "I" ∈ rk_tbl := rk_inT 306 (by decide +kernel) (by decide +kernel)
theorem rk_kX10_172 : Cond.fieldLink RX10 172 RX6 "settings" "[I" ∈ rk_tbl := rk_inT 52 (by decide +kernel) (by decide +kernel)
theorem rk_kX10_203 : Cond.fieldLink RX10 203 RX5 "numbers" "[I" ∈ rk_tbl := rk_inT 280 (by decide +kernel) (by decide +kernel)
theorem rk_kX10_206 : Cond.fieldLink RX10 206 RX5 "kind" "I" ∈ rk_tbl := rk_inT 278 (by decide +kernel) (by decide +kernel)
theorem rk_kX10_216 : Cond.fieldLink RX10 216 RX9 "today" "I" ∈ rk_tbl := rk_inT 211 (by decide +kernel) (by decide +kernel)
theorem rk_kX0_11 : Cond.fieldLink RX0 11 RX0 "orders" "[LRopeWalk$Order;" ∈ rk_tbl := rk_inT 190 (by decide +kernel) (by decide +kernel)
theorem rk_kX0_18 : Cond.fieldLink RX0 18 RX0 "count" "I" ∈ rk_tbl := rk_inT 193 (by decide +kernel) (by decide +kernel)
theorem rk_kX0_30 : Cond.fieldLink RX0 30 RX2 "due" "I" ∈ rk_tbl := rk_inT 170 (by decide +kernel) (by decide +kernel)
theorem rk_kX0_39 : Cond.fieldLink RX0 39 RX2 "wanted" "I" ∈ rk_tbl := rk_inT 163 (by decide +kernel) (by decide +kernel)
theorem rk_kX1_13 : Cond.fieldLink RX1 13 RX1 "rows" "[LRopeWalk$Yard;" ∈ rk_tbl := rk_inT 242 (by decide +kernel) (by decide +kernel)
theorem rk_kX1_18 : Cond.fieldLink RX1 18 RX1 "count" "I" ∈ rk_tbl := rk_inT 243 (by decide +kernel) (by decide +kernel)
theorem rk_kX2_7 : Cond.fieldLink RX2 7 RX2 "fibre" "I" ∈ rk_tbl := rk_inT 151 (by decide +kernel) (by decide +kernel)
theorem rk_kX2_13 : Cond.fieldLink RX2 13 RX2 "strength" "I" ∈ rk_tbl := rk_inT 155 (by decide +kernel) (by decide +kernel)
theorem rk_kX2_16 : Cond.fieldLink RX2 16 RX2 "length" "I" ∈ rk_tbl := rk_inT 158 (by decide +kernel) (by decide +kernel)
theorem rk_kX2_19 : Cond.fieldLink RX2 19 RX2 "wanted" "I" ∈ rk_tbl := rk_inT 162 (by decide +kernel) (by decide +kernel)
theorem rk_kX2_22 : Cond.fieldLink RX2 22 RX2 "splicesAllowed" "Z" ∈ rk_tbl := rk_inT 166 (by decide +kernel) (by decide +kernel)
theorem rk_kX2_26 : Cond.fieldLink RX2 26 RX2 "due" "I" ∈ rk_tbl := rk_inT 169 (by decide +kernel) (by decide +kernel)
theorem rk_kX2_29 : Cond.fieldLink RX2 29 RX2 "price" "I" ∈ rk_tbl := rk_inT 172 (by decide +kernel) (by decide +kernel)
theorem rk_kX3_11 : Cond.fieldLink RX3 11 RX3 "signs" "[C" ∈ rk_tbl := rk_inT 262 (by decide +kernel) (by decide +kernel)
theorem rk_kX3_19 : Cond.fieldLink RX3 19 RX3 "length" "I" ∈ rk_tbl := rk_inT 264 (by decide +kernel) (by decide +kernel)
theorem rk_kX4_7 : Cond.fieldLink RX4 7 RX4 "fibre" "I" ∈ rk_tbl := rk_inT 80 (by decide +kernel) (by decide +kernel)
theorem rk_kX4_13 : Cond.fieldLink RX4 13 RX4 "strands" "I" ∈ rk_tbl := rk_inT 84 (by decide +kernel) (by decide +kernel)
theorem rk_kX4_16 : Cond.fieldLink RX4 16 RX4 "yarns" "I" ∈ rk_tbl := rk_inT 88 (by decide +kernel) (by decide +kernel)
theorem rk_kX4_19 : Cond.fieldLink RX4 19 RX4 "length" "I" ∈ rk_tbl := rk_inT 92 (by decide +kernel) (by decide +kernel)
theorem rk_kX4_22 : Cond.fieldLink RX4 22 RX4 "yarn" "I" ∈ rk_tbl := rk_inT 96 (by decide +kernel) (by decide +kernel)
theorem rk_kX4_25 : Cond.fieldLink RX4 25 RX4 "quality" "I" ∈ rk_tbl := rk_inT 99 (by decide +kernel) (by decide +kernel)
theorem rk_kX4_28 : Cond.fieldLink RX4 28 RX4 "splices" "I" ∈ rk_tbl := rk_inT 103 (by decide +kernel) (by decide +kernel)
theorem rk_kX5_12 : Cond.fieldLink RX5 12 RX5 "pad" "LRopeWalk$Pad;" ∈ rk_tbl := rk_inT 274 (by decide +kernel) (by decide +kernel)
theorem rk_kX5_18 : Cond.fieldLink RX5 18 RX5 "numbers" "[I" ∈ rk_tbl := rk_inT 279 (by decide +kernel) (by decide +kernel)
theorem rk_kX5_22 : Cond.fieldLink RX5 22 RX5 "at" "I" ∈ rk_tbl := rk_inT 276 (by decide +kernel) (by decide +kernel)
theorem rk_kX5_33 : Cond.fieldLink RX5 33 RX3 "length" "I" ∈ rk_tbl := rk_inT 265 (by decide +kernel) (by decide +kernel)
theorem rk_kX5_44 : Cond.fieldLink RX5 44 RX5 "kind" "I" ∈ rk_tbl := rk_inT 277 (by decide +kernel) (by decide +kernel)
theorem rk_kX5_56 : Cond.fieldLink RX5 56 RX5 "found" "I" ∈ rk_tbl := rk_inT 281 (by decide +kernel) (by decide +kernel)
theorem rk_kX5_78 : Cond.fieldLink RX5 78 RX3 "signs" "[C" ∈ rk_tbl := rk_inT 263 (by decide +kernel) (by decide +kernel)
theorem rk_kX6_9 : Cond.fieldLink RX6 9 RX6 "settings" "[I" ∈ rk_tbl := rk_inT 49 (by decide +kernel) (by decide +kernel)
theorem rk_kX6_15 : Cond.fieldLink RX6 15 RX6 "strengths" "[I" ∈ rk_tbl := rk_inT 53 (by decide +kernel) (by decide +kernel)
theorem rk_kX6_18 : Cond.fieldLink RX6 18 RX6 "twists" "[I" ∈ rk_tbl := rk_inT 55 (by decide +kernel) (by decide +kernel)
theorem rk_kX6_58 : Cond.fieldLink RX6 58 RX4 "strands" "I" ∈ rk_tbl := rk_inT 86 (by decide +kernel) (by decide +kernel)
theorem rk_kX6_64 : Cond.fieldLink RX6 64 RX4 "yarns" "I" ∈ rk_tbl := rk_inT 90 (by decide +kernel) (by decide +kernel)
theorem rk_kX6_67 : Cond.fieldLink RX6 67 RX4 "fibre" "I" ∈ rk_tbl := rk_inT 82 (by decide +kernel) (by decide +kernel)
theorem rk_kX6_70 : Cond.fieldLink RX6 70 RX4 "quality" "I" ∈ rk_tbl := rk_inT 101 (by decide +kernel) (by decide +kernel)
theorem rk_kX6_73 : Cond.fieldLink RX6 73 RX4 "splices" "I" ∈ rk_tbl := rk_inT 105 (by decide +kernel) (by decide +kernel)
theorem rk_kX6_76 : Cond.fieldLink RX6 76 RX2 "fibre" "I" ∈ rk_tbl := rk_inT 153 (by decide +kernel) (by decide +kernel)
theorem rk_kX6_79 : Cond.fieldLink RX6 79 RX4 "length" "I" ∈ rk_tbl := rk_inT 95 (by decide +kernel) (by decide +kernel)
theorem rk_kX6_82 : Cond.fieldLink RX6 82 RX2 "length" "I" ∈ rk_tbl := rk_inT 159 (by decide +kernel) (by decide +kernel)
theorem rk_kX6_83 : Cond.fieldLink RX6 83 RX2 "splicesAllowed" "Z" ∈ rk_tbl := rk_inT 167 (by decide +kernel) (by decide +kernel)
theorem rk_kX6_91 : Cond.fieldLink RX6 91 RX2 "strength" "I" ∈ rk_tbl := rk_inT 156 (by decide +kernel) (by decide +kernel)
theorem rk_kX7_11 : Cond.fieldLink RX7 11 RX7 "pieces" "[LRopeWalk$Piece;" ∈ rk_tbl := rk_inT 122 (by decide +kernel) (by decide +kernel)
theorem rk_kX7_19 : Cond.fieldLink RX7 19 RX7 "accounts" "[[I" ∈ rk_tbl := rk_inT 127 (by decide +kernel) (by decide +kernel)
theorem rk_kX7_23 : Cond.fieldLink RX7 23 RX7 "count" "I" ∈ rk_tbl := rk_inT 124 (by decide +kernel) (by decide +kernel)
theorem rk_kX7_41 : Cond.fieldLink RX7 41 RX4 "fibre" "I" ∈ rk_tbl := rk_inT 81 (by decide +kernel) (by decide +kernel)
theorem rk_kX7_44 : Cond.fieldLink RX7 44 RX4 "strands" "I" ∈ rk_tbl := rk_inT 85 (by decide +kernel) (by decide +kernel)
theorem rk_kX7_47 : Cond.fieldLink RX7 47 RX4 "yarns" "I" ∈ rk_tbl := rk_inT 89 (by decide +kernel) (by decide +kernel)
theorem rk_kX7_50 : Cond.fieldLink RX7 50 RX4 "length" "I" ∈ rk_tbl := rk_inT 93 (by decide +kernel) (by decide +kernel)
theorem rk_kX7_59 : Cond.fieldLink RX7 59 RX4 "yarn" "I" ∈ rk_tbl := rk_inT 97 (by decide +kernel) (by decide +kernel)
theorem rk_kX7_66 : Cond.fieldLink RX7 66 RX4 "quality" "I" ∈ rk_tbl := rk_inT 100 (by decide +kernel) (by decide +kernel)
theorem rk_kX7_69 : Cond.fieldLink RX7 69 RX4 "splices" "I" ∈ rk_tbl := rk_inT 104 (by decide +kernel) (by decide +kernel)
theorem rk_kX7_92 : Cond.fieldLink RX7 92 RX2 "wanted" "I" ∈ rk_tbl := rk_inT 164 (by decide +kernel) (by decide +kernel)
theorem rk_kX7_101 : Cond.fieldLink RX7 101 RX2 "length" "I" ∈ rk_tbl := rk_inT 160 (by decide +kernel) (by decide +kernel)
theorem rk_kX7_102 : Cond.fieldLink RX7 102 RX6 "settings" "[I" ∈ rk_tbl := rk_inT 51 (by decide +kernel) (by decide +kernel)
theorem rk_kX8_13 : Cond.fieldLink RX8 13 RX8 "stocks" "[LRopeWalk$Stock;" ∈ rk_tbl := rk_inT 302 (by decide +kernel) (by decide +kernel)
theorem rk_kX8_18 : Cond.fieldLink RX8 18 RX9 "stock" "LRopeWalk$Stock;" ∈ rk_tbl := rk_inT 205 (by decide +kernel) (by decide +kernel)
theorem rk_kX8_28 : Cond.fieldLink RX8 28 RX9 "book" "LRopeWalk$Book;" ∈ rk_tbl := rk_inT 208 (by decide +kernel) (by decide +kernel)
theorem rk_kX8_32 : Cond.fieldLink RX8 32 RX0 "orders" "[LRopeWalk$Order;" ∈ rk_tbl := rk_inT 191 (by decide +kernel) (by decide +kernel)
theorem rk_kX8_38 : Cond.fieldLink RX8 38 RX9 "rules" "LRopeWalk$Rules;" ∈ rk_tbl := rk_inT 202 (by decide +kernel) (by decide +kernel)
theorem rk_kX8_46 : Cond.fieldLink RX8 46 RX7 "accounts" "[[I" ∈ rk_tbl := rk_inT 128 (by decide +kernel) (by decide +kernel)
theorem rk_kX8_50 : Cond.fieldLink RX8 50 RX2 "fibre" "I" ∈ rk_tbl := rk_inT 152 (by decide +kernel) (by decide +kernel)
theorem rk_kX8_56 : Cond.fieldLink RX8 56 RX7 "count" "I" ∈ rk_tbl := rk_inT 125 (by decide +kernel) (by decide +kernel)
theorem rk_kX8_59 : Cond.fieldLink RX8 59 RX8 "bestMask" "I" ∈ rk_tbl := rk_inT 303 (by decide +kernel) (by decide +kernel)
theorem rk_kX8_62 : Cond.fieldLink RX8 62 RX8 "bestSum" "I" ∈ rk_tbl := rk_inT 305 (by decide +kernel) (by decide +kernel)
theorem rk_kX8_69 : Cond.fieldLink RX8 69 RX0 "count" "I" ∈ rk_tbl := rk_inT 194 (by decide +kernel) (by decide +kernel)
theorem rk_kX8_80 : Cond.fieldLink RX8 80 RX2 "price" "I" ∈ rk_tbl := rk_inT 173 (by decide +kernel) (by decide +kernel)
theorem rk_kX9_12 : Cond.fieldLink RX9 12 RX9 "rules" "LRopeWalk$Rules;" ∈ rk_tbl := rk_inT 201 (by decide +kernel) (by decide +kernel)
theorem rk_kX9_21 : Cond.fieldLink RX9 21 RX9 "stock" "LRopeWalk$Stock;" ∈ rk_tbl := rk_inT 204 (by decide +kernel) (by decide +kernel)
theorem rk_kX9_28 : Cond.fieldLink RX9 28 RX9 "book" "LRopeWalk$Book;" ∈ rk_tbl := rk_inT 207 (by decide +kernel) (by decide +kernel)
theorem rk_kX9_42 : Cond.fieldLink RX9 42 RX9 "today" "I" ∈ rk_tbl := rk_inT 210 (by decide +kernel) (by decide +kernel)
theorem rk_kX9_46 : Cond.fieldLink RX9 46 RX9 "hoursUsed" "I" ∈ rk_tbl := rk_inT 212 (by decide +kernel) (by decide +kernel)
theorem rk_kX9_49 : Cond.fieldLink RX9 49 RX9 "ropesSold" "I" ∈ rk_tbl := rk_inT 213 (by decide +kernel) (by decide +kernel)
theorem rk_kX9_52 : Cond.fieldLink RX9 52 RX9 "got" "I" ∈ rk_tbl := rk_inT 214 (by decide +kernel) (by decide +kernel)
theorem rk_kX9_55 : Cond.fieldLink RX9 55 RX9 "fines" "I" ∈ rk_tbl := rk_inT 215 (by decide +kernel) (by decide +kernel)
theorem rk_kX9_69 : Cond.fieldLink RX9 69 RX6 "settings" "[I" ∈ rk_tbl := rk_inT 50 (by decide +kernel) (by decide +kernel)
theorem rk_kX9_76 : Cond.fieldLink RX9 76 RX6 "strengths" "[I" ∈ rk_tbl := rk_inT 54 (by decide +kernel) (by decide +kernel)
theorem rk_kX9_79 : Cond.fieldLink RX9 79 RX6 "twists" "[I" ∈ rk_tbl := rk_inT 56 (by decide +kernel) (by decide +kernel)
theorem rk_kX9_83 : Cond.fieldLink RX9 83 RX7 "accounts" "[[I" ∈ rk_tbl := rk_inT 129 (by decide +kernel) (by decide +kernel)
theorem rk_kX9_131 : Cond.fieldLink RX9 131 RX7 "pieces" "[LRopeWalk$Piece;" ∈ rk_tbl := rk_inT 123 (by decide +kernel) (by decide +kernel)
theorem rk_kX9_141 : Cond.fieldLink RX9 141 RX4 "length" "I" ∈ rk_tbl := rk_inT 94 (by decide +kernel) (by decide +kernel)
theorem rk_kX9_158 : Cond.fieldLink RX9 158 RX0 "orders" "[LRopeWalk$Order;" ∈ rk_tbl := rk_inT 192 (by decide +kernel) (by decide +kernel)
theorem rk_kX9_162 : Cond.fieldLink RX9 162 RX0 "count" "I" ∈ rk_tbl := rk_inT 195 (by decide +kernel) (by decide +kernel)
theorem rk_kX9_165 : Cond.fieldLink RX9 165 RX2 "fibre" "I" ∈ rk_tbl := rk_inT 154 (by decide +kernel) (by decide +kernel)
theorem rk_kX9_170 : Cond.fieldLink RX9 170 RX2 "strength" "I" ∈ rk_tbl := rk_inT 157 (by decide +kernel) (by decide +kernel)
theorem rk_kX9_173 : Cond.fieldLink RX9 173 RX2 "length" "I" ∈ rk_tbl := rk_inT 161 (by decide +kernel) (by decide +kernel)
theorem rk_kX9_174 : Cond.fieldLink RX9 174 RX2 "wanted" "I" ∈ rk_tbl := rk_inT 165 (by decide +kernel) (by decide +kernel)
theorem rk_kX9_177 : Cond.fieldLink RX9 177 RX2 "splicesAllowed" "Z" ∈ rk_tbl := rk_inT 168 (by decide +kernel) (by decide +kernel)
theorem rk_kX9_181 : Cond.fieldLink RX9 181 RX2 "due" "I" ∈ rk_tbl := rk_inT 171 (by decide +kernel) (by decide +kernel)
theorem rk_kX9_184 : Cond.fieldLink RX9 184 RX2 "price" "I" ∈ rk_tbl := rk_inT 174 (by decide +kernel) (by decide +kernel)
theorem rk_kX9_202 : Cond.fieldLink RX9 202 RX4 "fibre" "I" ∈ rk_tbl := rk_inT 83 (by decide +kernel) (by decide +kernel)
theorem rk_kX9_203 : Cond.fieldLink RX9 203 RX4 "strands" "I" ∈ rk_tbl := rk_inT 87 (by decide +kernel) (by decide +kernel)
theorem rk_kX9_206 : Cond.fieldLink RX9 206 RX4 "yarns" "I" ∈ rk_tbl := rk_inT 91 (by decide +kernel) (by decide +kernel)
theorem rk_kX9_209 : Cond.fieldLink RX9 209 RX4 "yarn" "I" ∈ rk_tbl := rk_inT 98 (by decide +kernel) (by decide +kernel)
theorem rk_kX9_212 : Cond.fieldLink RX9 212 RX4 "quality" "I" ∈ rk_tbl := rk_inT 102 (by decide +kernel) (by decide +kernel)
theorem rk_kX9_215 : Cond.fieldLink RX9 215 RX4 "splices" "I" ∈ rk_tbl := rk_inT 106 (by decide +kernel) (by decide +kernel)
theorem rk_kX9_221 : Cond.fieldLink RX9 221 RX7 "count" "I" ∈ rk_tbl := rk_inT 126 (by decide +kernel) (by decide +kernel)
theorem rk_kX11_7 : Cond.fieldLink RX11 7 RX11 "now" "[I" ∈ rk_tbl := rk_inT 879 (by decide +kernel) (by decide +kernel)
theorem rk_kX11_13 : Cond.fieldLink RX11 13 RX11 "kept" "[I" ∈ rk_tbl := rk_inT 880 (by decide +kernel) (by decide +kernel)
theorem rk_kX11_16 : Cond.fieldLink RX11 16 RX11 "history" "[I" ∈ rk_tbl := rk_inT 881 (by decide +kernel) (by decide +kernel)
theorem rk_kX11_19 : Cond.fieldLink RX11 19 RX11 "saved" "[I" ∈ rk_tbl := rk_inT 883 (by decide +kernel) (by decide +kernel)
theorem rk_kX11_22 : Cond.fieldLink RX11 22 RX11 "isSaved" "[Z" ∈ rk_tbl := rk_inT 884 (by decide +kernel) (by decide +kernel)
theorem rk_kX11_26 : Cond.fieldLink RX11 26 RX11 "pad" "[I" ∈ rk_tbl := rk_inT 885 (by decide +kernel) (by decide +kernel)
theorem rk_kX11_29 : Cond.fieldLink RX11 29 RX11 "isUsed" "[Z" ∈ rk_tbl := rk_inT 888 (by decide +kernel) (by decide +kernel)
theorem rk_kX11_32 : Cond.fieldLink RX11 32 RX11 "jobs" "[I" ∈ rk_tbl := rk_inT 889 (by decide +kernel) (by decide +kernel)
theorem rk_kX11_35 : Cond.fieldLink RX11 35 RX11 "isInText" "Z" ∈ rk_tbl := rk_inT 887 (by decide +kernel) (by decide +kernel)
theorem rk_kX11_39 : Cond.fieldLink RX11 39 RX11 "undos" "I" ∈ rk_tbl := rk_inT 882 (by decide +kernel) (by decide +kernel)
theorem rk_kX11_133 : Cond.fieldLink RX11 133 RX11 "signs" "I" ∈ rk_tbl := rk_inT 886 (by decide +kernel) (by decide +kernel)
theorem rk_kX11_146 : Cond.fieldLink RX11 146 RX11 "at" "I" ∈ rk_tbl := rk_inT 891 (by decide +kernel) (by decide +kernel)
theorem rk_kX11_149 : Cond.fieldLink RX11 149 RX11 "isWrong" "Z" ∈ rk_tbl := rk_inT 892 (by decide +kernel) (by decide +kernel)
theorem rk_kX11_159 : Cond.fieldLink RX11 159 RX11 "many" "I" ∈ rk_tbl := rk_inT 890 (by decide +kernel) (by decide +kernel)
end
