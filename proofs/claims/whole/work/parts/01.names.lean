-- ===== PART A: goes FIRST, ahead of the names: the tables' words, and 'selects' of the private methods out of them =====
/-- a private method of a class that the tables say can be made, by its rows of tables_1 -/
def lw_okq (q : MethodName × Nat) : Prop := (q.1.cls ≠ "java/lang/invoke/MethodHandle" ∧ q.1.cls ≠ "java/lang/invoke/VarHandle") ∧ Cond.instantiable q.1.cls q.2 ∈ tables_1 ∧ Cond.privateMethod q.1 ∈ tables_1 ∧ Cond.instanceMethod q.1 ∈ tables_1
theorem lw_p0 : lw_okq (⟨"NeverSaid$Reader", "splitTape", "()V"⟩, 11) := ⟨⟨by decide +kernel, by decide +kernel⟩, List.mem_of_getElem? (i := 152) (by decide +kernel), List.mem_of_getElem? (i := 606) (by decide +kernel), List.mem_of_getElem? (i := 607) (by decide +kernel)⟩
theorem lw_p1 : lw_okq (⟨"NeverSaid$Reader", "addWord", "(II)V"⟩, 11) := ⟨⟨by decide +kernel, by decide +kernel⟩, List.mem_of_getElem? (i := 152) (by decide +kernel), List.mem_of_getElem? (i := 619) (by decide +kernel), List.mem_of_getElem? (i := 620) (by decide +kernel)⟩
theorem lw_p2 : lw_okq (⟨"NeverSaid$Reader", "readKey", "()V"⟩, 11) := ⟨⟨by decide +kernel, by decide +kernel⟩, List.mem_of_getElem? (i := 152) (by decide +kernel), List.mem_of_getElem? (i := 623) (by decide +kernel), List.mem_of_getElem? (i := 624) (by decide +kernel)⟩
theorem lw_p3 : lw_okq (⟨"NeverSaid$Reader", "isWord", "(Ljava/lang/String;)Z"⟩, 11) := ⟨⟨by decide +kernel, by decide +kernel⟩, List.mem_of_getElem? (i := 152) (by decide +kernel), List.mem_of_getElem? (i := 628) (by decide +kernel), List.mem_of_getElem? (i := 629) (by decide +kernel)⟩
theorem lw_p4 : lw_okq (⟨"NeverSaid$Reader", "fail", "()V"⟩, 11) := ⟨⟨by decide +kernel, by decide +kernel⟩, List.mem_of_getElem? (i := 152) (by decide +kernel), List.mem_of_getElem? (i := 682) (by decide +kernel), List.mem_of_getElem? (i := 683) (by decide +kernel)⟩
theorem lw_p5 : lw_okq (⟨"NeverSaid$Reader", "goOn", "()V"⟩, 11) := ⟨⟨by decide +kernel, by decide +kernel⟩, List.mem_of_getElem? (i := 152) (by decide +kernel), List.mem_of_getElem? (i := 686) (by decide +kernel), List.mem_of_getElem? (i := 687) (by decide +kernel)⟩
theorem lw_p6 : lw_okq (⟨"NeverSaid$Reader", "readSide", "(III)V"⟩, 11) := ⟨⟨by decide +kernel, by decide +kernel⟩, List.mem_of_getElem? (i := 152) (by decide +kernel), List.mem_of_getElem? (i := 690) (by decide +kernel), List.mem_of_getElem? (i := 691) (by decide +kernel)⟩
theorem lw_p7 : lw_okq (⟨"NeverSaid$Reader", "readPiece", "(II)V"⟩, 11) := ⟨⟨by decide +kernel, by decide +kernel⟩, List.mem_of_getElem? (i := 152) (by decide +kernel), List.mem_of_getElem? (i := 694) (by decide +kernel), List.mem_of_getElem? (i := 695) (by decide +kernel)⟩
theorem lw_p8 : lw_okq (⟨"NeverSaid$Reader", "readNumber", "()V"⟩, 11) := ⟨⟨by decide +kernel, by decide +kernel⟩, List.mem_of_getElem? (i := 152) (by decide +kernel), List.mem_of_getElem? (i := 698) (by decide +kernel), List.mem_of_getElem? (i := 699) (by decide +kernel)⟩
theorem lw_p9 : lw_okq (⟨"NeverSaid$Reader", "addPiece", "(I)V"⟩, 11) := ⟨⟨by decide +kernel, by decide +kernel⟩, List.mem_of_getElem? (i := 152) (by decide +kernel), List.mem_of_getElem? (i := 702) (by decide +kernel), List.mem_of_getElem? (i := 703) (by decide +kernel)⟩
theorem lw_p10 : lw_okq (⟨"NeverSaid$Reader", "addStep", "(I)V"⟩, 11) := ⟨⟨by decide +kernel, by decide +kernel⟩, List.mem_of_getElem? (i := 152) (by decide +kernel), List.mem_of_getElem? (i := 706) (by decide +kernel), List.mem_of_getElem? (i := 707) (by decide +kernel)⟩
theorem lw_p11 : lw_okq (⟨"NeverSaid$Reader", "readName", "()V"⟩, 11) := ⟨⟨by decide +kernel, by decide +kernel⟩, List.mem_of_getElem? (i := 152) (by decide +kernel), List.mem_of_getElem? (i := 710) (by decide +kernel), List.mem_of_getElem? (i := 711) (by decide +kernel)⟩
theorem lw_p12 : lw_okq (⟨"NeverSaid$Reader", "sign", "()I"⟩, 11) := ⟨⟨by decide +kernel, by decide +kernel⟩, List.mem_of_getElem? (i := 152) (by decide +kernel), List.mem_of_getElem? (i := 716) (by decide +kernel), List.mem_of_getElem? (i := 717) (by decide +kernel)⟩
theorem lw_p13 : lw_okq (⟨"NeverSaid$Reader", "readClose", "()V"⟩, 11) := ⟨⟨by decide +kernel, by decide +kernel⟩, List.mem_of_getElem? (i := 152) (by decide +kernel), List.mem_of_getElem? (i := 720) (by decide +kernel), List.mem_of_getElem? (i := 721) (by decide +kernel)⟩
theorem lw_p14 : lw_okq (⟨"NeverSaid$Reader", "usedCode", "()[I"⟩, 11) := ⟨⟨by decide +kernel, by decide +kernel⟩, List.mem_of_getElem? (i := 152) (by decide +kernel), List.mem_of_getElem? (i := 729) (by decide +kernel), List.mem_of_getElem? (i := 730) (by decide +kernel)⟩
theorem lw_p15 : lw_okq (⟨"NeverSaid", "rightOf", "(IIII)I"⟩, 10) := ⟨⟨by decide +kernel, by decide +kernel⟩, List.mem_of_getElem? (i := 19) (by decide +kernel), List.mem_of_getElem? (i := 860) (by decide +kernel), List.mem_of_getElem? (i := 861) (by decide +kernel)⟩
def lw_privs_1 : List (MethodName × Nat) := [(⟨"NeverSaid$Reader", "splitTape", "()V"⟩, 11), (⟨"NeverSaid$Reader", "addWord", "(II)V"⟩, 11), (⟨"NeverSaid$Reader", "readKey", "()V"⟩, 11), (⟨"NeverSaid$Reader", "isWord", "(Ljava/lang/String;)Z"⟩, 11), (⟨"NeverSaid$Reader", "fail", "()V"⟩, 11), (⟨"NeverSaid$Reader", "goOn", "()V"⟩, 11), (⟨"NeverSaid$Reader", "readSide", "(III)V"⟩, 11), (⟨"NeverSaid$Reader", "readPiece", "(II)V"⟩, 11), (⟨"NeverSaid$Reader", "readNumber", "()V"⟩, 11), (⟨"NeverSaid$Reader", "addPiece", "(I)V"⟩, 11), (⟨"NeverSaid$Reader", "addStep", "(I)V"⟩, 11), (⟨"NeverSaid$Reader", "readName", "()V"⟩, 11), (⟨"NeverSaid$Reader", "sign", "()I"⟩, 11), (⟨"NeverSaid$Reader", "readClose", "()V"⟩, 11), (⟨"NeverSaid$Reader", "usedCode", "()[I"⟩, 11), (⟨"NeverSaid", "rightOf", "(IIII)I"⟩, 10)]
theorem lw_r1 : ∀ q ∈ lw_privs_1, lw_okq q := List.forall_mem_cons.mpr ⟨lw_p0, List.forall_mem_cons.mpr ⟨lw_p1, List.forall_mem_cons.mpr ⟨lw_p2, List.forall_mem_cons.mpr ⟨lw_p3, List.forall_mem_cons.mpr ⟨lw_p4, List.forall_mem_cons.mpr ⟨lw_p5, List.forall_mem_cons.mpr ⟨lw_p6, List.forall_mem_cons.mpr ⟨lw_p7, List.forall_mem_cons.mpr ⟨lw_p8, List.forall_mem_cons.mpr ⟨lw_p9, List.forall_mem_cons.mpr ⟨lw_p10, List.forall_mem_cons.mpr ⟨lw_p11, List.forall_mem_cons.mpr ⟨lw_p12, List.forall_mem_cons.mpr ⟨lw_p13, List.forall_mem_cons.mpr ⟨lw_p14, List.forall_mem_cons.mpr ⟨lw_p15, fun _ h => absurd h List.not_mem_nil⟩⟩⟩⟩⟩⟩⟩⟩⟩⟩⟩⟩⟩⟩⟩⟩
theorem lw_p16 : lw_okq (⟨"NeverSaidModel", "comes", "(III)V"⟩, 31) := ⟨⟨by decide +kernel, by decide +kernel⟩, List.mem_of_getElem? (i := 884) (by decide +kernel), List.mem_of_getElem? (i := 995) (by decide +kernel), List.mem_of_getElem? (i := 996) (by decide +kernel)⟩
theorem lw_p17 : lw_okq (⟨"NeverSaidModel", "isPerson", "(I)Z"⟩, 31) := ⟨⟨by decide +kernel, by decide +kernel⟩, List.mem_of_getElem? (i := 884) (by decide +kernel), List.mem_of_getElem? (i := 1003) (by decide +kernel), List.mem_of_getElem? (i := 1004) (by decide +kernel)⟩
theorem lw_p18 : lw_okq (⟨"NeverSaidModel", "of", "(II)I"⟩, 31) := ⟨⟨by decide +kernel, by decide +kernel⟩, List.mem_of_getElem? (i := 884) (by decide +kernel), List.mem_of_getElem? (i := 1007) (by decide +kernel), List.mem_of_getElem? (i := 1008) (by decide +kernel)⟩
theorem lw_p19 : lw_okq (⟨"NeverSaidModel", "followers", "(I)I"⟩, 31) := ⟨⟨by decide +kernel, by decide +kernel⟩, List.mem_of_getElem? (i := 884) (by decide +kernel), List.mem_of_getElem? (i := 1011) (by decide +kernel), List.mem_of_getElem? (i := 1012) (by decide +kernel)⟩
theorem lw_p20 : lw_okq (⟨"NeverSaidModel", "goneOn", "(I)I"⟩, 31) := ⟨⟨by decide +kernel, by decide +kernel⟩, List.mem_of_getElem? (i := 884) (by decide +kernel), List.mem_of_getElem? (i := 1018) (by decide +kernel), List.mem_of_getElem? (i := 1019) (by decide +kernel)⟩
theorem lw_p21 : lw_okq (⟨"NeverSaidModel", "dee", "(II)I"⟩, 31) := ⟨⟨by decide +kernel, by decide +kernel⟩, List.mem_of_getElem? (i := 884) (by decide +kernel), List.mem_of_getElem? (i := 1022) (by decide +kernel), List.mem_of_getElem? (i := 1023) (by decide +kernel)⟩
theorem lw_p22 : lw_okq (⟨"NeverSaidModel", "becomes", "(II)I"⟩, 31) := ⟨⟨by decide +kernel, by decide +kernel⟩, List.mem_of_getElem? (i := 884) (by decide +kernel), List.mem_of_getElem? (i := 1038) (by decide +kernel), List.mem_of_getElem? (i := 1039) (by decide +kernel)⟩
theorem lw_p23 : lw_okq (⟨"NeverSaidModel", "bitBecomes", "(III)I"⟩, 31) := ⟨⟨by decide +kernel, by decide +kernel⟩, List.mem_of_getElem? (i := 884) (by decide +kernel), List.mem_of_getElem? (i := 1051) (by decide +kernel), List.mem_of_getElem? (i := 1052) (by decide +kernel)⟩
theorem lw_p24 : lw_okq (⟨"NeverSaidModel", "areTwo", "(III)Z"⟩, 31) := ⟨⟨by decide +kernel, by decide +kernel⟩, List.mem_of_getElem? (i := 884) (by decide +kernel), List.mem_of_getElem? (i := 1059) (by decide +kernel), List.mem_of_getElem? (i := 1060) (by decide +kernel)⟩
theorem lw_p25 : lw_okq (⟨"NeverSaidModel", "drawn", "()I"⟩, 31) := ⟨⟨by decide +kernel, by decide +kernel⟩, List.mem_of_getElem? (i := 884) (by decide +kernel), List.mem_of_getElem? (i := 1072) (by decide +kernel), List.mem_of_getElem? (i := 1073) (by decide +kernel)⟩
theorem lw_p26 : lw_okq (⟨"NeverSaidModel", "everybody", "()I"⟩, 31) := ⟨⟨by decide +kernel, by decide +kernel⟩, List.mem_of_getElem? (i := 884) (by decide +kernel), List.mem_of_getElem? (i := 1085) (by decide +kernel), List.mem_of_getElem? (i := 1086) (by decide +kernel)⟩
theorem lw_p27 : lw_okq (⟨"NeverSaidModel", "isDeed", "(I)Z"⟩, 31) := ⟨⟨by decide +kernel, by decide +kernel⟩, List.mem_of_getElem? (i := 884) (by decide +kernel), List.mem_of_getElem? (i := 1097) (by decide +kernel), List.mem_of_getElem? (i := 1098) (by decide +kernel)⟩
theorem lw_p28 : lw_okq (⟨"NeverSaidModel", "left", "(I)I"⟩, 31) := ⟨⟨by decide +kernel, by decide +kernel⟩, List.mem_of_getElem? (i := 884) (by decide +kernel), List.mem_of_getElem? (i := 1101) (by decide +kernel), List.mem_of_getElem? (i := 1102) (by decide +kernel)⟩
theorem lw_p29 : lw_okq (⟨"NeverSaidModel", "cost", "(I)I"⟩, 31) := ⟨⟨by decide +kernel, by decide +kernel⟩, List.mem_of_getElem? (i := 884) (by decide +kernel), List.mem_of_getElem? (i := 1105) (by decide +kernel), List.mem_of_getElem? (i := 1106) (by decide +kernel)⟩
theorem lw_p30 : lw_okq (⟨"NeverSaidModel", "counts", "(I)I"⟩, 31) := ⟨⟨by decide +kernel, by decide +kernel⟩, List.mem_of_getElem? (i := 884) (by decide +kernel), List.mem_of_getElem? (i := 1109) (by decide +kernel), List.mem_of_getElem? (i := 1110) (by decide +kernel)⟩
theorem lw_p31 : lw_okq (⟨"NeverSaidModel", "textAt", "(I)I"⟩, 31) := ⟨⟨by decide +kernel, by decide +kernel⟩, List.mem_of_getElem? (i := 884) (by decide +kernel), List.mem_of_getElem? (i := 1113) (by decide +kernel), List.mem_of_getElem? (i := 1114) (by decide +kernel)⟩
def lw_privs_2 : List (MethodName × Nat) := [(⟨"NeverSaidModel", "comes", "(III)V"⟩, 31), (⟨"NeverSaidModel", "isPerson", "(I)Z"⟩, 31), (⟨"NeverSaidModel", "of", "(II)I"⟩, 31), (⟨"NeverSaidModel", "followers", "(I)I"⟩, 31), (⟨"NeverSaidModel", "goneOn", "(I)I"⟩, 31), (⟨"NeverSaidModel", "dee", "(II)I"⟩, 31), (⟨"NeverSaidModel", "becomes", "(II)I"⟩, 31), (⟨"NeverSaidModel", "bitBecomes", "(III)I"⟩, 31), (⟨"NeverSaidModel", "areTwo", "(III)Z"⟩, 31), (⟨"NeverSaidModel", "drawn", "()I"⟩, 31), (⟨"NeverSaidModel", "everybody", "()I"⟩, 31), (⟨"NeverSaidModel", "isDeed", "(I)Z"⟩, 31), (⟨"NeverSaidModel", "left", "(I)I"⟩, 31), (⟨"NeverSaidModel", "cost", "(I)I"⟩, 31), (⟨"NeverSaidModel", "counts", "(I)I"⟩, 31), (⟨"NeverSaidModel", "textAt", "(I)I"⟩, 31)]
theorem lw_r2 : ∀ q ∈ lw_privs_2, lw_okq q := List.forall_mem_cons.mpr ⟨lw_p16, List.forall_mem_cons.mpr ⟨lw_p17, List.forall_mem_cons.mpr ⟨lw_p18, List.forall_mem_cons.mpr ⟨lw_p19, List.forall_mem_cons.mpr ⟨lw_p20, List.forall_mem_cons.mpr ⟨lw_p21, List.forall_mem_cons.mpr ⟨lw_p22, List.forall_mem_cons.mpr ⟨lw_p23, List.forall_mem_cons.mpr ⟨lw_p24, List.forall_mem_cons.mpr ⟨lw_p25, List.forall_mem_cons.mpr ⟨lw_p26, List.forall_mem_cons.mpr ⟨lw_p27, List.forall_mem_cons.mpr ⟨lw_p28, List.forall_mem_cons.mpr ⟨lw_p29, List.forall_mem_cons.mpr ⟨lw_p30, List.forall_mem_cons.mpr ⟨lw_p31, fun _ h => absurd h List.not_mem_nil⟩⟩⟩⟩⟩⟩⟩⟩⟩⟩⟩⟩⟩⟩⟩⟩
theorem lw_p32 : lw_okq (⟨"NeverSaidModel", "worked", "(I)I"⟩, 31) := ⟨⟨by decide +kernel, by decide +kernel⟩, List.mem_of_getElem? (i := 884) (by decide +kernel), List.mem_of_getElem? (i := 1117) (by decide +kernel), List.mem_of_getElem? (i := 1118) (by decide +kernel)⟩
theorem lw_p33 : lw_okq (⟨"NeverSaidModel", "mayBe", "(III)Z"⟩, 31) := ⟨⟨by decide +kernel, by decide +kernel⟩, List.mem_of_getElem? (i := 884) (by decide +kernel), List.mem_of_getElem? (i := 1141) (by decide +kernel), List.mem_of_getElem? (i := 1142) (by decide +kernel)⟩
theorem lw_p34 : lw_okq (⟨"NeverSaidModel", "goBy", "(I)I"⟩, 31) := ⟨⟨by decide +kernel, by decide +kernel⟩, List.mem_of_getElem? (i := 884) (by decide +kernel), List.mem_of_getElem? (i := 1145) (by decide +kernel), List.mem_of_getElem? (i := 1146) (by decide +kernel)⟩
theorem lw_p35 : lw_okq (⟨"NeverSaidModel", "says", "(II)V"⟩, 31) := ⟨⟨by decide +kernel, by decide +kernel⟩, List.mem_of_getElem? (i := 884) (by decide +kernel), List.mem_of_getElem? (i := 1150) (by decide +kernel), List.mem_of_getElem? (i := 1151) (by decide +kernel)⟩
theorem lw_p36 : lw_okq (⟨"NeverSaidModel", "choiceOf", "(II)I"⟩, 31) := ⟨⟨by decide +kernel, by decide +kernel⟩, List.mem_of_getElem? (i := 884) (by decide +kernel), List.mem_of_getElem? (i := 1158) (by decide +kernel), List.mem_of_getElem? (i := 1159) (by decide +kernel)⟩
theorem lw_p37 : lw_okq (⟨"NeverSaidModel", "rounded", "(I)I"⟩, 31) := ⟨⟨by decide +kernel, by decide +kernel⟩, List.mem_of_getElem? (i := 884) (by decide +kernel), List.mem_of_getElem? (i := 1177) (by decide +kernel), List.mem_of_getElem? (i := 1178) (by decide +kernel)⟩
theorem lw_p38 : lw_okq (⟨"NeverSaidModel", "boldness", "(II)I"⟩, 31) := ⟨⟨by decide +kernel, by decide +kernel⟩, List.mem_of_getElem? (i := 884) (by decide +kernel), List.mem_of_getElem? (i := 1181) (by decide +kernel), List.mem_of_getElem? (i := 1182) (by decide +kernel)⟩
theorem lw_p39 : lw_okq (⟨"NeverSaidModel", "fallsOn", "(I)I"⟩, 31) := ⟨⟨by decide +kernel, by decide +kernel⟩, List.mem_of_getElem? (i := 884) (by decide +kernel), List.mem_of_getElem? (i := 1206) (by decide +kernel), List.mem_of_getElem? (i := 1207) (by decide +kernel)⟩
theorem lw_p40 : lw_okq (⟨"NeverSaidModel", "parse", "()I"⟩, 31) := ⟨⟨by decide +kernel, by decide +kernel⟩, List.mem_of_getElem? (i := 884) (by decide +kernel), List.mem_of_getElem? (i := 1226) (by decide +kernel), List.mem_of_getElem? (i := 1227) (by decide +kernel)⟩
theorem lw_p41 : lw_okq (⟨"NeverSaidModel", "nextToken", "()V"⟩, 31) := ⟨⟨by decide +kernel, by decide +kernel⟩, List.mem_of_getElem? (i := 884) (by decide +kernel), List.mem_of_getElem? (i := 1230) (by decide +kernel), List.mem_of_getElem? (i := 1231) (by decide +kernel)⟩
theorem lw_p42 : lw_okq (⟨"NeverSaidModel", "isLetter", "(I)Z"⟩, 31) := ⟨⟨by decide +kernel, by decide +kernel⟩, List.mem_of_getElem? (i := 884) (by decide +kernel), List.mem_of_getElem? (i := 1234) (by decide +kernel), List.mem_of_getElem? (i := 1235) (by decide +kernel)⟩
theorem lw_p43 : lw_okq (⟨"NeverSaidModel", "isDigit", "(I)Z"⟩, 31) := ⟨⟨by decide +kernel, by decide +kernel⟩, List.mem_of_getElem? (i := 884) (by decide +kernel), List.mem_of_getElem? (i := 1240) (by decide +kernel), List.mem_of_getElem? (i := 1241) (by decide +kernel)⟩
theorem lw_p44 : lw_okq (⟨"NeverSaidModel", "key", "()I"⟩, 31) := ⟨⟨by decide +kernel, by decide +kernel⟩, List.mem_of_getElem? (i := 884) (by decide +kernel), List.mem_of_getElem? (i := 1246) (by decide +kernel), List.mem_of_getElem? (i := 1247) (by decide +kernel)⟩
theorem lw_p45 : lw_okq (⟨"NeverSaidModel", "isWordAt", "(IIII)Z"⟩, 31) := ⟨⟨by decide +kernel, by decide +kernel⟩, List.mem_of_getElem? (i := 884) (by decide +kernel), List.mem_of_getElem? (i := 1250) (by decide +kernel), List.mem_of_getElem? (i := 1251) (by decide +kernel)⟩
theorem lw_p46 : lw_okq (⟨"NeverSaidModel", "either", "(I)Z"⟩, 31) := ⟨⟨by decide +kernel, by decide +kernel⟩, List.mem_of_getElem? (i := 884) (by decide +kernel), List.mem_of_getElem? (i := 1254) (by decide +kernel), List.mem_of_getElem? (i := 1255) (by decide +kernel)⟩
theorem lw_p47 : lw_okq (⟨"NeverSaidModel", "both", "(I)Z"⟩, 31) := ⟨⟨by decide +kernel, by decide +kernel⟩, List.mem_of_getElem? (i := 884) (by decide +kernel), List.mem_of_getElem? (i := 1258) (by decide +kernel), List.mem_of_getElem? (i := 1259) (by decide +kernel)⟩
def lw_privs_3 : List (MethodName × Nat) := [(⟨"NeverSaidModel", "worked", "(I)I"⟩, 31), (⟨"NeverSaidModel", "mayBe", "(III)Z"⟩, 31), (⟨"NeverSaidModel", "goBy", "(I)I"⟩, 31), (⟨"NeverSaidModel", "says", "(II)V"⟩, 31), (⟨"NeverSaidModel", "choiceOf", "(II)I"⟩, 31), (⟨"NeverSaidModel", "rounded", "(I)I"⟩, 31), (⟨"NeverSaidModel", "boldness", "(II)I"⟩, 31), (⟨"NeverSaidModel", "fallsOn", "(I)I"⟩, 31), (⟨"NeverSaidModel", "parse", "()I"⟩, 31), (⟨"NeverSaidModel", "nextToken", "()V"⟩, 31), (⟨"NeverSaidModel", "isLetter", "(I)Z"⟩, 31), (⟨"NeverSaidModel", "isDigit", "(I)Z"⟩, 31), (⟨"NeverSaidModel", "key", "()I"⟩, 31), (⟨"NeverSaidModel", "isWordAt", "(IIII)Z"⟩, 31), (⟨"NeverSaidModel", "either", "(I)Z"⟩, 31), (⟨"NeverSaidModel", "both", "(I)Z"⟩, 31)]
theorem lw_r3 : ∀ q ∈ lw_privs_3, lw_okq q := List.forall_mem_cons.mpr ⟨lw_p32, List.forall_mem_cons.mpr ⟨lw_p33, List.forall_mem_cons.mpr ⟨lw_p34, List.forall_mem_cons.mpr ⟨lw_p35, List.forall_mem_cons.mpr ⟨lw_p36, List.forall_mem_cons.mpr ⟨lw_p37, List.forall_mem_cons.mpr ⟨lw_p38, List.forall_mem_cons.mpr ⟨lw_p39, List.forall_mem_cons.mpr ⟨lw_p40, List.forall_mem_cons.mpr ⟨lw_p41, List.forall_mem_cons.mpr ⟨lw_p42, List.forall_mem_cons.mpr ⟨lw_p43, List.forall_mem_cons.mpr ⟨lw_p44, List.forall_mem_cons.mpr ⟨lw_p45, List.forall_mem_cons.mpr ⟨lw_p46, List.forall_mem_cons.mpr ⟨lw_p47, fun _ h => absurd h List.not_mem_nil⟩⟩⟩⟩⟩⟩⟩⟩⟩⟩⟩⟩⟩⟩⟩⟩
theorem lw_p48 : lw_okq (⟨"NeverSaidModel", "test", "(I)Z"⟩, 31) := ⟨⟨by decide +kernel, by decide +kernel⟩, List.mem_of_getElem? (i := 884) (by decide +kernel), List.mem_of_getElem? (i := 1262) (by decide +kernel), List.mem_of_getElem? (i := 1263) (by decide +kernel)⟩
theorem lw_p49 : lw_okq (⟨"NeverSaidModel", "sum", "(I)Z"⟩, 31) := ⟨⟨by decide +kernel, by decide +kernel⟩, List.mem_of_getElem? (i := 884) (by decide +kernel), List.mem_of_getElem? (i := 1266) (by decide +kernel), List.mem_of_getElem? (i := 1267) (by decide +kernel)⟩
theorem lw_p50 : lw_okq (⟨"NeverSaidModel", "term", "(I)Z"⟩, 31) := ⟨⟨by decide +kernel, by decide +kernel⟩, List.mem_of_getElem? (i := 884) (by decide +kernel), List.mem_of_getElem? (i := 1270) (by decide +kernel), List.mem_of_getElem? (i := 1271) (by decide +kernel)⟩
theorem lw_p51 : lw_okq (⟨"NeverSaidModel", "part0", "(I)Z"⟩, 31) := ⟨⟨by decide +kernel, by decide +kernel⟩, List.mem_of_getElem? (i := 884) (by decide +kernel), List.mem_of_getElem? (i := 1274) (by decide +kernel), List.mem_of_getElem? (i := 1275) (by decide +kernel)⟩
theorem lw_p52 : lw_okq (⟨"NeverSaidModel", "step", "(II)V"⟩, 31) := ⟨⟨by decide +kernel, by decide +kernel⟩, List.mem_of_getElem? (i := 884) (by decide +kernel), List.mem_of_getElem? (i := 1278) (by decide +kernel), List.mem_of_getElem? (i := 1279) (by decide +kernel)⟩
theorem lw_p53 : lw_okq (⟨"NeverSaidModel", "isSign", "(I)Z"⟩, 31) := ⟨⟨by decide +kernel, by decide +kernel⟩, List.mem_of_getElem? (i := 884) (by decide +kernel), List.mem_of_getElem? (i := 1285) (by decide +kernel), List.mem_of_getElem? (i := 1286) (by decide +kernel)⟩
theorem lw_p54 : lw_okq (⟨"NeverSaidModel", "isText", "(I)Z"⟩, 31) := ⟨⟨by decide +kernel, by decide +kernel⟩, List.mem_of_getElem? (i := 884) (by decide +kernel), List.mem_of_getElem? (i := 1293) (by decide +kernel), List.mem_of_getElem? (i := 1294) (by decide +kernel)⟩
theorem lw_p55 : lw_okq (⟨"NeverSaidModel", "setAside", "([I[I)V"⟩, 31) := ⟨⟨by decide +kernel, by decide +kernel⟩, List.mem_of_getElem? (i := 884) (by decide +kernel), List.mem_of_getElem? (i := 1360) (by decide +kernel), List.mem_of_getElem? (i := 1361) (by decide +kernel)⟩
theorem lw_p56 : lw_okq (⟨"NeverSaidModel", "ofAll", "(I)I"⟩, 31) := ⟨⟨by decide +kernel, by decide +kernel⟩, List.mem_of_getElem? (i := 884) (by decide +kernel), List.mem_of_getElem? (i := 1376) (by decide +kernel), List.mem_of_getElem? (i := 1377) (by decide +kernel)⟩
def lw_privs_4 : List (MethodName × Nat) := [(⟨"NeverSaidModel", "test", "(I)Z"⟩, 31), (⟨"NeverSaidModel", "sum", "(I)Z"⟩, 31), (⟨"NeverSaidModel", "term", "(I)Z"⟩, 31), (⟨"NeverSaidModel", "part0", "(I)Z"⟩, 31), (⟨"NeverSaidModel", "step", "(II)V"⟩, 31), (⟨"NeverSaidModel", "isSign", "(I)Z"⟩, 31), (⟨"NeverSaidModel", "isText", "(I)Z"⟩, 31), (⟨"NeverSaidModel", "setAside", "([I[I)V"⟩, 31), (⟨"NeverSaidModel", "ofAll", "(I)I"⟩, 31)]
theorem lw_r4 : ∀ q ∈ lw_privs_4, lw_okq q := List.forall_mem_cons.mpr ⟨lw_p48, List.forall_mem_cons.mpr ⟨lw_p49, List.forall_mem_cons.mpr ⟨lw_p50, List.forall_mem_cons.mpr ⟨lw_p51, List.forall_mem_cons.mpr ⟨lw_p52, List.forall_mem_cons.mpr ⟨lw_p53, List.forall_mem_cons.mpr ⟨lw_p54, List.forall_mem_cons.mpr ⟨lw_p55, List.forall_mem_cons.mpr ⟨lw_p56, fun _ h => absurd h List.not_mem_nil⟩⟩⟩⟩⟩⟩⟩⟩⟩
def lw_privs : List (MethodName × Nat) := lw_privs_1 ++ (lw_privs_2 ++ (lw_privs_3 ++ (lw_privs_4)))
def lw_tbl : List Cond := k2_sels lw_privs ++ tables_1
theorem lw_privs_ok : ∀ q ∈ lw_privs, lw_okq q := by
  show ∀ q ∈ lw_privs_1 ++ (lw_privs_2 ++ (lw_privs_3 ++ (lw_privs_4))), lw_okq q
  exact List.forall_mem_append.mpr ⟨lw_r1, List.forall_mem_append.mpr ⟨lw_r2, List.forall_mem_append.mpr ⟨lw_r3, lw_r4⟩⟩⟩
-- ===== end of PART A; then your names; then what follows =====
/-! ===== BEGIN words of one list among another's, by their places ===== -/
theorem goodIn_r {big : List Cond} (ws : List Cond) (ps : List Nat) (hp : ws = ps.filterMap (fun i => big[i]?)) (h : ws.all goodWord = true) : GoodIn big ws := by
  intro w hw
  have h1 := List.all_eq_true.mp h w hw
  rw [hp] at hw
  obtain ⟨i, -, hi⟩ := List.mem_filterMap.mp hw
  have hm : w ∈ big := by first | exact List.mem_of_getElem? hi | exact List.getElem?_mem hi
  exact ⟨hm, good_of_word h1⟩
theorem goodIn_app {big a b : List Cond} (ha : GoodIn big a) (hb : GoodIn big b) : GoodIn big (a ++ b) := fun w h => (List.mem_append.mp h).elim (ha w) (hb w)
theorem goodIn_ca {big a b : List Cond} {c : Cond} (ha : GoodIn big (c :: a)) (hb : GoodIn big b) : GoodIn big (c :: (a ++ b)) := fun w h => (List.mem_cons.mp h).elim (fun e => ha w (List.mem_cons.mpr (Or.inl e))) (fun h => (List.mem_append.mp h).elim (fun h => ha w (List.mem_cons.mpr (Or.inr h))) (hb w))
theorem goodIn_sub {big ws : List Cond} (hm : ∀ w ∈ ws, w ∈ big) (h : ws.all goodWord = true) : GoodIn big ws := fun w hw => ⟨hm w hw, good_of_word (List.all_eq_true.mp h w hw)⟩
/-! ===== END ===== -/

/-! ===== BEGIN printed: names, fields, word lists, decode rows ===== -/
def RX0 : String := "NeverSaid$Deed"
def TX0 : u_T := fun k => match k with
  | 0 => ("NeverSaid$Deed", "doers", "I", false)
  | 1 => ("NeverSaid$Deed", "hour", "I", false)
  | 2 => ("NeverSaid$Deed", "weight", "I", false)
  | 3 => ("NeverSaid$Deed", "gone", "I", false)
  | 4 => ("NeverSaid$Deed", "sayings", "I", false)
  | _ => ("NeverSaid$Deed", "lies", "I", false)
def tyX0 : Nat → FieldType := fun k => match k with
  | 0 => .int
  | 1 => .int
  | 2 => .int
  | 3 => .int
  | 4 => .int
  | _ => .int
abbrev wsX00 : List Cond := u_ws RX0 TX0 6
theorem nmX0 : ∀ a, a < 6 → ∀ b, b < 6 → a ≠ b → (TX0 a).2.1 ≠ (TX0 b).2.1 := by decide +kernel
theorem tyX0_ok : ∀ k, k < 6 → parseFieldDescriptor (TX0 k).2.2.1 = some (tyX0 k) := by decide +kernel
abbrev cX0_init : ByteArray := prog_2_method_1_code
def yX0_init : MethodName := ⟨RX0, "<init>", "()V"⟩
abbrev cX0_begin : ByteArray := prog_2_method_2_code
def yX0_begin : MethodName := ⟨RX0, "begin", "()V"⟩
abbrev cX0_become : ByteArray := prog_2_method_3_code
def yX0_become : MethodName := ⟨RX0, "become", "(LNeverSaid$Deed;)V"⟩
abbrev cX0_takeSaying : ByteArray := prog_2_method_4_code
def yX0_takeSaying : MethodName := ⟨RX0, "takeSaying", "(I)V"⟩
def RX1 : String := "NeverSaid$Hall"
def TX1 : u_T := fun k => match k with
  | 0 => ("NeverSaid$Hall", "people", "[LNeverSaid$Person;", true)
  | 1 => ("NeverSaid$Hall", "deeds", "[LNeverSaid$Deed;", true)
  | 2 => ("NeverSaid$Hall", "texts", "[LNeverSaid$Text;", true)
  | 3 => ("NeverSaid$Hall", "counting", "[I", true)
  | 4 => ("NeverSaid$Hall", "stack", "[I", true)
  | 5 => ("NeverSaid$Hall", "peopleCount", "I", false)
  | 6 => ("NeverSaid$Hall", "deedCount", "I", false)
  | 7 => ("NeverSaid$Hall", "textCount", "I", false)
  | 8 => ("NeverSaid$Hall", "leastLeft", "I", false)
  | _ => ("NeverSaid$Hall", "z", "I", false)
def tyX1 : Nat → FieldType := fun k => match k with
  | 0 => .array (.object "NeverSaid$Person")
  | 1 => .array (.object "NeverSaid$Deed")
  | 2 => .array (.object "NeverSaid$Text")
  | 3 => .array .int
  | 4 => .array .int
  | 5 => .int
  | 6 => .int
  | 7 => .int
  | 8 => .int
  | _ => .int
abbrev wsX10 : List Cond := u_ws RX1 TX1 10
theorem nmX1 : ∀ a, a < 10 → ∀ b, b < 10 → a ≠ b → (TX1 a).2.1 ≠ (TX1 b).2.1 := by decide +kernel
theorem tyX1_ok : ∀ k, k < 10 → parseFieldDescriptor (TX1 k).2.2.1 = some (tyX1 k) := by decide +kernel
abbrev cX1_init : ByteArray := prog_3_method_1_code
def yX1_init : MethodName := ⟨RX1, "<init>", "()V"⟩
abbrev cX1_become : ByteArray := prog_3_method_2_code
def yX1_become : MethodName := ⟨RX1, "become", "(LNeverSaid$Hall;)V"⟩
abbrev cX1_hasPerson : ByteArray := prog_3_method_3_code
def yX1_hasPerson : MethodName := ⟨RX1, "hasPerson", "(I)Z"⟩
abbrev cX1_hasTwo : ByteArray := prog_3_method_4_code
def yX1_hasTwo : MethodName := ⟨RX1, "hasTwo", "(II)Z"⟩
abbrev cX1_hasDeed : ByteArray := prog_3_method_5_code
def yX1_hasDeed : MethodName := ⟨RX1, "hasDeed", "(I)Z"⟩
abbrev cX1_canBeDoers : ByteArray := prog_3_method_6_code
def yX1_canBeDoers : MethodName := ⟨RX1, "canBeDoers", "(I)Z"⟩
abbrev cX1_everyone : ByteArray := prog_3_method_7_code
def yX1_everyone : MethodName := ⟨RX1, "everyone", "()I"⟩
abbrev cX1_addPerson : ByteArray := prog_3_method_8_code
def yX1_addPerson : MethodName := ⟨RX1, "addPerson", "(III)I"⟩
abbrev cX1_addDeed : ByteArray := prog_3_method_9_code
def yX1_addDeed : MethodName := ⟨RX1, "addDeed", "(III)I"⟩
abbrev cX1_addText : ByteArray := prog_3_method_10_code
def yX1_addText : MethodName := ⟨RX1, "addText", "(LNeverSaid$Text;)I"⟩
abbrev cX1_draw : ByteArray := prog_3_method_11_code
def yX1_draw : MethodName := ⟨RX1, "draw", "()I"⟩
abbrev cX1_drawPerson : ByteArray := prog_3_method_12_code
def yX1_drawPerson : MethodName := ⟨RX1, "drawPerson", "()V"⟩
abbrev cX1_workOutFollowers : ByteArray := prog_3_method_13_code
def yX1_workOutFollowers : MethodName := ⟨RX1, "workOutFollowers", "()V"⟩
abbrev cX1_goersBy : ByteArray := prog_3_method_14_code
def yX1_goersBy : MethodName := ⟨RX1, "goersBy", "(I)I"⟩
abbrev cX1_leftOn : ByteArray := prog_3_method_15_code
def yX1_leftOn : MethodName := ⟨RX1, "leftOn", "(LNeverSaid$Deed;)I"⟩
abbrev cX1_leftCount : ByteArray := prog_3_method_16_code
def yX1_leftCount : MethodName := ⟨RX1, "leftCount", "(LNeverSaid$Deed;)I"⟩
abbrev cX1_deedsWithout : ByteArray := prog_3_method_17_code
def yX1_deedsWithout : MethodName := ⟨RX1, "deedsWithout", "(I)I"⟩
abbrev cX1_sayingsOfAll : ByteArray := prog_3_method_18_code
def yX1_sayingsOfAll : MethodName := ⟨RX1, "sayingsOfAll", "()I"⟩
abbrev cX1_liesOfAll : ByteArray := prog_3_method_19_code
def yX1_liesOfAll : MethodName := ⟨RX1, "liesOfAll", "()I"⟩
abbrev cX1_lawOf : ByteArray := prog_3_method_20_code
def yX1_lawOf : MethodName := ⟨RX1, "lawOf", "(I)LNeverSaid$Text;"⟩
abbrev cX1_costOf : ByteArray := prog_3_method_21_code
def yX1_costOf : MethodName := ⟨RX1, "costOf", "(LNeverSaid$Deed;)I"⟩
abbrev cX1_boldOf : ByteArray := prog_3_method_22_code
def yX1_boldOf : MethodName := ⟨RX1, "boldOf", "(ILNeverSaid$Deed;)I"⟩
abbrev cX1_mayBe : ByteArray := prog_3_method_23_code
def yX1_mayBe : MethodName := ⟨RX1, "mayBe", "(ILNeverSaid$Deed;I)Z"⟩
abbrev cX1_allOfWhomItMayBe : ByteArray := prog_3_method_24_code
def yX1_allOfWhomItMayBe : MethodName := ⟨RX1, "allOfWhomItMayBe", "(ILNeverSaid$Deed;)I"⟩
abbrev cX1_allOfWhomItIsALie : ByteArray := prog_3_method_25_code
def yX1_allOfWhomItIsALie : MethodName := ⟨RX1, "allOfWhomItIsALie", "(LNeverSaid$Deed;)I"⟩
abbrev cX1_chosenBy : ByteArray := prog_3_method_26_code
def yX1_chosenBy : MethodName := ⟨RX1, "chosenBy", "(ILNeverSaid$Deed;)I"⟩
abbrev cX1_firstOf : ByteArray := prog_3_method_27_code
def yX1_firstOf : MethodName := ⟨RX1, "firstOf", "(II)I"⟩
abbrev cX1_playRound : ByteArray := prog_3_method_28_code
def yX1_playRound : MethodName := ⟨RX1, "playRound", "(LNeverSaid$Deed;)V"⟩
abbrev cX1_fewestFor : ByteArray := prog_3_method_29_code
def yX1_fewestFor : MethodName := ⟨RX1, "fewestFor", "(LNeverSaid$Deed;)I"⟩
abbrev cX1_isFirstToBeNamed : ByteArray := prog_3_method_30_code
def yX1_isFirstToBeNamed : MethodName := ⟨RX1, "isFirstToBeNamed", "(II)Z"⟩
abbrev cX1_shareOf : ByteArray := prog_3_method_31_code
def yX1_shareOf : MethodName := ⟨RX1, "shareOf", "(I)I"⟩
def RX2 : String := "NeverSaid$Person"
def TX2 : u_T := fun k => match k with
  | 0 => ("NeverSaid$Person", "kind", "I", false)
  | 1 => ("NeverSaid$Person", "bold", "I", false)
  | 2 => ("NeverSaid$Person", "hoursAway", "I", false)
  | 3 => ("NeverSaid$Person", "friends", "I", false)
  | 4 => ("NeverSaid$Person", "toldFollowers", "I", false)
  | _ => ("NeverSaid$Person", "followers", "I", false)
def tyX2 : Nat → FieldType := fun k => match k with
  | 0 => .int
  | 1 => .int
  | 2 => .int
  | 3 => .int
  | 4 => .int
  | _ => .int
abbrev wsX20 : List Cond := u_ws RX2 TX2 6
theorem nmX2 : ∀ a, a < 6 → ∀ b, b < 6 → a ≠ b → (TX2 a).2.1 ≠ (TX2 b).2.1 := by decide +kernel
theorem tyX2_ok : ∀ k, k < 6 → parseFieldDescriptor (TX2 k).2.2.1 = some (tyX2 k) := by decide +kernel
abbrev cX2_init : ByteArray := prog_4_method_1_code
def yX2_init : MethodName := ⟨RX2, "<init>", "()V"⟩
abbrev cX2_begin : ByteArray := prog_4_method_2_code
def yX2_begin : MethodName := ⟨RX2, "begin", "(III)V"⟩
abbrev cX2_become : ByteArray := prog_4_method_3_code
def yX2_become : MethodName := ⟨RX2, "become", "(LNeverSaid$Person;)V"⟩
abbrev cX2_isOf : ByteArray := prog_4_method_4_code
def yX2_isOf : MethodName := ⟨RX2, "isOf", "(I)Z"⟩
abbrev cX2_worth : ByteArray := prog_4_method_5_code
def yX2_worth : MethodName := ⟨RX2, "worth", "()I"⟩
def RX3 : String := "NeverSaid$Reader"
def TX3 : u_T := fun k => match k with
  | 0 => ("NeverSaid$Reader", "tape", "LNeverSaid$Tape;", true)
  | 1 => ("NeverSaid$Reader", "sorts", "[I", true)
  | 2 => ("NeverSaid$Reader", "starts", "[I", true)
  | 3 => ("NeverSaid$Reader", "lengths", "[I", true)
  | 4 => ("NeverSaid$Reader", "code", "[I", true)
  | 5 => ("NeverSaid$Reader", "words", "I", false)
  | 6 => ("NeverSaid$Reader", "hand", "I", false)
  | 7 => ("NeverSaid$Reader", "steps", "I", false)
  | 8 => ("NeverSaid$Reader", "pieces", "I", false)
  | 9 => ("NeverSaid$Reader", "key", "I", false)
  | _ => ("NeverSaid$Reader", "fault", "I", false)
def tyX3 : Nat → FieldType := fun k => match k with
  | 0 => .object "NeverSaid$Tape"
  | 1 => .array .int
  | 2 => .array .int
  | 3 => .array .int
  | 4 => .array .int
  | 5 => .int
  | 6 => .int
  | 7 => .int
  | 8 => .int
  | 9 => .int
  | _ => .int
abbrev wsX30 : List Cond := u_ws RX3 TX3 11
theorem nmX3 : ∀ a, a < 11 → ∀ b, b < 11 → a ≠ b → (TX3 a).2.1 ≠ (TX3 b).2.1 := by decide +kernel
theorem tyX3_ok : ∀ k, k < 11 → parseFieldDescriptor (TX3 k).2.2.1 = some (tyX3 k) := by decide +kernel
abbrev cX3_init : ByteArray := prog_5_method_1_code
def yX3_init : MethodName := ⟨RX3, "<init>", "()V"⟩
abbrev cX3_readTape : ByteArray := prog_5_method_2_code
def yX3_readTape : MethodName := ⟨RX3, "readTape", "()LNeverSaid$Text;"⟩
abbrev cX3_usedCode : ByteArray := prog_5_method_3_code
def yX3_usedCode : MethodName := ⟨RX3, "usedCode", "()[I"⟩
abbrev cX3_splitTape : ByteArray := prog_5_method_4_code
def yX3_splitTape : MethodName := ⟨RX3, "splitTape", "()V"⟩
abbrev cX3_addWord : ByteArray := prog_5_method_5_code
def yX3_addWord : MethodName := ⟨RX3, "addWord", "(II)V"⟩
abbrev cX3_sortOf : ByteArray := prog_5_method_6_code
def yX3_sortOf : MethodName := ⟨RX3, "sortOf", "(I)I"⟩
abbrev cX3_fail : ByteArray := prog_5_method_7_code
def yX3_fail : MethodName := ⟨RX3, "fail", "()V"⟩
abbrev cX3_goOn : ByteArray := prog_5_method_8_code
def yX3_goOn : MethodName := ⟨RX3, "goOn", "()V"⟩
abbrev cX3_sign : ByteArray := prog_5_method_9_code
def yX3_sign : MethodName := ⟨RX3, "sign", "()I"⟩
abbrev cX3_readKey : ByteArray := prog_5_method_10_code
def yX3_readKey : MethodName := ⟨RX3, "readKey", "()V"⟩
abbrev cX3_isWord : ByteArray := prog_5_method_11_code
def yX3_isWord : MethodName := ⟨RX3, "isWord", "(Ljava/lang/String;)Z"⟩
abbrev cX3_readSide : ByteArray := prog_5_method_12_code
def yX3_readSide : MethodName := ⟨RX3, "readSide", "(III)V"⟩
abbrev cX3_levelOf : ByteArray := prog_5_method_13_code
def yX3_levelOf : MethodName := ⟨RX3, "levelOf", "(I)I"⟩
abbrev cX3_readPiece : ByteArray := prog_5_method_14_code
def yX3_readPiece : MethodName := ⟨RX3, "readPiece", "(II)V"⟩
abbrev cX3_readClose : ByteArray := prog_5_method_15_code
def yX3_readClose : MethodName := ⟨RX3, "readClose", "()V"⟩
abbrev cX3_readNumber : ByteArray := prog_5_method_16_code
def yX3_readNumber : MethodName := ⟨RX3, "readNumber", "()V"⟩
abbrev cX3_readName : ByteArray := prog_5_method_17_code
def yX3_readName : MethodName := ⟨RX3, "readName", "()V"⟩
abbrev cX3_addPiece : ByteArray := prog_5_method_18_code
def yX3_addPiece : MethodName := ⟨RX3, "addPiece", "(I)V"⟩
abbrev cX3_addStep : ByteArray := prog_5_method_19_code
def yX3_addStep : MethodName := ⟨RX3, "addStep", "(I)V"⟩
def RX4 : String := "NeverSaid$Sheet"
def TX4 : u_T := fun k => match k with
  | 0 => ("NeverSaid$Sheet", "places", "[I", true)
  | 1 => ("NeverSaid$Sheet", "sort", "I", false)
  | _ => ("NeverSaid$Sheet", "length", "I", false)
def tyX4 : Nat → FieldType := fun k => match k with
  | 0 => .array .int
  | 1 => .int
  | _ => .int
abbrev wsX40 : List Cond := u_ws RX4 TX4 3
theorem nmX4 : ∀ a, a < 3 → ∀ b, b < 3 → a ≠ b → (TX4 a).2.1 ≠ (TX4 b).2.1 := by decide +kernel
theorem tyX4_ok : ∀ k, k < 3 → parseFieldDescriptor (TX4 k).2.2.1 = some (tyX4 k) := by decide +kernel
abbrev cX4_init : ByteArray := prog_6_method_1_code
def yX4_init : MethodName := ⟨RX4, "<init>", "()V"⟩
abbrev cX4_begin : ByteArray := prog_6_method_2_code
def yX4_begin : MethodName := ⟨RX4, "begin", "(II)V"⟩
abbrev cX4_become : ByteArray := prog_6_method_3_code
def yX4_become : MethodName := ⟨RX4, "become", "(LNeverSaid$Sheet;)V"⟩
abbrev cX4_hasPlace : ByteArray := prog_6_method_4_code
def yX4_hasPlace : MethodName := ⟨RX4, "hasPlace", "(I)Z"⟩
abbrev cX4_hasStretch : ByteArray := prog_6_method_5_code
def yX4_hasStretch : MethodName := ⟨RX4, "hasStretch", "(II)Z"⟩
def RX5 : String := "NeverSaid$Slot"
def TX5 : u_T := fun k => match k with
  | 0 => ("NeverSaid$Slot", "one", "LNeverSaid$Person;", true)
  | 1 => ("NeverSaid$Slot", "row", "LNeverSaid$Sheet;", true)
  | 2 => ("NeverSaid$Slot", "number", "I", false)
  | _ => ("NeverSaid$Slot", "thing", "I", false)
def tyX5 : Nat → FieldType := fun k => match k with
  | 0 => .object "NeverSaid$Person"
  | 1 => .object "NeverSaid$Sheet"
  | 2 => .int
  | _ => .int
abbrev wsX50 : List Cond := u_ws RX5 TX5 4
theorem nmX5 : ∀ a, a < 4 → ∀ b, b < 4 → a ≠ b → (TX5 a).2.1 ≠ (TX5 b).2.1 := by decide +kernel
theorem tyX5_ok : ∀ k, k < 4 → parseFieldDescriptor (TX5 k).2.2.1 = some (tyX5 k) := by decide +kernel
abbrev cX5_init : ByteArray := prog_7_method_1_code
def yX5_init : MethodName := ⟨RX5, "<init>", "()V"⟩
abbrev cX5_findingFor : ByteArray := prog_7_method_2_code
def yX5_findingFor : MethodName := ⟨RX5, "findingFor", "(I)I"⟩
def RX6 : String := "NeverSaid$Tape"
def TX6 : u_T := fun k => match k with
  | 0 => ("NeverSaid$Tape", "bytes", "[B", true)
  | _ => ("NeverSaid$Tape", "length", "I", false)
def tyX6 : Nat → FieldType := fun k => match k with
  | 0 => .array .byte
  | _ => .int
abbrev wsX60 : List Cond := u_ws RX6 TX6 2
theorem nmX6 : ∀ a, a < 2 → ∀ b, b < 2 → a ≠ b → (TX6 a).2.1 ≠ (TX6 b).2.1 := by decide +kernel
theorem tyX6_ok : ∀ k, k < 2 → parseFieldDescriptor (TX6 k).2.2.1 = some (tyX6 k) := by decide +kernel
abbrev cX6_init : ByteArray := prog_8_method_1_code
def yX6_init : MethodName := ⟨RX6, "<init>", "()V"⟩
abbrev cX6_add : ByteArray := prog_8_method_2_code
def yX6_add : MethodName := ⟨RX6, "add", "(I)V"⟩
abbrev cX6_at : ByteArray := prog_8_method_3_code
def yX6_at : MethodName := ⟨RX6, "at", "(I)I"⟩
def RX7 : String := "NeverSaid$Text"
def TX7 : u_T := fun k => match k with
  | 0 => ("NeverSaid$Text", "key", "I", true)
  | 1 => ("NeverSaid$Text", "pieces", "I", true)
  | _ => ("NeverSaid$Text", "code", "[I", true)
def tyX7 : Nat → FieldType := fun k => match k with
  | 0 => .int
  | 1 => .int
  | _ => .array .int
abbrev wsX70 : List Cond := u_ws RX7 TX7 3
theorem nmX7 : ∀ a, a < 3 → ∀ b, b < 3 → a ≠ b → (TX7 a).2.1 ≠ (TX7 b).2.1 := by decide +kernel
theorem tyX7_ok : ∀ k, k < 3 → parseFieldDescriptor (TX7 k).2.2.1 = some (tyX7 k) := by decide +kernel
abbrev cX7_init : ByteArray := prog_9_method_1_code
def yX7_init : MethodName := ⟨RX7, "<init>", "(II[I)V"⟩
abbrev cX7_valueOf : ByteArray := prog_9_method_2_code
def yX7_valueOf : MethodName := ⟨RX7, "valueOf", "([IIII)I"⟩
abbrev cX7_joined : ByteArray := prog_9_method_3_code
def yX7_joined : MethodName := ⟨RX7, "joined", "(III)I"⟩
def RX8 : String := "NeverSaid"
def TX8 : u_T := fun k => match k with
  | 0 => ("NeverSaid", "hall", "LNeverSaid$Hall;", true)
  | 1 => ("NeverSaid", "image", "LNeverSaid$Hall;", true)
  | 2 => ("NeverSaid", "trial", "LNeverSaid$Hall;", true)
  | 3 => ("NeverSaid", "reader", "LNeverSaid$Reader;", true)
  | 4 => ("NeverSaid", "tape", "LNeverSaid$Tape;", true)
  | 5 => ("NeverSaid", "sheets", "[LNeverSaid$Sheet;", true)
  | 6 => ("NeverSaid", "slots", "[LNeverSaid$Slot;", true)
  | 7 => ("NeverSaid", "waiting", "[I", true)
  | 8 => ("NeverSaid", "waitingCount", "I", false)
  | _ => ("NeverSaid", "imageKept", "Z", false)
def tyX8 : Nat → FieldType := fun k => match k with
  | 0 => .object "NeverSaid$Hall"
  | 1 => .object "NeverSaid$Hall"
  | 2 => .object "NeverSaid$Hall"
  | 3 => .object "NeverSaid$Reader"
  | 4 => .object "NeverSaid$Tape"
  | 5 => .array (.object "NeverSaid$Sheet")
  | 6 => .array (.object "NeverSaid$Slot")
  | 7 => .array .int
  | 8 => .int
  | _ => .boolean
abbrev wsX80 : List Cond := u_ws RX8 TX8 10
theorem nmX8 : ∀ a, a < 10 → ∀ b, b < 10 → a ≠ b → (TX8 a).2.1 ≠ (TX8 b).2.1 := by decide +kernel
theorem tyX8_ok : ∀ k, k < 10 → parseFieldDescriptor (TX8 k).2.2.1 = some (tyX8 k) := by decide +kernel
abbrev cX8_init : ByteArray := prog_1_method_1_code
def yX8_init : MethodName := ⟨RX8, "<init>", "()V"⟩
abbrev cX8_person : ByteArray := prog_1_method_2_code
def yX8_person : MethodName := ⟨RX8, "person", "(II)I"⟩
abbrev cX8_told : ByteArray := prog_1_method_3_code
def yX8_told : MethodName := ⟨RX8, "told", "(II)I"⟩
abbrev cX8_as : ByteArray := prog_1_method_4_code
def yX8_as : MethodName := ⟨RX8, "as", "(II)I"⟩
abbrev cX8_turns : ByteArray := prog_1_method_5_code
def yX8_turns : MethodName := ⟨RX8, "turns", "(II)I"⟩
abbrev cX8_bolder : ByteArray := prog_1_method_6_code
def yX8_bolder : MethodName := ⟨RX8, "bolder", "(II)I"⟩
abbrev cX8_away : ByteArray := prog_1_method_7_code
def yX8_away : MethodName := ⟨RX8, "away", "(III)I"⟩
abbrev cX8_friend : ByteArray := prog_1_method_8_code
def yX8_friend : MethodName := ⟨RX8, "friend", "(III)I"⟩
abbrev cX8_follow : ByteArray := prog_1_method_9_code
def yX8_follow : MethodName := ⟨RX8, "follow", "(III)I"⟩
abbrev cX8_deal : ByteArray := prog_1_method_10_code
def yX8_deal : MethodName := ⟨RX8, "deal", "(I)I"⟩
abbrev cX8_seed : ByteArray := prog_1_method_11_code
def yX8_seed : MethodName := ⟨RX8, "seed", "(I)I"⟩
abbrev cX8_deed : ByteArray := prog_1_method_12_code
def yX8_deed : MethodName := ⟨RX8, "deed", "(III)I"⟩
abbrev cX8_deedTold : ByteArray := prog_1_method_13_code
def yX8_deedTold : MethodName := ⟨RX8, "deedTold", "(II)I"⟩
abbrev cX8_again : ByteArray := prog_1_method_14_code
def yX8_again : MethodName := ⟨RX8, "again", "(I)I"⟩
abbrev cX8_stop : ByteArray := prog_1_method_15_code
def yX8_stop : MethodName := ⟨RX8, "stop", "(I)I"⟩
abbrev cX8_say : ByteArray := prog_1_method_16_code
def yX8_say : MethodName := ⟨RX8, "say", "(III)I"⟩
abbrev cX8_choice : ByteArray := prog_1_method_17_code
def yX8_choice : MethodName := ⟨RX8, "choice", "(II)I"⟩
abbrev cX8_rounds : ByteArray := prog_1_method_18_code
def yX8_rounds : MethodName := ⟨RX8, "rounds", "(II)I"⟩
abbrev cX8_fewest : ByteArray := prog_1_method_19_code
def yX8_fewest : MethodName := ⟨RX8, "fewest", "(II)I"⟩
abbrev cX8_silent : ByteArray := prog_1_method_20_code
def yX8_silent : MethodName := ⟨RX8, "silent", "()I"⟩
abbrev cX8_meant : ByteArray := prog_1_method_21_code
def yX8_meant : MethodName := ⟨RX8, "meant", "(I)I"⟩
abbrev cX8_proved : ByteArray := prog_1_method_22_code
def yX8_proved : MethodName := ⟨RX8, "proved", "(I)I"⟩
abbrev cX8_falls : ByteArray := prog_1_method_23_code
def yX8_falls : MethodName := ⟨RX8, "falls", "(II)J"⟩
abbrev cX8_most : ByteArray := prog_1_method_24_code
def yX8_most : MethodName := ⟨RX8, "most", "()I"⟩
abbrev cX8_feed : ByteArray := prog_1_method_25_code
def yX8_feed : MethodName := ⟨RX8, "feed", "(III)I"⟩
abbrev cX8_trim : ByteArray := prog_1_method_26_code
def yX8_trim : MethodName := ⟨RX8, "trim", "(I)I"⟩
abbrev cX8_text : ByteArray := prog_1_method_27_code
def yX8_text : MethodName := ⟨RX8, "text", "()I"⟩
abbrev cX8_textTold : ByteArray := prog_1_method_28_code
def yX8_textTold : MethodName := ⟨RX8, "textTold", "(II)I"⟩
abbrev cX8_why : ByteArray := prog_1_method_29_code
def yX8_why : MethodName := ⟨RX8, "why", "(I)I"⟩
abbrev cX8_sheet : ByteArray := prog_1_method_30_code
def yX8_sheet : MethodName := ⟨RX8, "sheet", "(III)I"⟩
abbrev cX8_mark : ByteArray := prog_1_method_31_code
def yX8_mark : MethodName := ⟨RX8, "mark", "(III)I"⟩
abbrev cX8_pour : ByteArray := prog_1_method_32_code
def yX8_pour : MethodName := ⟨RX8, "pour", "(I)I"⟩
abbrev cX8_reads : ByteArray := prog_1_method_33_code
def yX8_reads : MethodName := ⟨RX8, "reads", "(I)I"⟩
abbrev cX8_copy : ByteArray := prog_1_method_34_code
def yX8_copy : MethodName := ⟨RX8, "copy", "(IIIII)I"⟩
abbrev cX8_lay : ByteArray := prog_1_method_35_code
def yX8_lay : MethodName := ⟨RX8, "lay", "(III)I"⟩
abbrev cX8_ask : ByteArray := prog_1_method_36_code
def yX8_ask : MethodName := ⟨RX8, "ask", "(II)I"⟩
abbrev cX8_item : ByteArray := prog_1_method_37_code
def yX8_item : MethodName := ⟨RX8, "item", "(II)I"⟩
abbrev cX8_rest : ByteArray := prog_1_method_38_code
def yX8_rest : MethodName := ⟨RX8, "rest", "(II)I"⟩
abbrev cX8_tell : ByteArray := prog_1_method_39_code
def yX8_tell : MethodName := ⟨RX8, "tell", "(I)I"⟩
abbrev cX8_check : ByteArray := prog_1_method_40_code
def yX8_check : MethodName := ⟨RX8, "check", "(II)I"⟩
abbrev cX8_keep : ByteArray := prog_1_method_41_code
def yX8_keep : MethodName := ⟨RX8, "keep", "()I"⟩
abbrev cX8_back : ByteArray := prog_1_method_42_code
def yX8_back : MethodName := ⟨RX8, "back", "()I"⟩
abbrev cX8_count : ByteArray := prog_1_method_43_code
def yX8_count : MethodName := ⟨RX8, "count", "(I)I"⟩
abbrev cX8_rightOf : ByteArray := prog_1_method_44_code
def yX8_rightOf : MethodName := ⟨RX8, "rightOf", "(IIII)I"⟩
abbrev cX8_within : ByteArray := prog_1_method_45_code
def yX8_within : MethodName := ⟨RX8, "within", "(III)Z"⟩
abbrev cX8_held : ByteArray := prog_1_method_46_code
def yX8_held : MethodName := ⟨RX8, "held", "(III)I"⟩
abbrev cX8_isKind : ByteArray := prog_1_method_47_code
def yX8_isKind : MethodName := ⟨RX8, "isKind", "(I)Z"⟩
abbrev cX8_isHour : ByteArray := prog_1_method_48_code
def yX8_isHour : MethodName := ⟨RX8, "isHour", "(I)Z"⟩
abbrev cX8_isYesOrNo : ByteArray := prog_1_method_49_code
def yX8_isYesOrNo : MethodName := ⟨RX8, "isYesOrNo", "(I)Z"⟩
abbrev cX8_isSheet : ByteArray := prog_1_method_50_code
def yX8_isSheet : MethodName := ⟨RX8, "isSheet", "(I)Z"⟩
abbrev cX8_isSlot : ByteArray := prog_1_method_51_code
def yX8_isSlot : MethodName := ⟨RX8, "isSlot", "(I)Z"⟩
abbrev cX8_bitAt : ByteArray := prog_1_method_52_code
def yX8_bitAt : MethodName := ⟨RX8, "bitAt", "(II)I"⟩
abbrev cX8_hasBit : ByteArray := prog_1_method_53_code
def yX8_hasBit : MethodName := ⟨RX8, "hasBit", "(II)Z"⟩
abbrev cX8_withBit : ByteArray := prog_1_method_54_code
def yX8_withBit : MethodName := ⟨RX8, "withBit", "(III)I"⟩
abbrev cX8_leastOf : ByteArray := prog_1_method_55_code
def yX8_leastOf : MethodName := ⟨RX8, "leastOf", "(I)I"⟩
abbrev cX8_greatestOf : ByteArray := prog_1_method_56_code
def yX8_greatestOf : MethodName := ⟨RX8, "greatestOf", "(I)I"⟩
abbrev cX8_commonDivisor : ByteArray := prog_1_method_57_code
def yX8_commonDivisor : MethodName := ⟨RX8, "commonDivisor", "(II)I"⟩
def RX9 : String := "NeverSaidModel"
def TX9 : u_T := fun k => match k with
  | 0 => ("NeverSaidModel", "s", "[I", true)
  | 1 => ("NeverSaidModel", "image", "[I", true)
  | 2 => ("NeverSaidModel", "aside", "[I", true)
  | 3 => ("NeverSaidModel", "hasImage", "Z", false)
  | 4 => ("NeverSaidModel", "tSort", "[I", true)
  | 5 => ("NeverSaidModel", "tSize", "[I", true)
  | 6 => ("NeverSaidModel", "tNumber", "[I", true)
  | 7 => ("NeverSaidModel", "held", "[I", true)
  | 8 => ("NeverSaidModel", "heldNumber", "[I", true)
  | 9 => ("NeverSaidModel", "heldWorth", "[I", true)
  | 10 => ("NeverSaidModel", "heldSize", "[I", true)
  | 11 => ("NeverSaidModel", "heldRow", "[I", true)
  | 12 => ("NeverSaidModel", "goes", "[I", true)
  | 13 => ("NeverSaidModel", "tape", "[I", true)
  | 14 => ("NeverSaidModel", "taped", "I", false)
  | 15 => ("NeverSaidModel", "begin", "I", false)
  | 16 => ("NeverSaidModel", "behind", "I", false)
  | 17 => ("NeverSaidModel", "token", "I", false)
  | 18 => ("NeverSaidModel", "number", "I", false)
  | 19 => ("NeverSaidModel", "letter", "I", false)
  | 20 => ("NeverSaidModel", "deep", "I", false)
  | 21 => ("NeverSaidModel", "turned", "I", false)
  | 22 => ("NeverSaidModel", "laid", "I", false)
  | 23 => ("NeverSaidModel", "laidAt", "I", false)
  | 24 => ("NeverSaidModel", "said", "I", false)
  | 25 => ("NeverSaidModel", "named", "[I", true)
  | 26 => ("NeverSaidModel", "pile", "[I", true)
  | 27 => ("NeverSaidModel", "carried", "[I", true)
  | 28 => ("NeverSaidModel", "waits", "[I", true)
  | 29 => ("NeverSaidModel", "waiting", "I", false)
  | _ => ("NeverSaidModel", "rowDue", "[I", true)
def tyX9 : Nat → FieldType := fun k => match k with
  | 0 => .array .int
  | 1 => .array .int
  | 2 => .array .int
  | 3 => .boolean
  | 4 => .array .int
  | 5 => .array .int
  | 6 => .array .int
  | 7 => .array .int
  | 8 => .array .int
  | 9 => .array .int
  | 10 => .array .int
  | 11 => .array .int
  | 12 => .array .int
  | 13 => .array .int
  | 14 => .int
  | 15 => .int
  | 16 => .int
  | 17 => .int
  | 18 => .int
  | 19 => .int
  | 20 => .int
  | 21 => .int
  | 22 => .int
  | 23 => .int
  | 24 => .int
  | 25 => .array .int
  | 26 => .array .int
  | 27 => .array .int
  | 28 => .array .int
  | 29 => .int
  | _ => .array .int
abbrev wsX90 : List Cond := u_ws RX9 TX9 31
theorem nmX9 : ∀ a, a < 31 → ∀ b, b < 31 → a ≠ b → (TX9 a).2.1 ≠ (TX9 b).2.1 := by decide +kernel
theorem tyX9_ok : ∀ k, k < 31 → parseFieldDescriptor (TX9 k).2.2.1 = some (tyX9 k) := by decide +kernel
abbrev cX9_init : ByteArray := prog_11_method_1_code
def yX9_init : MethodName := ⟨RX9, "<init>", "()V"⟩
abbrev cX9_isIn : ByteArray := prog_11_method_2_code
def yX9_isIn : MethodName := ⟨RX9, "isIn", "(JJJ)Z"⟩
abbrev cX9_orNone : ByteArray := prog_11_method_3_code
def yX9_orNone : MethodName := ⟨RX9, "orNone", "(I)I"⟩
abbrev cX9_within : ByteArray := prog_11_method_4_code
def yX9_within : MethodName := ⟨RX9, "within", "(II)I"⟩
abbrev cX9_becomes : ByteArray := prog_11_method_5_code
def yX9_becomes : MethodName := ⟨RX9, "becomes", "(II)I"⟩
abbrev cX9_textAt : ByteArray := prog_11_method_6_code
def yX9_textAt : MethodName := ⟨RX9, "textAt", "(I)I"⟩
abbrev cX9_of : ByteArray := prog_11_method_7_code
def yX9_of : MethodName := ⟨RX9, "of", "(II)I"⟩
abbrev cX9_dee : ByteArray := prog_11_method_8_code
def yX9_dee : MethodName := ⟨RX9, "dee", "(II)I"⟩
abbrev cX9_isPerson : ByteArray := prog_11_method_9_code
def yX9_isPerson : MethodName := ⟨RX9, "isPerson", "(I)Z"⟩
abbrev cX9_isDeed : ByteArray := prog_11_method_10_code
def yX9_isDeed : MethodName := ⟨RX9, "isDeed", "(I)Z"⟩
abbrev cX9_isText : ByteArray := prog_11_method_11_code
def yX9_isText : MethodName := ⟨RX9, "isText", "(I)Z"⟩
abbrev cX9_everybody : ByteArray := prog_11_method_12_code
def yX9_everybody : MethodName := ⟨RX9, "everybody", "()I"⟩
abbrev cX9_left : ByteArray := prog_11_method_13_code
def yX9_left : MethodName := ⟨RX9, "left", "(I)I"⟩
abbrev cX9_ones : ByteArray := prog_11_method_14_code
def yX9_ones : MethodName := ⟨RX9, "ones", "(I)I"⟩
abbrev cX9_drawn : ByteArray := prog_11_method_15_code
def yX9_drawn : MethodName := ⟨RX9, "drawn", "()I"⟩
abbrev cX9_comes : ByteArray := prog_11_method_16_code
def yX9_comes : MethodName := ⟨RX9, "comes", "(III)V"⟩
abbrev cX9_person : ByteArray := prog_11_method_17_code
def yX9_person : MethodName := ⟨RX9, "person", "(II)I"⟩
abbrev cX9_followers : ByteArray := prog_11_method_18_code
def yX9_followers : MethodName := ⟨RX9, "followers", "(I)I"⟩
abbrev cX9_goBy : ByteArray := prog_11_method_19_code
def yX9_goBy : MethodName := ⟨RX9, "goBy", "(I)I"⟩
abbrev cX9_worthOf : ByteArray := prog_11_method_20_code
def yX9_worthOf : MethodName := ⟨RX9, "worthOf", "(II)I"⟩
abbrev cX9_goneOn : ByteArray := prog_11_method_21_code
def yX9_goneOn : MethodName := ⟨RX9, "goneOn", "(I)I"⟩
abbrev cX9_told : ByteArray := prog_11_method_22_code
def yX9_told : MethodName := ⟨RX9, "told", "(II)I"⟩
abbrev cX9_isOf : ByteArray := prog_11_method_23_code
def yX9_isOf : MethodName := ⟨RX9, "isOf", "(II)Z"⟩
abbrev cX9_as : ByteArray := prog_11_method_24_code
def yX9_as : MethodName := ⟨RX9, "as", "(II)I"⟩
abbrev cX9_turns : ByteArray := prog_11_method_25_code
def yX9_turns : MethodName := ⟨RX9, "turns", "(II)I"⟩
abbrev cX9_bolder : ByteArray := prog_11_method_26_code
def yX9_bolder : MethodName := ⟨RX9, "bolder", "(II)I"⟩
abbrev cX9_bitBecomes : ByteArray := prog_11_method_27_code
def yX9_bitBecomes : MethodName := ⟨RX9, "bitBecomes", "(III)I"⟩
abbrev cX9_away : ByteArray := prog_11_method_28_code
def yX9_away : MethodName := ⟨RX9, "away", "(III)I"⟩
abbrev cX9_areTwo : ByteArray := prog_11_method_29_code
def yX9_areTwo : MethodName := ⟨RX9, "areTwo", "(III)Z"⟩
abbrev cX9_friend : ByteArray := prog_11_method_30_code
def yX9_friend : MethodName := ⟨RX9, "friend", "(III)I"⟩
abbrev cX9_follow : ByteArray := prog_11_method_31_code
def yX9_follow : MethodName := ⟨RX9, "follow", "(III)I"⟩
abbrev cX9_deal : ByteArray := prog_11_method_32_code
def yX9_deal : MethodName := ⟨RX9, "deal", "(I)I"⟩
abbrev cX9_seed : ByteArray := prog_11_method_33_code
def yX9_seed : MethodName := ⟨RX9, "seed", "(I)I"⟩
abbrev cX9_deed : ByteArray := prog_11_method_34_code
def yX9_deed : MethodName := ⟨RX9, "deed", "(III)I"⟩
abbrev cX9_cost : ByteArray := prog_11_method_35_code
def yX9_cost : MethodName := ⟨RX9, "cost", "(I)I"⟩
abbrev cX9_deedTold : ByteArray := prog_11_method_36_code
def yX9_deedTold : MethodName := ⟨RX9, "deedTold", "(II)I"⟩
abbrev cX9_again : ByteArray := prog_11_method_37_code
def yX9_again : MethodName := ⟨RX9, "again", "(I)I"⟩
abbrev cX9_stop : ByteArray := prog_11_method_38_code
def yX9_stop : MethodName := ⟨RX9, "stop", "(I)I"⟩
abbrev cX9_mayBe : ByteArray := prog_11_method_39_code
def yX9_mayBe : MethodName := ⟨RX9, "mayBe", "(III)Z"⟩
abbrev cX9_says : ByteArray := prog_11_method_40_code
def yX9_says : MethodName := ⟨RX9, "says", "(II)V"⟩
abbrev cX9_say : ByteArray := prog_11_method_41_code
def yX9_say : MethodName := ⟨RX9, "say", "(III)I"⟩
abbrev cX9_least : ByteArray := prog_11_method_42_code
def yX9_least : MethodName := ⟨RX9, "least", "(I)I"⟩
abbrev cX9_greatest : ByteArray := prog_11_method_43_code
def yX9_greatest : MethodName := ⟨RX9, "greatest", "(I)I"⟩
abbrev cX9_choiceOf : ByteArray := prog_11_method_44_code
def yX9_choiceOf : MethodName := ⟨RX9, "choiceOf", "(II)I"⟩
abbrev cX9_choice : ByteArray := prog_11_method_45_code
def yX9_choice : MethodName := ⟨RX9, "choice", "(II)I"⟩
abbrev cX9_boldness : ByteArray := prog_11_method_46_code
def yX9_boldness : MethodName := ⟨RX9, "boldness", "(II)I"⟩
abbrev cX9_rounded : ByteArray := prog_11_method_47_code
def yX9_rounded : MethodName := ⟨RX9, "rounded", "(I)I"⟩
abbrev cX9_rounds : ByteArray := prog_11_method_48_code
def yX9_rounds : MethodName := ⟨RX9, "rounds", "(II)I"⟩
abbrev cX9_fewest : ByteArray := prog_11_method_49_code
def yX9_fewest : MethodName := ⟨RX9, "fewest", "(II)I"⟩
abbrev cX9_silent : ByteArray := prog_11_method_50_code
def yX9_silent : MethodName := ⟨RX9, "silent", "()I"⟩
abbrev cX9_meant : ByteArray := prog_11_method_51_code
def yX9_meant : MethodName := ⟨RX9, "meant", "(I)I"⟩
abbrev cX9_proved : ByteArray := prog_11_method_52_code
def yX9_proved : MethodName := ⟨RX9, "proved", "(I)I"⟩
abbrev cX9_fallsOn : ByteArray := prog_11_method_53_code
def yX9_fallsOn : MethodName := ⟨RX9, "fallsOn", "(I)I"⟩
abbrev cX9_falls : ByteArray := prog_11_method_54_code
def yX9_falls : MethodName := ⟨RX9, "falls", "(II)J"⟩
abbrev cX9_most : ByteArray := prog_11_method_55_code
def yX9_most : MethodName := ⟨RX9, "most", "()I"⟩
abbrev cX9_feed : ByteArray := prog_11_method_56_code
def yX9_feed : MethodName := ⟨RX9, "feed", "(III)I"⟩
abbrev cX9_trim : ByteArray := prog_11_method_57_code
def yX9_trim : MethodName := ⟨RX9, "trim", "(I)I"⟩
abbrev cX9_isLetter : ByteArray := prog_11_method_58_code
def yX9_isLetter : MethodName := ⟨RX9, "isLetter", "(I)Z"⟩
abbrev cX9_isDigit : ByteArray := prog_11_method_59_code
def yX9_isDigit : MethodName := ⟨RX9, "isDigit", "(I)Z"⟩
abbrev cX9_nextToken : ByteArray := prog_11_method_60_code
def yX9_nextToken : MethodName := ⟨RX9, "nextToken", "()V"⟩
abbrev cX9_isSign : ByteArray := prog_11_method_61_code
def yX9_isSign : MethodName := ⟨RX9, "isSign", "(I)Z"⟩
abbrev cX9_isWordAt : ByteArray := prog_11_method_62_code
def yX9_isWordAt : MethodName := ⟨RX9, "isWordAt", "(IIII)Z"⟩
abbrev cX9_key : ByteArray := prog_11_method_63_code
def yX9_key : MethodName := ⟨RX9, "key", "()I"⟩
abbrev cX9_isName : ByteArray := prog_11_method_64_code
def yX9_isName : MethodName := ⟨RX9, "isName", "(II)Z"⟩
abbrev cX9_step : ByteArray := prog_11_method_65_code
def yX9_step : MethodName := ⟨RX9, "step", "(II)V"⟩
abbrev cX9_either : ByteArray := prog_11_method_66_code
def yX9_either : MethodName := ⟨RX9, "either", "(I)Z"⟩
abbrev cX9_both : ByteArray := prog_11_method_67_code
def yX9_both : MethodName := ⟨RX9, "both", "(I)Z"⟩
abbrev cX9_test : ByteArray := prog_11_method_68_code
def yX9_test : MethodName := ⟨RX9, "test", "(I)Z"⟩
abbrev cX9_sum : ByteArray := prog_11_method_69_code
def yX9_sum : MethodName := ⟨RX9, "sum", "(I)Z"⟩
abbrev cX9_term : ByteArray := prog_11_method_70_code
def yX9_term : MethodName := ⟨RX9, "term", "(I)Z"⟩
abbrev cX9_part0 : ByteArray := prog_11_method_71_code
def yX9_part0 : MethodName := ⟨RX9, "part0", "(I)Z"⟩
abbrev cX9_parse : ByteArray := prog_11_method_72_code
def yX9_parse : MethodName := ⟨RX9, "parse", "()I"⟩
abbrev cX9_text : ByteArray := prog_11_method_73_code
def yX9_text : MethodName := ⟨RX9, "text", "()I"⟩
abbrev cX9_textTold : ByteArray := prog_11_method_74_code
def yX9_textTold : MethodName := ⟨RX9, "textTold", "(II)I"⟩
abbrev cX9_counts : ByteArray := prog_11_method_75_code
def yX9_counts : MethodName := ⟨RX9, "counts", "(I)I"⟩
abbrev cX9_why : ByteArray := prog_11_method_76_code
def yX9_why : MethodName := ⟨RX9, "why", "(I)I"⟩
abbrev cX9_joined : ByteArray := prog_11_method_77_code
def yX9_joined : MethodName := ⟨RX9, "joined", "(III)I"⟩
abbrev cX9_worked : ByteArray := prog_11_method_78_code
def yX9_worked : MethodName := ⟨RX9, "worked", "(I)I"⟩
abbrev cX9_isSheet : ByteArray := prog_11_method_79_code
def yX9_isSheet : MethodName := ⟨RX9, "isSheet", "(I)Z"⟩
abbrev cX9_sheet : ByteArray := prog_11_method_80_code
def yX9_sheet : MethodName := ⟨RX9, "sheet", "(III)I"⟩
abbrev cX9_mark : ByteArray := prog_11_method_81_code
def yX9_mark : MethodName := ⟨RX9, "mark", "(III)I"⟩
abbrev cX9_pour : ByteArray := prog_11_method_82_code
def yX9_pour : MethodName := ⟨RX9, "pour", "(I)I"⟩
abbrev cX9_reads : ByteArray := prog_11_method_83_code
def yX9_reads : MethodName := ⟨RX9, "reads", "(I)I"⟩
abbrev cX9_copy : ByteArray := prog_11_method_84_code
def yX9_copy : MethodName := ⟨RX9, "copy", "(IIIII)I"⟩
abbrev cX9_isSlot : ByteArray := prog_11_method_85_code
def yX9_isSlot : MethodName := ⟨RX9, "isSlot", "(I)Z"⟩
abbrev cX9_lay : ByteArray := prog_11_method_86_code
def yX9_lay : MethodName := ⟨RX9, "lay", "(III)I"⟩
abbrev cX9_ask : ByteArray := prog_11_method_87_code
def yX9_ask : MethodName := ⟨RX9, "ask", "(II)I"⟩
abbrev cX9_item : ByteArray := prog_11_method_88_code
def yX9_item : MethodName := ⟨RX9, "item", "(II)I"⟩
abbrev cX9_rest : ByteArray := prog_11_method_89_code
def yX9_rest : MethodName := ⟨RX9, "rest", "(II)I"⟩
abbrev cX9_tell : ByteArray := prog_11_method_90_code
def yX9_tell : MethodName := ⟨RX9, "tell", "(I)I"⟩
abbrev cX9_setAside : ByteArray := prog_11_method_91_code
def yX9_setAside : MethodName := ⟨RX9, "setAside", "([I[I)V"⟩
abbrev cX9_check : ByteArray := prog_11_method_92_code
def yX9_check : MethodName := ⟨RX9, "check", "(II)I"⟩
abbrev cX9_keep : ByteArray := prog_11_method_93_code
def yX9_keep : MethodName := ⟨RX9, "keep", "()I"⟩
abbrev cX9_back : ByteArray := prog_11_method_94_code
def yX9_back : MethodName := ⟨RX9, "back", "()I"⟩
abbrev cX9_ofAll : ByteArray := prog_11_method_95_code
def yX9_ofAll : MethodName := ⟨RX9, "ofAll", "(I)I"⟩
abbrev cX9_count : ByteArray := prog_11_method_96_code
def yX9_count : MethodName := ⟨RX9, "count", "(I)I"⟩
def RJ6 : String := "java/lang/Integer"
def TJ6 : u_T := fun k => match k with
  | _ => ("", "", "", false)
def tyJ6 : Nat → FieldType := fun k => match k with
  | _ => .int
abbrev wsJ60 : List Cond := u_ws RJ6 TJ6 0
theorem nmJ6 : ∀ a, a < 0 → ∀ b, b < 0 → a ≠ b → (TJ6 a).2.1 ≠ (TJ6 b).2.1 := by decide +kernel
theorem tyJ6_ok : ∀ k, k < 0 → parseFieldDescriptor (TJ6 k).2.2.1 = some (tyJ6 k) := by decide +kernel
abbrev cJ6_bitCount_0f7a4 : ByteArray := prog_12_method_49_code
def yJ6_bitCount_0f7a4 : MethodName := ⟨RJ6, "bitCount", "(I)I"⟩
def RJ9 : String := "java/lang/Math"
def TJ9 : u_T := fun k => match k with
  | _ => ("", "", "", false)
def tyJ9 : Nat → FieldType := fun k => match k with
  | _ => .int
abbrev wsJ90 : List Cond := u_ws RJ9 TJ9 0
theorem nmJ9 : ∀ a, a < 0 → ∀ b, b < 0 → a ≠ b → (TJ9 a).2.1 ≠ (TJ9 b).2.1 := by decide +kernel
theorem tyJ9_ok : ∀ k, k < 0 → parseFieldDescriptor (TJ9 k).2.2.1 = some (tyJ9 k) := by decide +kernel
abbrev cJ9_max_7cf53 : ByteArray := prog_13_method_65_code
def yJ9_max_7cf53 : MethodName := ⟨RJ9, "max", "(II)I"⟩
abbrev cJ9_min_7cf53 : ByteArray := prog_13_method_69_code
def yJ9_min_7cf53 : MethodName := ⟨RJ9, "min", "(II)I"⟩
def RJ0 : String := "java/lang/String"
def TJ0 : u_T := fun k => match k with
  | _ => ("", "", "", false)
def tyJ0 : Nat → FieldType := fun k => match k with
  | _ => .int
abbrev wsJ00 : List Cond := u_ws RJ0 TJ0 0
theorem nmJ0 : ∀ a, a < 0 → ∀ b, b < 0 → a ≠ b → (TJ0 a).2.1 ≠ (TJ0 b).2.1 := by decide +kernel
theorem tyJ0_ok : ∀ k, k < 0 → parseFieldDescriptor (TJ0 k).2.2.1 = some (tyJ0 k) := by decide +kernel
abbrev cJ0_length_8abf5 : ByteArray := prog_14_method_54_code
def yJ0_length_8abf5 : MethodName := ⟨RJ0, "length", "()I"⟩
abbrev cJ0_charAt_5068e : ByteArray := prog_14_method_56_code
def yJ0_charAt_5068e : MethodName := ⟨RJ0, "charAt", "(I)C"⟩
abbrev cJ0_coder_7d493 : ByteArray := prog_14_method_152_code
def yJ0_coder_7d493 : MethodName := ⟨RJ0, "coder", "()B"⟩
abbrev cJ0_isLatin1_aae02 : ByteArray := prog_14_method_154_code
def yJ0_isLatin1_aae02 : MethodName := ⟨RJ0, "isLatin1", "()Z"⟩
abbrev cJ0_checkIndex_df160 : ByteArray := prog_14_method_155_code
def yJ0_checkIndex_df160 : MethodName := ⟨RJ0, "checkIndex", "(II)V"⟩
def RJ1 : String := "java/lang/StringLatin1"
def TJ1 : u_T := fun k => match k with
  | _ => ("", "", "", false)
def tyJ1 : Nat → FieldType := fun k => match k with
  | _ => .int
abbrev wsJ10 : List Cond := u_ws RJ1 TJ1 0
theorem nmJ1 : ∀ a, a < 0 → ∀ b, b < 0 → a ≠ b → (TJ1 a).2.1 ≠ (TJ1 b).2.1 := by decide +kernel
theorem tyJ1_ok : ∀ k, k < 0 → parseFieldDescriptor (TJ1 k).2.2.1 = some (tyJ1 k) := by decide +kernel
abbrev cJ1_charAt_3b067 : ByteArray := prog_15_method_2_code
def yJ1_charAt_3b067 : MethodName := ⟨RJ1, "charAt", "([BI)C"⟩
def RJ2 : String := "java/lang/StringUTF16"
def TJ2 : u_T := fun k => match k with
  | _ => ("", "", "", false)
def tyJ2 : Nat → FieldType := fun k => match k with
  | _ => .int
abbrev wsJ20 : List Cond := u_ws RJ2 TJ2 0
theorem nmJ2 : ∀ a, a < 0 → ∀ b, b < 0 → a ≠ b → (TJ2 a).2.1 ≠ (TJ2 b).2.1 := by decide +kernel
theorem tyJ2_ok : ∀ k, k < 0 → parseFieldDescriptor (TJ2 k).2.2.1 = some (tyJ2 k) := by decide +kernel
abbrev cJ2_getChar_3b067 : ByteArray := prog_16_method_5_code
def yJ2_getChar_3b067 : MethodName := ⟨RJ2, "getChar", "([BI)C"⟩
abbrev cJ2_length_9d52b : ByteArray := prog_16_method_6_code
def yJ2_length_9d52b : MethodName := ⟨RJ2, "length", "([B)I"⟩
abbrev cJ2_charAt_3b067 : ByteArray := prog_16_method_83_code
def yJ2_charAt_3b067 : MethodName := ⟨RJ2, "charAt", "([BI)C"⟩
abbrev cJ2_checkIndex_2214a : ByteArray := prog_16_method_91_code
def yJ2_checkIndex_2214a : MethodName := ⟨RJ2, "checkIndex", "(I[B)V"⟩
def RJ10 : String := "java/lang/System"
def TJ10 : u_T := fun k => match k with
  | _ => ("", "", "", false)
def tyJ10 : Nat → FieldType := fun k => match k with
  | _ => .int
abbrev wsJ100 : List Cond := u_ws RJ10 TJ10 0
theorem nmJ10 : ∀ a, a < 0 → ∀ b, b < 0 → a ≠ b → (TJ10 a).2.1 ≠ (TJ10 b).2.1 := by decide +kernel
theorem tyJ10_ok : ∀ k, k < 0 → parseFieldDescriptor (TJ10 k).2.2.1 = some (tyJ10 k) := by decide +kernel
def RJ3 : String := "jdk/internal/util/Preconditions"
def TJ3 : u_T := fun k => match k with
  | _ => ("", "", "", false)
def tyJ3 : Nat → FieldType := fun k => match k with
  | _ => .int
abbrev wsJ30 : List Cond := u_ws RJ3 TJ3 0
theorem nmJ3 : ∀ a, a < 0 → ∀ b, b < 0 → a ≠ b → (TJ3 a).2.1 ≠ (TJ3 b).2.1 := by decide +kernel
theorem tyJ3_ok : ∀ k, k < 0 → parseFieldDescriptor (TJ3 k).2.2.1 = some (tyJ3 k) := by decide +kernel
abbrev cJ3_checkIndex_8e157 : ByteArray := prog_18_method_11_code
def yJ3_checkIndex_8e157 : MethodName := ⟨RJ3, "checkIndex", "(IILjava/util/function/BiFunction;)I"⟩
def RL : String := "NeverSaidLaw"
abbrev cL_law : ByteArray := code
def yL_law : MethodName := ⟨RL, "law", "([I)Z"⟩
abbrev vwCl : List vw_C := [(RX0, TX0, 6), (RX1, TX1, 10), (RX2, TX2, 6), (RX3, TX3, 11), (RX4, TX4, 3), (RX5, TX5, 4), (RX6, TX6, 2), (RX7, TX7, 3), (RX8, TX8, 10), (RX9, TX9, 31)]
