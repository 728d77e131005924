-- ===== PART A: goes FIRST, ahead of the names: the tables' words, and 'selects' of the private methods out of them =====
/-- a private method of a class that the tables say can be made, by its rows of tables_1 -/
def lw_okq (q : MethodName × Nat) : Prop := (q.1.cls ≠ "java/lang/invoke/MethodHandle" ∧ q.1.cls ≠ "java/lang/invoke/VarHandle") ∧ Cond.instantiable q.1.cls q.2 ∈ tables_1 ∧ Cond.privateMethod q.1 ∈ tables_1 ∧ Cond.instanceMethod q.1 ∈ tables_1
theorem lw_p0 : lw_okq (⟨"StreamEnds$Config", "setDefaults", "()V"⟩, 5) := ⟨⟨by decide +kernel, by decide +kernel⟩, List.mem_of_getElem? (i := 41) (by decide +kernel), List.mem_of_getElem? (i := 47) (by decide +kernel), List.mem_of_getElem? (i := 48) (by decide +kernel)⟩
theorem lw_p1 : lw_okq (⟨"StreamEnds$Config", "readItem", "(LStreamEnds$Text;I)I"⟩, 5) := ⟨⟨by decide +kernel, by decide +kernel⟩, List.mem_of_getElem? (i := 41) (by decide +kernel), List.mem_of_getElem? (i := 462) (by decide +kernel), List.mem_of_getElem? (i := 463) (by decide +kernel)⟩
theorem lw_p2 : lw_okq (⟨"StreamEnds$Config", "set", "(III)Z"⟩, 5) := ⟨⟨by decide +kernel, by decide +kernel⟩, List.mem_of_getElem? (i := 41) (by decide +kernel), List.mem_of_getElem? (i := 483) (by decide +kernel), List.mem_of_getElem? (i := 484) (by decide +kernel)⟩
theorem lw_p3 : lw_okq (⟨"StreamEnds$Endpoint", "draft", "(II)LStreamEnds$Segment;"⟩, 10) := ⟨⟨by decide +kernel, by decide +kernel⟩, List.mem_of_getElem? (i := 177) (by decide +kernel), List.mem_of_getElem? (i := 515) (by decide +kernel), List.mem_of_getElem? (i := 516) (by decide +kernel)⟩
theorem lw_p4 : lw_okq (⟨"StreamEnds$Endpoint", "sendData", "(IIZ)V"⟩, 10) := ⟨⟨by decide +kernel, by decide +kernel⟩, List.mem_of_getElem? (i := 177) (by decide +kernel), List.mem_of_getElem? (i := 606) (by decide +kernel), List.mem_of_getElem? (i := 607) (by decide +kernel)⟩
theorem lw_p5 : lw_okq (⟨"StreamEnds$Receiver", "receiveClosed", "(LStreamEnds$Segment;)V"⟩, 3) := ⟨⟨by decide +kernel, by decide +kernel⟩, List.mem_of_getElem? (i := 340) (by decide +kernel), List.mem_of_getElem? (i := 699) (by decide +kernel), List.mem_of_getElem? (i := 700) (by decide +kernel)⟩
theorem lw_p6 : lw_okq (⟨"StreamEnds$Receiver", "receiveListening", "(LStreamEnds$Segment;)V"⟩, 3) := ⟨⟨by decide +kernel, by decide +kernel⟩, List.mem_of_getElem? (i := 340) (by decide +kernel), List.mem_of_getElem? (i := 709) (by decide +kernel), List.mem_of_getElem? (i := 710) (by decide +kernel)⟩
theorem lw_p7 : lw_okq (⟨"StreamEnds$Receiver", "receiveConnecting", "(LStreamEnds$Segment;)V"⟩, 3) := ⟨⟨by decide +kernel, by decide +kernel⟩, List.mem_of_getElem? (i := 340) (by decide +kernel), List.mem_of_getElem? (i := 714) (by decide +kernel), List.mem_of_getElem? (i := 715) (by decide +kernel)⟩
theorem lw_p8 : lw_okq (⟨"StreamEnds$Receiver", "ownPlace", "(I)I"⟩, 3) := ⟨⟨by decide +kernel, by decide +kernel⟩, List.mem_of_getElem? (i := 340) (by decide +kernel), List.mem_of_getElem? (i := 718) (by decide +kernel), List.mem_of_getElem? (i := 719) (by decide +kernel)⟩
theorem lw_p9 : lw_okq (⟨"StreamEnds$Receiver", "acknowledge", "(LStreamEnds$Segment;I)V"⟩, 3) := ⟨⟨by decide +kernel, by decide +kernel⟩, List.mem_of_getElem? (i := 340) (by decide +kernel), List.mem_of_getElem? (i := 728) (by decide +kernel), List.mem_of_getElem? (i := 729) (by decide +kernel)⟩
theorem lw_p10 : lw_okq (⟨"StreamEnds$RoundTrips", "measure", "(I)V"⟩, 7) := ⟨⟨by decide +kernel, by decide +kernel⟩, List.mem_of_getElem? (i := 265) (by decide +kernel), List.mem_of_getElem? (i := 742) (by decide +kernel), List.mem_of_getElem? (i := 743) (by decide +kernel)⟩
theorem lw_p11 : lw_okq (⟨"StreamEnds$Receiver", "receiveOpen", "(LStreamEnds$Segment;)V"⟩, 3) := ⟨⟨by decide +kernel, by decide +kernel⟩, List.mem_of_getElem? (i := 340) (by decide +kernel), List.mem_of_getElem? (i := 758) (by decide +kernel), List.mem_of_getElem? (i := 759) (by decide +kernel)⟩
theorem lw_p12 : lw_okq (⟨"StreamEnds$Receiver", "peerPlace", "(I)I"⟩, 3) := ⟨⟨by decide +kernel, by decide +kernel⟩, List.mem_of_getElem? (i := 340) (by decide +kernel), List.mem_of_getElem? (i := 762) (by decide +kernel), List.mem_of_getElem? (i := 763) (by decide +kernel)⟩
theorem lw_p13 : lw_okq (⟨"StreamEnds$Receiver", "refuse", "(LStreamEnds$Segment;I)V"⟩, 3) := ⟨⟨by decide +kernel, by decide +kernel⟩, List.mem_of_getElem? (i := 340) (by decide +kernel), List.mem_of_getElem? (i := 775) (by decide +kernel), List.mem_of_getElem? (i := 776) (by decide +kernel)⟩
theorem lw_p14 : lw_okq (⟨"StreamEnds$Receiver", "accept", "(LStreamEnds$Segment;I)V"⟩, 3) := ⟨⟨by decide +kernel, by decide +kernel⟩, List.mem_of_getElem? (i := 340) (by decide +kernel), List.mem_of_getElem? (i := 784) (by decide +kernel), List.mem_of_getElem? (i := 785) (by decide +kernel)⟩
theorem lw_p15 : lw_okq (⟨"StreamEnds$Receiver", "keepBytes", "(LStreamEnds$Segment;I)V"⟩, 3) := ⟨⟨by decide +kernel, by decide +kernel⟩, List.mem_of_getElem? (i := 340) (by decide +kernel), List.mem_of_getElem? (i := 793) (by decide +kernel), List.mem_of_getElem? (i := 794) (by decide +kernel)⟩
def lw_privs_1 : List (MethodName × Nat) := [(⟨"StreamEnds$Config", "setDefaults", "()V"⟩, 5), (⟨"StreamEnds$Config", "readItem", "(LStreamEnds$Text;I)I"⟩, 5), (⟨"StreamEnds$Config", "set", "(III)Z"⟩, 5), (⟨"StreamEnds$Endpoint", "draft", "(II)LStreamEnds$Segment;"⟩, 10), (⟨"StreamEnds$Endpoint", "sendData", "(IIZ)V"⟩, 10), (⟨"StreamEnds$Receiver", "receiveClosed", "(LStreamEnds$Segment;)V"⟩, 3), (⟨"StreamEnds$Receiver", "receiveListening", "(LStreamEnds$Segment;)V"⟩, 3), (⟨"StreamEnds$Receiver", "receiveConnecting", "(LStreamEnds$Segment;)V"⟩, 3), (⟨"StreamEnds$Receiver", "ownPlace", "(I)I"⟩, 3), (⟨"StreamEnds$Receiver", "acknowledge", "(LStreamEnds$Segment;I)V"⟩, 3), (⟨"StreamEnds$RoundTrips", "measure", "(I)V"⟩, 7), (⟨"StreamEnds$Receiver", "receiveOpen", "(LStreamEnds$Segment;)V"⟩, 3), (⟨"StreamEnds$Receiver", "peerPlace", "(I)I"⟩, 3), (⟨"StreamEnds$Receiver", "refuse", "(LStreamEnds$Segment;I)V"⟩, 3), (⟨"StreamEnds$Receiver", "accept", "(LStreamEnds$Segment;I)V"⟩, 3), (⟨"StreamEnds$Receiver", "keepBytes", "(LStreamEnds$Segment;I)V"⟩, 3)]
theorem lw_r1 : ∀ q ∈ lw_privs_1, lw_okq q := List.forall_mem_cons.mpr ⟨lw_p0, List.forall_mem_cons.mpr ⟨lw_p1, List.forall_mem_cons.mpr ⟨lw_p2, List.forall_mem_cons.mpr ⟨lw_p3, List.forall_mem_cons.mpr ⟨lw_p4, List.forall_mem_cons.mpr ⟨lw_p5, List.forall_mem_cons.mpr ⟨lw_p6, List.forall_mem_cons.mpr ⟨lw_p7, List.forall_mem_cons.mpr ⟨lw_p8, List.forall_mem_cons.mpr ⟨lw_p9, List.forall_mem_cons.mpr ⟨lw_p10, List.forall_mem_cons.mpr ⟨lw_p11, List.forall_mem_cons.mpr ⟨lw_p12, List.forall_mem_cons.mpr ⟨lw_p13, List.forall_mem_cons.mpr ⟨lw_p14, List.forall_mem_cons.mpr ⟨lw_p15, fun _ h => absurd h List.not_mem_nil⟩⟩⟩⟩⟩⟩⟩⟩⟩⟩⟩⟩⟩⟩⟩⟩
theorem lw_p16 : lw_okq (⟨"StreamEnds$Endpoint", "expire", "()V"⟩, 10) := ⟨⟨by decide +kernel, by decide +kernel⟩, List.mem_of_getElem? (i := 177) (by decide +kernel), List.mem_of_getElem? (i := 844) (by decide +kernel), List.mem_of_getElem? (i := 845) (by decide +kernel)⟩
theorem lw_p17 : lw_okq (⟨"StreamEnds$Endpoint", "retransmit", "()V"⟩, 10) := ⟨⟨by decide +kernel, by decide +kernel⟩, List.mem_of_getElem? (i := 177) (by decide +kernel), List.mem_of_getElem? (i := 848) (by decide +kernel), List.mem_of_getElem? (i := 849) (by decide +kernel)⟩
theorem lw_p18 : lw_okq (⟨"StreamEnds$Segment", "rangeNumber", "(I)I"⟩, 10) := ⟨⟨by decide +kernel, by decide +kernel⟩, List.mem_of_getElem? (i := 90) (by decide +kernel), List.mem_of_getElem? (i := 957) (by decide +kernel), List.mem_of_getElem? (i := 958) (by decide +kernel)⟩
theorem lw_p19 : lw_okq (⟨"StreamEndsModel", "begins", "()V"⟩, 16) := ⟨⟨by decide +kernel, by decide +kernel⟩, List.mem_of_getElem? (i := 974) (by decide +kernel), List.mem_of_getElem? (i := 980) (by decide +kernel), List.mem_of_getElem? (i := 981) (by decide +kernel)⟩
theorem lw_p20 : lw_okq (⟨"StreamEndsModel", "starts", "(I)V"⟩, 16) := ⟨⟨by decide +kernel, by decide +kernel⟩, List.mem_of_getElem? (i := 974) (by decide +kernel), List.mem_of_getElem? (i := 984) (by decide +kernel), List.mem_of_getElem? (i := 985) (by decide +kernel)⟩
theorem lw_p21 : lw_okq (⟨"StreamEndsModel", "set", "(III)V"⟩, 16) := ⟨⟨by decide +kernel, by decide +kernel⟩, List.mem_of_getElem? (i := 974) (by decide +kernel), List.mem_of_getElem? (i := 988) (by decide +kernel), List.mem_of_getElem? (i := 989) (by decide +kernel)⟩
theorem lw_p22 : lw_okq (⟨"StreamEndsModel", "reads", "()I"⟩, 16) := ⟨⟨by decide +kernel, by decide +kernel⟩, List.mem_of_getElem? (i := 974) (by decide +kernel), List.mem_of_getElem? (i := 1058) (by decide +kernel), List.mem_of_getElem? (i := 1059) (by decide +kernel)⟩
theorem lw_p23 : lw_okq (⟨"StreamEndsModel", "readsItem", "()Z"⟩, 16) := ⟨⟨by decide +kernel, by decide +kernel⟩, List.mem_of_getElem? (i := 974) (by decide +kernel), List.mem_of_getElem? (i := 1062) (by decide +kernel), List.mem_of_getElem? (i := 1063) (by decide +kernel)⟩
theorem lw_p24 : lw_okq (⟨"StreamEndsModel", "readsNumber", "(III)Z"⟩, 16) := ⟨⟨by decide +kernel, by decide +kernel⟩, List.mem_of_getElem? (i := 974) (by decide +kernel), List.mem_of_getElem? (i := 1066) (by decide +kernel), List.mem_of_getElem? (i := 1067) (by decide +kernel)⟩
theorem lw_p25 : lw_okq (⟨"StreamEndsModel", "isFigure", "()Z"⟩, 16) := ⟨⟨by decide +kernel, by decide +kernel⟩, List.mem_of_getElem? (i := 974) (by decide +kernel), List.mem_of_getElem? (i := 1070) (by decide +kernel), List.mem_of_getElem? (i := 1071) (by decide +kernel)⟩
theorem lw_p26 : lw_okq (⟨"StreamEndsModel", "get", "(II)I"⟩, 16) := ⟨⟨by decide +kernel, by decide +kernel⟩, List.mem_of_getElem? (i := 974) (by decide +kernel), List.mem_of_getElem? (i := 1088) (by decide +kernel), List.mem_of_getElem? (i := 1089) (by decide +kernel)⟩
theorem lw_p27 : lw_okq (⟨"StreamEndsModel", "callsOut", "(I)V"⟩, 16) := ⟨⟨by decide +kernel, by decide +kernel⟩, List.mem_of_getElem? (i := 974) (by decide +kernel), List.mem_of_getElem? (i := 1092) (by decide +kernel), List.mem_of_getElem? (i := 1093) (by decide +kernel)⟩
theorem lw_p28 : lw_okq (⟨"StreamEndsModel", "hello", "(I)V"⟩, 16) := ⟨⟨by decide +kernel, by decide +kernel⟩, List.mem_of_getElem? (i := 974) (by decide +kernel), List.mem_of_getElem? (i := 1096) (by decide +kernel), List.mem_of_getElem? (i := 1097) (by decide +kernel)⟩
theorem lw_p29 : lw_okq (⟨"StreamEndsModel", "number", "(II)I"⟩, 16) := ⟨⟨by decide +kernel, by decide +kernel⟩, List.mem_of_getElem? (i := 974) (by decide +kernel), List.mem_of_getElem? (i := 1100) (by decide +kernel), List.mem_of_getElem? (i := 1101) (by decide +kernel)⟩
theorem lw_p30 : lw_okq (⟨"StreamEndsModel", "makes", "(III)V"⟩, 16) := ⟨⟨by decide +kernel, by decide +kernel⟩, List.mem_of_getElem? (i := 974) (by decide +kernel), List.mem_of_getElem? (i := 1104) (by decide +kernel), List.mem_of_getElem? (i := 1105) (by decide +kernel)⟩
theorem lw_p31 : lw_okq (⟨"StreamEndsModel", "spans", "(I)V"⟩, 16) := ⟨⟨by decide +kernel, by decide +kernel⟩, List.mem_of_getElem? (i := 974) (by decide +kernel), List.mem_of_getElem? (i := 1108) (by decide +kernel), List.mem_of_getElem? (i := 1109) (by decide +kernel)⟩
def lw_privs_2 : List (MethodName × Nat) := [(⟨"StreamEnds$Endpoint", "expire", "()V"⟩, 10), (⟨"StreamEnds$Endpoint", "retransmit", "()V"⟩, 10), (⟨"StreamEnds$Segment", "rangeNumber", "(I)I"⟩, 10), (⟨"StreamEndsModel", "begins", "()V"⟩, 16), (⟨"StreamEndsModel", "starts", "(I)V"⟩, 16), (⟨"StreamEndsModel", "set", "(III)V"⟩, 16), (⟨"StreamEndsModel", "reads", "()I"⟩, 16), (⟨"StreamEndsModel", "readsItem", "()Z"⟩, 16), (⟨"StreamEndsModel", "readsNumber", "(III)Z"⟩, 16), (⟨"StreamEndsModel", "isFigure", "()Z"⟩, 16), (⟨"StreamEndsModel", "get", "(II)I"⟩, 16), (⟨"StreamEndsModel", "callsOut", "(I)V"⟩, 16), (⟨"StreamEndsModel", "hello", "(I)V"⟩, 16), (⟨"StreamEndsModel", "number", "(II)I"⟩, 16), (⟨"StreamEndsModel", "makes", "(III)V"⟩, 16), (⟨"StreamEndsModel", "spans", "(I)V"⟩, 16)]
theorem lw_r2 : ∀ q ∈ lw_privs_2, lw_okq q := List.forall_mem_cons.mpr ⟨lw_p16, List.forall_mem_cons.mpr ⟨lw_p17, List.forall_mem_cons.mpr ⟨lw_p18, List.forall_mem_cons.mpr ⟨lw_p19, List.forall_mem_cons.mpr ⟨lw_p20, List.forall_mem_cons.mpr ⟨lw_p21, List.forall_mem_cons.mpr ⟨lw_p22, List.forall_mem_cons.mpr ⟨lw_p23, List.forall_mem_cons.mpr ⟨lw_p24, List.forall_mem_cons.mpr ⟨lw_p25, List.forall_mem_cons.mpr ⟨lw_p26, List.forall_mem_cons.mpr ⟨lw_p27, List.forall_mem_cons.mpr ⟨lw_p28, List.forall_mem_cons.mpr ⟨lw_p29, List.forall_mem_cons.mpr ⟨lw_p30, List.forall_mem_cons.mpr ⟨lw_p31, fun _ h => absurd h List.not_mem_nil⟩⟩⟩⟩⟩⟩⟩⟩⟩⟩⟩⟩⟩⟩⟩⟩
theorem lw_p32 : lw_okq (⟨"StreamEndsModel", "nextHeld", "(IIZ)I"⟩, 16) := ⟨⟨by decide +kernel, by decide +kernel⟩, List.mem_of_getElem? (i := 974) (by decide +kernel), List.mem_of_getElem? (i := 1112) (by decide +kernel), List.mem_of_getElem? (i := 1113) (by decide +kernel)⟩
theorem lw_p33 : lw_okq (⟨"StreamEndsModel", "isHeld", "(II)Z"⟩, 16) := ⟨⟨by decide +kernel, by decide +kernel⟩, List.mem_of_getElem? (i := 974) (by decide +kernel), List.mem_of_getElem? (i := 1116) (by decide +kernel), List.mem_of_getElem? (i := 1117) (by decide +kernel)⟩
theorem lw_p34 : lw_okq (⟨"StreamEndsModel", "posts", "()V"⟩, 16) := ⟨⟨by decide +kernel, by decide +kernel⟩, List.mem_of_getElem? (i := 974) (by decide +kernel), List.mem_of_getElem? (i := 1120) (by decide +kernel), List.mem_of_getElem? (i := 1121) (by decide +kernel)⟩
theorem lw_p35 : lw_okq (⟨"StreamEndsModel", "times", "(II)V"⟩, 16) := ⟨⟨by decide +kernel, by decide +kernel⟩, List.mem_of_getElem? (i := 974) (by decide +kernel), List.mem_of_getElem? (i := 1124) (by decide +kernel), List.mem_of_getElem? (i := 1125) (by decide +kernel)⟩
theorem lw_p36 : lw_okq (⟨"StreamEndsModel", "settles", "(I)V"⟩, 16) := ⟨⟨by decide +kernel, by decide +kernel⟩, List.mem_of_getElem? (i := 974) (by decide +kernel), List.mem_of_getElem? (i := 1128) (by decide +kernel), List.mem_of_getElem? (i := 1129) (by decide +kernel)⟩
theorem lw_p37 : lw_okq (⟨"StreamEndsModel", "isBlocked", "(I)Z"⟩, 16) := ⟨⟨by decide +kernel, by decide +kernel⟩, List.mem_of_getElem? (i := 974) (by decide +kernel), List.mem_of_getElem? (i := 1132) (by decide +kernel), List.mem_of_getElem? (i := 1133) (by decide +kernel)⟩
theorem lw_p38 : lw_okq (⟨"StreamEndsModel", "isIn", "(III)Z"⟩, 16) := ⟨⟨by decide +kernel, by decide +kernel⟩, List.mem_of_getElem? (i := 974) (by decide +kernel), List.mem_of_getElem? (i := 1136) (by decide +kernel), List.mem_of_getElem? (i := 1137) (by decide +kernel)⟩
theorem lw_p39 : lw_okq (⟨"StreamEndsModel", "saidFrom", "(II)I"⟩, 16) := ⟨⟨by decide +kernel, by decide +kernel⟩, List.mem_of_getElem? (i := 974) (by decide +kernel), List.mem_of_getElem? (i := 1140) (by decide +kernel), List.mem_of_getElem? (i := 1141) (by decide +kernel)⟩
theorem lw_p40 : lw_okq (⟨"StreamEndsModel", "maySay", "(I)Z"⟩, 16) := ⟨⟨by decide +kernel, by decide +kernel⟩, List.mem_of_getElem? (i := 974) (by decide +kernel), List.mem_of_getElem? (i := 1152) (by decide +kernel), List.mem_of_getElem? (i := 1153) (by decide +kernel)⟩
theorem lw_p41 : lw_okq (⟨"StreamEndsModel", "goesOn", "(I)V"⟩, 16) := ⟨⟨by decide +kernel, by decide +kernel⟩, List.mem_of_getElem? (i := 974) (by decide +kernel), List.mem_of_getElem? (i := 1156) (by decide +kernel), List.mem_of_getElem? (i := 1157) (by decide +kernel)⟩
theorem lw_p42 : lw_okq (⟨"StreamEndsModel", "goesOnce", "(I)Z"⟩, 16) := ⟨⟨by decide +kernel, by decide +kernel⟩, List.mem_of_getElem? (i := 974) (by decide +kernel), List.mem_of_getElem? (i := 1160) (by decide +kernel), List.mem_of_getElem? (i := 1161) (by decide +kernel)⟩
theorem lw_p43 : lw_okq (⟨"StreamEndsModel", "sends", "(IIZ)V"⟩, 16) := ⟨⟨by decide +kernel, by decide +kernel⟩, List.mem_of_getElem? (i := 974) (by decide +kernel), List.mem_of_getElem? (i := 1167) (by decide +kernel), List.mem_of_getElem? (i := 1168) (by decide +kernel)⟩
theorem lw_p44 : lw_okq (⟨"StreamEndsModel", "data", "(IIIZ)V"⟩, 16) := ⟨⟨by decide +kernel, by decide +kernel⟩, List.mem_of_getElem? (i := 974) (by decide +kernel), List.mem_of_getElem? (i := 1171) (by decide +kernel), List.mem_of_getElem? (i := 1172) (by decide +kernel)⟩
theorem lw_p45 : lw_okq (⟨"StreamEndsModel", "shuts", "(I)V"⟩, 16) := ⟨⟨by decide +kernel, by decide +kernel⟩, List.mem_of_getElem? (i := 974) (by decide +kernel), List.mem_of_getElem? (i := 1183) (by decide +kernel), List.mem_of_getElem? (i := 1184) (by decide +kernel)⟩
theorem lw_p46 : lw_okq (⟨"StreamEndsModel", "breaks", "(II)V"⟩, 16) := ⟨⟨by decide +kernel, by decide +kernel⟩, List.mem_of_getElem? (i := 974) (by decide +kernel), List.mem_of_getElem? (i := 1192) (by decide +kernel), List.mem_of_getElem? (i := 1193) (by decide +kernel)⟩
theorem lw_p47 : lw_okq (⟨"StreamEndsModel", "there", "(I)I"⟩, 16) := ⟨⟨by decide +kernel, by decide +kernel⟩, List.mem_of_getElem? (i := 974) (by decide +kernel), List.mem_of_getElem? (i := 1200) (by decide +kernel), List.mem_of_getElem? (i := 1201) (by decide +kernel)⟩
def lw_privs_3 : List (MethodName × Nat) := [(⟨"StreamEndsModel", "nextHeld", "(IIZ)I"⟩, 16), (⟨"StreamEndsModel", "isHeld", "(II)Z"⟩, 16), (⟨"StreamEndsModel", "posts", "()V"⟩, 16), (⟨"StreamEndsModel", "times", "(II)V"⟩, 16), (⟨"StreamEndsModel", "settles", "(I)V"⟩, 16), (⟨"StreamEndsModel", "isBlocked", "(I)Z"⟩, 16), (⟨"StreamEndsModel", "isIn", "(III)Z"⟩, 16), (⟨"StreamEndsModel", "saidFrom", "(II)I"⟩, 16), (⟨"StreamEndsModel", "maySay", "(I)Z"⟩, 16), (⟨"StreamEndsModel", "goesOn", "(I)V"⟩, 16), (⟨"StreamEndsModel", "goesOnce", "(I)Z"⟩, 16), (⟨"StreamEndsModel", "sends", "(IIZ)V"⟩, 16), (⟨"StreamEndsModel", "data", "(IIIZ)V"⟩, 16), (⟨"StreamEndsModel", "shuts", "(I)V"⟩, 16), (⟨"StreamEndsModel", "breaks", "(II)V"⟩, 16), (⟨"StreamEndsModel", "there", "(I)I"⟩, 16)]
theorem lw_r3 : ∀ q ∈ lw_privs_3, lw_okq q := List.forall_mem_cons.mpr ⟨lw_p32, List.forall_mem_cons.mpr ⟨lw_p33, List.forall_mem_cons.mpr ⟨lw_p34, List.forall_mem_cons.mpr ⟨lw_p35, List.forall_mem_cons.mpr ⟨lw_p36, List.forall_mem_cons.mpr ⟨lw_p37, List.forall_mem_cons.mpr ⟨lw_p38, List.forall_mem_cons.mpr ⟨lw_p39, List.forall_mem_cons.mpr ⟨lw_p40, List.forall_mem_cons.mpr ⟨lw_p41, List.forall_mem_cons.mpr ⟨lw_p42, List.forall_mem_cons.mpr ⟨lw_p43, List.forall_mem_cons.mpr ⟨lw_p44, List.forall_mem_cons.mpr ⟨lw_p45, List.forall_mem_cons.mpr ⟨lw_p46, List.forall_mem_cons.mpr ⟨lw_p47, fun _ h => absurd h List.not_mem_nil⟩⟩⟩⟩⟩⟩⟩⟩⟩⟩⟩⟩⟩⟩⟩⟩
theorem lw_p48 : lw_okq (⟨"StreamEndsModel", "yes", "(I)V"⟩, 16) := ⟨⟨by decide +kernel, by decide +kernel⟩, List.mem_of_getElem? (i := 974) (by decide +kernel), List.mem_of_getElem? (i := 1206) (by decide +kernel), List.mem_of_getElem? (i := 1207) (by decide +kernel)⟩
theorem lw_p49 : lw_okq (⟨"StreamEndsModel", "isLetter", "(I)Z"⟩, 16) := ⟨⟨by decide +kernel, by decide +kernel⟩, List.mem_of_getElem? (i := 974) (by decide +kernel), List.mem_of_getElem? (i := 1214) (by decide +kernel), List.mem_of_getElem? (i := 1215) (by decide +kernel)⟩
theorem lw_p50 : lw_okq (⟨"StreamEndsModel", "arrives", "(I)I"⟩, 16) := ⟨⟨by decide +kernel, by decide +kernel⟩, List.mem_of_getElem? (i := 974) (by decide +kernel), List.mem_of_getElem? (i := 1218) (by decide +kernel), List.mem_of_getElem? (i := 1219) (by decide +kernel)⟩
theorem lw_p51 : lw_okq (⟨"StreamEndsModel", "removes", "(I)V"⟩, 16) := ⟨⟨by decide +kernel, by decide +kernel⟩, List.mem_of_getElem? (i := 974) (by decide +kernel), List.mem_of_getElem? (i := 1222) (by decide +kernel), List.mem_of_getElem? (i := 1223) (by decide +kernel)⟩
theorem lw_p52 : lw_okq (⟨"StreamEndsModel", "inShut", "(I)I"⟩, 16) := ⟨⟨by decide +kernel, by decide +kernel⟩, List.mem_of_getElem? (i := 974) (by decide +kernel), List.mem_of_getElem? (i := 1226) (by decide +kernel), List.mem_of_getElem? (i := 1227) (by decide +kernel)⟩
theorem lw_p53 : lw_okq (⟨"StreamEndsModel", "has", "(I)Z"⟩, 16) := ⟨⟨by decide +kernel, by decide +kernel⟩, List.mem_of_getElem? (i := 974) (by decide +kernel), List.mem_of_getElem? (i := 1230) (by decide +kernel), List.mem_of_getElem? (i := 1231) (by decide +kernel)⟩
theorem lw_p54 : lw_okq (⟨"StreamEndsModel", "breaksIt", "(I)V"⟩, 16) := ⟨⟨by decide +kernel, by decide +kernel⟩, List.mem_of_getElem? (i := 974) (by decide +kernel), List.mem_of_getElem? (i := 1234) (by decide +kernel), List.mem_of_getElem? (i := 1235) (by decide +kernel)⟩
theorem lw_p55 : lw_okq (⟨"StreamEndsModel", "lengthOfIt", "()I"⟩, 16) := ⟨⟨by decide +kernel, by decide +kernel⟩, List.mem_of_getElem? (i := 974) (by decide +kernel), List.mem_of_getElem? (i := 1238) (by decide +kernel), List.mem_of_getElem? (i := 1239) (by decide +kernel)⟩
theorem lw_p56 : lw_okq (⟨"StreamEndsModel", "drops", "(II)I"⟩, 16) := ⟨⟨by decide +kernel, by decide +kernel⟩, List.mem_of_getElem? (i := 974) (by decide +kernel), List.mem_of_getElem? (i := 1242) (by decide +kernel), List.mem_of_getElem? (i := 1243) (by decide +kernel)⟩
theorem lw_p57 : lw_okq (⟨"StreamEndsModel", "inWaiting", "(I)I"⟩, 16) := ⟨⟨by decide +kernel, by decide +kernel⟩, List.mem_of_getElem? (i := 974) (by decide +kernel), List.mem_of_getElem? (i := 1246) (by decide +kernel), List.mem_of_getElem? (i := 1247) (by decide +kernel)⟩
theorem lw_p58 : lw_okq (⟨"StreamEndsModel", "dropsAndBreaks", "(II)I"⟩, 16) := ⟨⟨by decide +kernel, by decide +kernel⟩, List.mem_of_getElem? (i := 974) (by decide +kernel), List.mem_of_getElem? (i := 1250) (by decide +kernel), List.mem_of_getElem? (i := 1251) (by decide +kernel)⟩
theorem lw_p59 : lw_okq (⟨"StreamEndsModel", "inCalling", "(I)I"⟩, 16) := ⟨⟨by decide +kernel, by decide +kernel⟩, List.mem_of_getElem? (i := 974) (by decide +kernel), List.mem_of_getElem? (i := 1254) (by decide +kernel), List.mem_of_getElem? (i := 1255) (by decide +kernel)⟩
theorem lw_p60 : lw_okq (⟨"StreamEndsModel", "means", "(III)I"⟩, 16) := ⟨⟨by decide +kernel, by decide +kernel⟩, List.mem_of_getElem? (i := 974) (by decide +kernel), List.mem_of_getElem? (i := 1258) (by decide +kernel), List.mem_of_getElem? (i := 1259) (by decide +kernel)⟩
theorem lw_p61 : lw_okq (⟨"StreamEndsModel", "hears", "(II)V"⟩, 16) := ⟨⟨by decide +kernel, by decide +kernel⟩, List.mem_of_getElem? (i := 974) (by decide +kernel), List.mem_of_getElem? (i := 1262) (by decide +kernel), List.mem_of_getElem? (i := 1263) (by decide +kernel)⟩
theorem lw_p62 : lw_okq (⟨"StreamEndsModel", "rounds", "(I)V"⟩, 16) := ⟨⟨by decide +kernel, by decide +kernel⟩, List.mem_of_getElem? (i := 974) (by decide +kernel), List.mem_of_getElem? (i := 1266) (by decide +kernel), List.mem_of_getElem? (i := 1267) (by decide +kernel)⟩
theorem lw_p63 : lw_okq (⟨"StreamEndsModel", "inOthers", "(I)I"⟩, 16) := ⟨⟨by decide +kernel, by decide +kernel⟩, List.mem_of_getElem? (i := 974) (by decide +kernel), List.mem_of_getElem? (i := 1270) (by decide +kernel), List.mem_of_getElem? (i := 1271) (by decide +kernel)⟩
def lw_privs_4 : List (MethodName × Nat) := [(⟨"StreamEndsModel", "yes", "(I)V"⟩, 16), (⟨"StreamEndsModel", "isLetter", "(I)Z"⟩, 16), (⟨"StreamEndsModel", "arrives", "(I)I"⟩, 16), (⟨"StreamEndsModel", "removes", "(I)V"⟩, 16), (⟨"StreamEndsModel", "inShut", "(I)I"⟩, 16), (⟨"StreamEndsModel", "has", "(I)Z"⟩, 16), (⟨"StreamEndsModel", "breaksIt", "(I)V"⟩, 16), (⟨"StreamEndsModel", "lengthOfIt", "()I"⟩, 16), (⟨"StreamEndsModel", "drops", "(II)I"⟩, 16), (⟨"StreamEndsModel", "inWaiting", "(I)I"⟩, 16), (⟨"StreamEndsModel", "dropsAndBreaks", "(II)I"⟩, 16), (⟨"StreamEndsModel", "inCalling", "(I)I"⟩, 16), (⟨"StreamEndsModel", "means", "(III)I"⟩, 16), (⟨"StreamEndsModel", "hears", "(II)V"⟩, 16), (⟨"StreamEndsModel", "rounds", "(I)V"⟩, 16), (⟨"StreamEndsModel", "inOthers", "(I)I"⟩, 16)]
theorem lw_r4 : ∀ q ∈ lw_privs_4, lw_okq q := List.forall_mem_cons.mpr ⟨lw_p48, List.forall_mem_cons.mpr ⟨lw_p49, List.forall_mem_cons.mpr ⟨lw_p50, List.forall_mem_cons.mpr ⟨lw_p51, List.forall_mem_cons.mpr ⟨lw_p52, List.forall_mem_cons.mpr ⟨lw_p53, List.forall_mem_cons.mpr ⟨lw_p54, List.forall_mem_cons.mpr ⟨lw_p55, List.forall_mem_cons.mpr ⟨lw_p56, List.forall_mem_cons.mpr ⟨lw_p57, List.forall_mem_cons.mpr ⟨lw_p58, List.forall_mem_cons.mpr ⟨lw_p59, List.forall_mem_cons.mpr ⟨lw_p60, List.forall_mem_cons.mpr ⟨lw_p61, List.forall_mem_cons.mpr ⟨lw_p62, List.forall_mem_cons.mpr ⟨lw_p63, fun _ h => absurd h List.not_mem_nil⟩⟩⟩⟩⟩⟩⟩⟩⟩⟩⟩⟩⟩⟩⟩⟩
theorem lw_p64 : lw_okq (⟨"StreamEndsModel", "fits", "(II)Z"⟩, 16) := ⟨⟨by decide +kernel, by decide +kernel⟩, List.mem_of_getElem? (i := 974) (by decide +kernel), List.mem_of_getElem? (i := 1274) (by decide +kernel), List.mem_of_getElem? (i := 1275) (by decide +kernel)⟩
theorem lw_p65 : lw_okq (⟨"StreamEndsModel", "isWanted", "(II)Z"⟩, 16) := ⟨⟨by decide +kernel, by decide +kernel⟩, List.mem_of_getElem? (i := 974) (by decide +kernel), List.mem_of_getElem? (i := 1278) (by decide +kernel), List.mem_of_getElem? (i := 1279) (by decide +kernel)⟩
theorem lw_p66 : lw_okq (⟨"StreamEndsModel", "dropsAndSays", "(III)I"⟩, 16) := ⟨⟨by decide +kernel, by decide +kernel⟩, List.mem_of_getElem? (i := 974) (by decide +kernel), List.mem_of_getElem? (i := 1282) (by decide +kernel), List.mem_of_getElem? (i := 1283) (by decide +kernel)⟩
theorem lw_p67 : lw_okq (⟨"StreamEndsModel", "takesIn", "(III)I"⟩, 16) := ⟨⟨by decide +kernel, by decide +kernel⟩, List.mem_of_getElem? (i := 974) (by decide +kernel), List.mem_of_getElem? (i := 1286) (by decide +kernel), List.mem_of_getElem? (i := 1287) (by decide +kernel)⟩
theorem lw_p68 : lw_okq (⟨"StreamEndsModel", "isByeSent", "(I)Z"⟩, 16) := ⟨⟨by decide +kernel, by decide +kernel⟩, List.mem_of_getElem? (i := 974) (by decide +kernel), List.mem_of_getElem? (i := 1290) (by decide +kernel), List.mem_of_getElem? (i := 1291) (by decide +kernel)⟩
theorem lw_p69 : lw_okq (⟨"StreamEndsModel", "keeps", "(II)V"⟩, 16) := ⟨⟨by decide +kernel, by decide +kernel⟩, List.mem_of_getElem? (i := 974) (by decide +kernel), List.mem_of_getElem? (i := 1294) (by decide +kernel), List.mem_of_getElem? (i := 1295) (by decide +kernel)⟩
theorem lw_p70 : lw_okq (⟨"StreamEndsModel", "doubles", "(I)I"⟩, 16) := ⟨⟨by decide +kernel, by decide +kernel⟩, List.mem_of_getElem? (i := 974) (by decide +kernel), List.mem_of_getElem? (i := 1306) (by decide +kernel), List.mem_of_getElem? (i := 1307) (by decide +kernel)⟩
theorem lw_p71 : lw_okq (⟨"StreamEndsModel", "ticks", "()V"⟩, 16) := ⟨⟨by decide +kernel, by decide +kernel⟩, List.mem_of_getElem? (i := 974) (by decide +kernel), List.mem_of_getElem? (i := 1315) (by decide +kernel), List.mem_of_getElem? (i := 1316) (by decide +kernel)⟩
theorem lw_p72 : lw_okq (⟨"StreamEndsModel", "clocks", "(I)V"⟩, 16) := ⟨⟨by decide +kernel, by decide +kernel⟩, List.mem_of_getElem? (i := 974) (by decide +kernel), List.mem_of_getElem? (i := 1319) (by decide +kernel), List.mem_of_getElem? (i := 1320) (by decide +kernel)⟩
theorem lw_p73 : lw_okq (⟨"StreamEndsModel", "sendsAgain", "(I)V"⟩, 16) := ⟨⟨by decide +kernel, by decide +kernel⟩, List.mem_of_getElem? (i := 974) (by decide +kernel), List.mem_of_getElem? (i := 1323) (by decide +kernel), List.mem_of_getElem? (i := 1324) (by decide +kernel)⟩
theorem lw_p74 : lw_okq (⟨"StreamEndsModel", "isKnown", "(II)Z"⟩, 16) := ⟨⟨by decide +kernel, by decide +kernel⟩, List.mem_of_getElem? (i := 974) (by decide +kernel), List.mem_of_getElem? (i := 1327) (by decide +kernel), List.mem_of_getElem? (i := 1328) (by decide +kernel)⟩
theorem lw_p75 : lw_okq (⟨"StreamEndsModel", "asks", "(I)V"⟩, 16) := ⟨⟨by decide +kernel, by decide +kernel⟩, List.mem_of_getElem? (i := 974) (by decide +kernel), List.mem_of_getElem? (i := 1331) (by decide +kernel), List.mem_of_getElem? (i := 1332) (by decide +kernel)⟩
theorem lw_p76 : lw_okq (⟨"StreamEndsModel", "isCalm", "()Z"⟩, 16) := ⟨⟨by decide +kernel, by decide +kernel⟩, List.mem_of_getElem? (i := 974) (by decide +kernel), List.mem_of_getElem? (i := 1349) (by decide +kernel), List.mem_of_getElem? (i := 1350) (by decide +kernel)⟩
def lw_privs_5 : List (MethodName × Nat) := [(⟨"StreamEndsModel", "fits", "(II)Z"⟩, 16), (⟨"StreamEndsModel", "isWanted", "(II)Z"⟩, 16), (⟨"StreamEndsModel", "dropsAndSays", "(III)I"⟩, 16), (⟨"StreamEndsModel", "takesIn", "(III)I"⟩, 16), (⟨"StreamEndsModel", "isByeSent", "(I)Z"⟩, 16), (⟨"StreamEndsModel", "keeps", "(II)V"⟩, 16), (⟨"StreamEndsModel", "doubles", "(I)I"⟩, 16), (⟨"StreamEndsModel", "ticks", "()V"⟩, 16), (⟨"StreamEndsModel", "clocks", "(I)V"⟩, 16), (⟨"StreamEndsModel", "sendsAgain", "(I)V"⟩, 16), (⟨"StreamEndsModel", "isKnown", "(II)Z"⟩, 16), (⟨"StreamEndsModel", "asks", "(I)V"⟩, 16), (⟨"StreamEndsModel", "isCalm", "()Z"⟩, 16)]
theorem lw_r5 : ∀ q ∈ lw_privs_5, lw_okq q := List.forall_mem_cons.mpr ⟨lw_p64, List.forall_mem_cons.mpr ⟨lw_p65, List.forall_mem_cons.mpr ⟨lw_p66, List.forall_mem_cons.mpr ⟨lw_p67, List.forall_mem_cons.mpr ⟨lw_p68, List.forall_mem_cons.mpr ⟨lw_p69, List.forall_mem_cons.mpr ⟨lw_p70, List.forall_mem_cons.mpr ⟨lw_p71, List.forall_mem_cons.mpr ⟨lw_p72, List.forall_mem_cons.mpr ⟨lw_p73, List.forall_mem_cons.mpr ⟨lw_p74, List.forall_mem_cons.mpr ⟨lw_p75, List.forall_mem_cons.mpr ⟨lw_p76, fun _ h => absurd h List.not_mem_nil⟩⟩⟩⟩⟩⟩⟩⟩⟩⟩⟩⟩⟩
def lw_privs : List (MethodName × Nat) := lw_privs_1 ++ (lw_privs_2 ++ (lw_privs_3 ++ (lw_privs_4 ++ (lw_privs_5))))
def lw_tbl : List Cond := k2_sels lw_privs ++ tables_1
theorem lw_privs_ok : ∀ q ∈ lw_privs, lw_okq q := by
  show ∀ q ∈ lw_privs_1 ++ (lw_privs_2 ++ (lw_privs_3 ++ (lw_privs_4 ++ (lw_privs_5)))), lw_okq q
  exact List.forall_mem_append.mpr ⟨lw_r1, List.forall_mem_append.mpr ⟨lw_r2, List.forall_mem_append.mpr ⟨lw_r3, List.forall_mem_append.mpr ⟨lw_r4, lw_r5⟩⟩⟩⟩

def RX0 : String := "StreamEnds$Clock"
def TX0 : u_T := fun k => match k with
  | _ => ("StreamEnds$Clock", "now", "I", false)
def tyX0 : Nat → FieldType := fun k => match k with
  | _ => .int
abbrev wsX00 : List Cond := u_ws RX0 TX0 1
theorem nmX0 : ∀ a, a < 1 → ∀ b, b < 1 → a ≠ b → (TX0 a).2.1 ≠ (TX0 b).2.1 := by decide +kernel
theorem tyX0_ok : ∀ k, k < 1 → parseFieldDescriptor (TX0 k).2.2.1 = some (tyX0 k) := by decide +kernel
abbrev cX0_init : ByteArray := prog_2_method_1_code
def yX0_init : MethodName := ⟨RX0, "<init>", "()V"⟩
def RX1 : String := "StreamEnds$Config"
def TX1 : u_T := fun k => match k with
  | 0 => ("StreamEnds$Config", "segmentSize", "I", false)
  | 1 => ("StreamEnds$Config", "bufferSize", "I", false)
  | 2 => ("StreamEnds$Config", "firstOf0", "I", false)
  | 3 => ("StreamEnds$Config", "firstOf1", "I", false)
  | _ => ("StreamEnds$Config", "lifetime", "I", false)
def tyX1 : Nat → FieldType := fun k => match k with
  | 0 => .int
  | 1 => .int
  | 2 => .int
  | 3 => .int
  | _ => .int
abbrev wsX10 : List Cond := u_ws RX1 TX1 5
theorem nmX1 : ∀ a, a < 5 → ∀ b, b < 5 → a ≠ b → (TX1 a).2.1 ≠ (TX1 b).2.1 := by decide +kernel
theorem tyX1_ok : ∀ k, k < 5 → parseFieldDescriptor (TX1 k).2.2.1 = some (tyX1 k) := by decide +kernel
abbrev cX1_init : ByteArray := prog_3_method_1_code
def yX1_init : MethodName := ⟨RX1, "<init>", "()V"⟩
abbrev cX1_setDefaults : ByteArray := prog_3_method_2_code
def yX1_setDefaults : MethodName := ⟨RX1, "setDefaults", "()V"⟩
abbrev cX1_copyFrom : ByteArray := prog_3_method_3_code
def yX1_copyFrom : MethodName := ⟨RX1, "copyFrom", "(LStreamEnds$Config;)V"⟩
abbrev cX1_hasRoom : ByteArray := prog_3_method_4_code
def yX1_hasRoom : MethodName := ⟨RX1, "hasRoom", "()Z"⟩
abbrev cX1_read : ByteArray := prog_3_method_5_code
def yX1_read : MethodName := ⟨RX1, "read", "(LStreamEnds$Text;)I"⟩
abbrev cX1_readItem : ByteArray := prog_3_method_6_code
def yX1_readItem : MethodName := ⟨RX1, "readItem", "(LStreamEnds$Text;I)I"⟩
abbrev cX1_set : ByteArray := prog_3_method_7_code
def yX1_set : MethodName := ⟨RX1, "set", "(III)Z"⟩
abbrev cX1_number : ByteArray := prog_3_method_8_code
def yX1_number : MethodName := ⟨RX1, "number", "(II)I"⟩
abbrev cX1_place : ByteArray := prog_3_method_9_code
def yX1_place : MethodName := ⟨RX1, "place", "(III)I"⟩
def RX2 : String := "StreamEnds$Endpoint"
def TX2 : u_T := fun k => match k with
  | 0 => ("StreamEnds$Endpoint", "index", "I", true)
  | 1 => ("StreamEnds$Endpoint", "config", "LStreamEnds$Config;", true)
  | 2 => ("StreamEnds$Endpoint", "wire", "LStreamEnds$Wire;", true)
  | 3 => ("StreamEnds$Endpoint", "clock", "LStreamEnds$Clock;", true)
  | 4 => ("StreamEnds$Endpoint", "out", "LStreamEnds$Outgoing;", true)
  | 5 => ("StreamEnds$Endpoint", "in", "LStreamEnds$Incoming;", true)
  | 6 => ("StreamEnds$Endpoint", "trips", "LStreamEnds$RoundTrips;", true)
  | 7 => ("StreamEnds$Endpoint", "state", "I", false)
  | 8 => ("StreamEnds$Endpoint", "timer", "I", false)
  | _ => ("StreamEnds$Endpoint", "waitTimer", "I", false)
def tyX2 : Nat → FieldType := fun k => match k with
  | 0 => .int
  | 1 => .object "StreamEnds$Config"
  | 2 => .object "StreamEnds$Wire"
  | 3 => .object "StreamEnds$Clock"
  | 4 => .object "StreamEnds$Outgoing"
  | 5 => .object "StreamEnds$Incoming"
  | 6 => .object "StreamEnds$RoundTrips"
  | 7 => .int
  | 8 => .int
  | _ => .int
abbrev wsX20 : List Cond := u_ws RX2 TX2 10
theorem nmX2 : ∀ a, a < 10 → ∀ b, b < 10 → a ≠ b → (TX2 a).2.1 ≠ (TX2 b).2.1 := by decide +kernel
theorem tyX2_ok : ∀ k, k < 10 → parseFieldDescriptor (TX2 k).2.2.1 = some (tyX2 k) := by decide +kernel
abbrev cX2_init : ByteArray := prog_4_method_1_code
def yX2_init : MethodName := ⟨RX2, "<init>", "(ILStreamEnds$Config;LStreamEnds$Wire;LStreamEnds$Clock;)V"⟩
abbrev cX2_start : ByteArray := prog_4_method_2_code
def yX2_start : MethodName := ⟨RX2, "start", "()V"⟩
abbrev cX2_copyFrom : ByteArray := prog_4_method_3_code
def yX2_copyFrom : MethodName := ⟨RX2, "copyFrom", "(LStreamEnds$Endpoint;)V"⟩
abbrev cX2_mayTransmit : ByteArray := prog_4_method_4_code
def yX2_mayTransmit : MethodName := ⟨RX2, "mayTransmit", "()Z"⟩
abbrev cX2_isReceiving : ByteArray := prog_4_method_5_code
def yX2_isReceiving : MethodName := ⟨RX2, "isReceiving", "()Z"⟩
abbrev cX2_maySay : ByteArray := prog_4_method_6_code
def yX2_maySay : MethodName := ⟨RX2, "maySay", "()Z"⟩
abbrev cX2_isStalled : ByteArray := prog_4_method_7_code
def yX2_isStalled : MethodName := ⟨RX2, "isStalled", "()Z"⟩
abbrev cX2_isBusy : ByteArray := prog_4_method_8_code
def yX2_isBusy : MethodName := ⟨RX2, "isBusy", "()Z"⟩
abbrev cX2_close : ByteArray := prog_4_method_9_code
def yX2_close : MethodName := ⟨RX2, "close", "()V"⟩
abbrev cX2_waitForLate : ByteArray := prog_4_method_10_code
def yX2_waitForLate : MethodName := ⟨RX2, "waitForLate", "()V"⟩
abbrev cX2_adjustTimer : ByteArray := prog_4_method_11_code
def yX2_adjustTimer : MethodName := ⟨RX2, "adjustTimer", "()V"⟩
abbrev cX2_draft : ByteArray := prog_4_method_12_code
def yX2_draft : MethodName := ⟨RX2, "draft", "(II)LStreamEnds$Segment;"⟩
abbrev cX2_sendFirstSyn : ByteArray := prog_4_method_13_code
def yX2_sendFirstSyn : MethodName := ⟨RX2, "sendFirstSyn", "()V"⟩
abbrev cX2_sendSyn : ByteArray := prog_4_method_14_code
def yX2_sendSyn : MethodName := ⟨RX2, "sendSyn", "()V"⟩
abbrev cX2_sendAck : ByteArray := prog_4_method_15_code
def yX2_sendAck : MethodName := ⟨RX2, "sendAck", "()V"⟩
abbrev cX2_sendReset : ByteArray := prog_4_method_16_code
def yX2_sendReset : MethodName := ⟨RX2, "sendReset", "(I)V"⟩
abbrev cX2_sendResetFor : ByteArray := prog_4_method_17_code
def yX2_sendResetFor : MethodName := ⟨RX2, "sendResetFor", "(LStreamEnds$Segment;)V"⟩
abbrev cX2_sendData : ByteArray := prog_4_method_18_code
def yX2_sendData : MethodName := ⟨RX2, "sendData", "(IIZ)V"⟩
abbrev cX2_transmit : ByteArray := prog_4_method_19_code
def yX2_transmit : MethodName := ⟨RX2, "transmit", "()V"⟩
abbrev cX2_widenWindow : ByteArray := prog_4_method_20_code
def yX2_widenWindow : MethodName := ⟨RX2, "widenWindow", "()V"⟩
abbrev cX2_tick : ByteArray := prog_4_method_21_code
def yX2_tick : MethodName := ⟨RX2, "tick", "()V"⟩
abbrev cX2_expire : ByteArray := prog_4_method_22_code
def yX2_expire : MethodName := ⟨RX2, "expire", "()V"⟩
abbrev cX2_retransmit : ByteArray := prog_4_method_23_code
def yX2_retransmit : MethodName := ⟨RX2, "retransmit", "()V"⟩
abbrev cX2_value : ByteArray := prog_4_method_24_code
def yX2_value : MethodName := ⟨RX2, "value", "(I)I"⟩
def RX3 : String := "StreamEnds$Incoming"
def TX3 : u_T := fun k => match k with
  | 0 => ("StreamEnds$Incoming", "expected", "I", false)
  | 1 => ("StreamEnds$Incoming", "consumed", "I", false)
  | 2 => ("StreamEnds$Incoming", "limit", "I", false)
  | 3 => ("StreamEnds$Incoming", "fin", "I", false)
  | 4 => ("StreamEnds$Incoming", "urged", "I", false)
  | 5 => ("StreamEnds$Incoming", "held", "J", false)
  | _ => ("StreamEnds$Incoming", "bytes", "[I", true)
def tyX3 : Nat → FieldType := fun k => match k with
  | 0 => .int
  | 1 => .int
  | 2 => .int
  | 3 => .int
  | 4 => .int
  | 5 => .long
  | _ => .array .int
abbrev wsX30 : List Cond := u_ws RX3 TX3 7
theorem nmX3 : ∀ a, a < 7 → ∀ b, b < 7 → a ≠ b → (TX3 a).2.1 ≠ (TX3 b).2.1 := by decide +kernel
theorem tyX3_ok : ∀ k, k < 7 → parseFieldDescriptor (TX3 k).2.2.1 = some (tyX3 k) := by decide +kernel
abbrev cX3_init : ByteArray := prog_5_method_1_code
def yX3_init : MethodName := ⟨RX3, "<init>", "()V"⟩
abbrev cX3_start : ByteArray := prog_5_method_2_code
def yX3_start : MethodName := ⟨RX3, "start", "(I)V"⟩
abbrev cX3_copyFrom : ByteArray := prog_5_method_3_code
def yX3_copyFrom : MethodName := ⟨RX3, "copyFrom", "(LStreamEnds$Incoming;)V"⟩
abbrev cX3_window : ByteArray := prog_5_method_4_code
def yX3_window : MethodName := ⟨RX3, "window", "()I"⟩
abbrev cX3_hasRoomFor : ByteArray := prog_5_method_5_code
def yX3_hasRoomFor : MethodName := ⟨RX3, "hasRoomFor", "(I)Z"⟩
abbrev cX3_fits : ByteArray := prog_5_method_6_code
def yX3_fits : MethodName := ⟨RX3, "fits", "(II)Z"⟩
abbrev cX3_hold : ByteArray := prog_5_method_7_code
def yX3_hold : MethodName := ⟨RX3, "hold", "(II)V"⟩
abbrev cX3_passHeld : ByteArray := prog_5_method_8_code
def yX3_passHeld : MethodName := ⟨RX3, "passHeld", "()V"⟩
abbrev cX3_nextHeld : ByteArray := prog_5_method_9_code
def yX3_nextHeld : MethodName := ⟨RX3, "nextHeld", "(I)I"⟩
abbrev cX3_nextGap : ByteArray := prog_5_method_10_code
def yX3_nextGap : MethodName := ⟨RX3, "nextGap", "(I)I"⟩
abbrev cX3_consumable : ByteArray := prog_5_method_11_code
def yX3_consumable : MethodName := ⟨RX3, "consumable", "()I"⟩
abbrev cX3_consume : ByteArray := prog_5_method_12_code
def yX3_consume : MethodName := ⟨RX3, "consume", "()I"⟩
def RX4 : String := "StreamEnds$Network"
def TX4 : u_T := fun k => match k with
  | 0 => ("StreamEnds$Network", "config", "LStreamEnds$Config;", true)
  | 1 => ("StreamEnds$Network", "wire", "LStreamEnds$Wire;", true)
  | 2 => ("StreamEnds$Network", "clock", "LStreamEnds$Clock;", true)
  | 3 => ("StreamEnds$Network", "zero", "LStreamEnds$Endpoint;", true)
  | 4 => ("StreamEnds$Network", "one", "LStreamEnds$Endpoint;", true)
  | 5 => ("StreamEnds$Network", "atZero", "LStreamEnds$Receiver;", true)
  | 6 => ("StreamEnds$Network", "atOne", "LStreamEnds$Receiver;", true)
  | 7 => ("StreamEnds$Network", "reason", "I", false)
  | 8 => ("StreamEnds$Network", "cause", "I", false)
  | _ => ("StreamEnds$Network", "dropped", "I", false)
def tyX4 : Nat → FieldType := fun k => match k with
  | 0 => .object "StreamEnds$Config"
  | 1 => .object "StreamEnds$Wire"
  | 2 => .object "StreamEnds$Clock"
  | 3 => .object "StreamEnds$Endpoint"
  | 4 => .object "StreamEnds$Endpoint"
  | 5 => .object "StreamEnds$Receiver"
  | 6 => .object "StreamEnds$Receiver"
  | 7 => .int
  | 8 => .int
  | _ => .int
abbrev wsX40 : List Cond := u_ws RX4 TX4 10
theorem nmX4 : ∀ a, a < 10 → ∀ b, b < 10 → a ≠ b → (TX4 a).2.1 ≠ (TX4 b).2.1 := by decide +kernel
theorem tyX4_ok : ∀ k, k < 10 → parseFieldDescriptor (TX4 k).2.2.1 = some (tyX4 k) := by decide +kernel
abbrev cX4_init : ByteArray := prog_6_method_1_code
def yX4_init : MethodName := ⟨RX4, "<init>", "()V"⟩
abbrev cX4_setUp : ByteArray := prog_6_method_2_code
def yX4_setUp : MethodName := ⟨RX4, "setUp", "(LStreamEnds$Config;)V"⟩
abbrev cX4_copyFrom : ByteArray := prog_6_method_3_code
def yX4_copyFrom : MethodName := ⟨RX4, "copyFrom", "(LStreamEnds$Network;)V"⟩
abbrev cX4_endpoint : ByteArray := prog_6_method_4_code
def yX4_endpoint : MethodName := ⟨RX4, "endpoint", "(I)LStreamEnds$Endpoint;"⟩
abbrev cX4_isBusy : ByteArray := prog_6_method_5_code
def yX4_isBusy : MethodName := ⟨RX4, "isBusy", "()Z"⟩
abbrev cX4_deliver : ByteArray := prog_6_method_6_code
def yX4_deliver : MethodName := ⟨RX4, "deliver", "(I)Z"⟩
abbrev cX4_tick : ByteArray := prog_6_method_7_code
def yX4_tick : MethodName := ⟨RX4, "tick", "()V"⟩
def RX5 : String := "StreamEnds$Outgoing"
def TX5 : u_T := fun k => match k with
  | 0 => ("StreamEnds$Outgoing", "acked", "I", false)
  | 1 => ("StreamEnds$Outgoing", "sent", "I", false)
  | 2 => ("StreamEnds$Outgoing", "edge", "I", false)
  | 3 => ("StreamEnds$Outgoing", "written", "I", false)
  | 4 => ("StreamEnds$Outgoing", "urgent", "I", false)
  | 5 => ("StreamEnds$Outgoing", "releasing", "Z", false)
  | 6 => ("StreamEnds$Outgoing", "marks", "J", false)
  | _ => ("StreamEnds$Outgoing", "bytes", "[I", true)
def tyX5 : Nat → FieldType := fun k => match k with
  | 0 => .int
  | 1 => .int
  | 2 => .int
  | 3 => .int
  | 4 => .int
  | 5 => .boolean
  | 6 => .long
  | _ => .array .int
abbrev wsX50 : List Cond := u_ws RX5 TX5 8
theorem nmX5 : ∀ a, a < 8 → ∀ b, b < 8 → a ≠ b → (TX5 a).2.1 ≠ (TX5 b).2.1 := by decide +kernel
theorem tyX5_ok : ∀ k, k < 8 → parseFieldDescriptor (TX5 k).2.2.1 = some (tyX5 k) := by decide +kernel
abbrev cX5_init : ByteArray := prog_7_method_1_code
def yX5_init : MethodName := ⟨RX5, "<init>", "()V"⟩
abbrev cX5_start : ByteArray := prog_7_method_2_code
def yX5_start : MethodName := ⟨RX5, "start", "()V"⟩
abbrev cX5_copyFrom : ByteArray := prog_7_method_3_code
def yX5_copyFrom : MethodName := ⟨RX5, "copyFrom", "(LStreamEnds$Outgoing;)V"⟩
abbrev cX5_append : ByteArray := prog_7_method_4_code
def yX5_append : MethodName := ⟨RX5, "append", "(I)V"⟩
abbrev cX5_byteAt : ByteArray := prog_7_method_5_code
def yX5_byteAt : MethodName := ⟨RX5, "byteAt", "(I)I"⟩
abbrev cX5_pending : ByteArray := prog_7_method_6_code
def yX5_pending : MethodName := ⟨RX5, "pending", "()I"⟩
abbrev cX5_unsent : ByteArray := prog_7_method_7_code
def yX5_unsent : MethodName := ⟨RX5, "unsent", "()I"⟩
abbrev cX5_sendable : ByteArray := prog_7_method_8_code
def yX5_sendable : MethodName := ⟨RX5, "sendable", "(I)I"⟩
abbrev cX5_finPlace : ByteArray := prog_7_method_9_code
def yX5_finPlace : MethodName := ⟨RX5, "finPlace", "()I"⟩
abbrev cX5_isFinSent : ByteArray := prog_7_method_10_code
def yX5_isFinSent : MethodName := ⟨RX5, "isFinSent", "()Z"⟩
abbrev cX5_isFinAcked : ByteArray := prog_7_method_11_code
def yX5_isFinAcked : MethodName := ⟨RX5, "isFinAcked", "()Z"⟩
abbrev cX5_isMarked : ByteArray := prog_7_method_12_code
def yX5_isMarked : MethodName := ⟨RX5, "isMarked", "(I)Z"⟩
abbrev cX5_mark : ByteArray := prog_7_method_13_code
def yX5_mark : MethodName := ⟨RX5, "mark", "(II)V"⟩
abbrev cX5_acknowledge : ByteArray := prog_7_method_14_code
def yX5_acknowledge : MethodName := ⟨RX5, "acknowledge", "(I)V"⟩
abbrev cX5_firstUnmarked : ByteArray := prog_7_method_15_code
def yX5_firstUnmarked : MethodName := ⟨RX5, "firstUnmarked", "()I"⟩
abbrev cX5_resendable : ByteArray := prog_7_method_16_code
def yX5_resendable : MethodName := ⟨RX5, "resendable", "(II)I"⟩
def RX6 : String := "StreamEnds$Receiver"
def TX6 : u_T := fun k => match k with
  | 0 => ("StreamEnds$Receiver", "end", "LStreamEnds$Endpoint;", true)
  | 1 => ("StreamEnds$Receiver", "reason", "I", false)
  | _ => ("StreamEnds$Receiver", "cause", "I", false)
def tyX6 : Nat → FieldType := fun k => match k with
  | 0 => .object "StreamEnds$Endpoint"
  | 1 => .int
  | _ => .int
abbrev wsX60 : List Cond := u_ws RX6 TX6 3
theorem nmX6 : ∀ a, a < 3 → ∀ b, b < 3 → a ≠ b → (TX6 a).2.1 ≠ (TX6 b).2.1 := by decide +kernel
theorem tyX6_ok : ∀ k, k < 3 → parseFieldDescriptor (TX6 k).2.2.1 = some (tyX6 k) := by decide +kernel
abbrev cX6_init : ByteArray := prog_8_method_1_code
def yX6_init : MethodName := ⟨RX6, "<init>", "(LStreamEnds$Endpoint;)V"⟩
abbrev cX6_receive : ByteArray := prog_8_method_2_code
def yX6_receive : MethodName := ⟨RX6, "receive", "(LStreamEnds$Segment;)V"⟩
abbrev cX6_receiveClosed : ByteArray := prog_8_method_3_code
def yX6_receiveClosed : MethodName := ⟨RX6, "receiveClosed", "(LStreamEnds$Segment;)V"⟩
abbrev cX6_receiveListening : ByteArray := prog_8_method_4_code
def yX6_receiveListening : MethodName := ⟨RX6, "receiveListening", "(LStreamEnds$Segment;)V"⟩
abbrev cX6_receiveConnecting : ByteArray := prog_8_method_5_code
def yX6_receiveConnecting : MethodName := ⟨RX6, "receiveConnecting", "(LStreamEnds$Segment;)V"⟩
abbrev cX6_receiveOpen : ByteArray := prog_8_method_6_code
def yX6_receiveOpen : MethodName := ⟨RX6, "receiveOpen", "(LStreamEnds$Segment;)V"⟩
abbrev cX6_refuse : ByteArray := prog_8_method_7_code
def yX6_refuse : MethodName := ⟨RX6, "refuse", "(LStreamEnds$Segment;I)V"⟩
abbrev cX6_accept : ByteArray := prog_8_method_8_code
def yX6_accept : MethodName := ⟨RX6, "accept", "(LStreamEnds$Segment;I)V"⟩
abbrev cX6_acknowledge : ByteArray := prog_8_method_9_code
def yX6_acknowledge : MethodName := ⟨RX6, "acknowledge", "(LStreamEnds$Segment;I)V"⟩
abbrev cX6_keepBytes : ByteArray := prog_8_method_10_code
def yX6_keepBytes : MethodName := ⟨RX6, "keepBytes", "(LStreamEnds$Segment;I)V"⟩
abbrev cX6_ownPlace : ByteArray := prog_8_method_11_code
def yX6_ownPlace : MethodName := ⟨RX6, "ownPlace", "(I)I"⟩
abbrev cX6_peerPlace : ByteArray := prog_8_method_12_code
def yX6_peerPlace : MethodName := ⟨RX6, "peerPlace", "(I)I"⟩
def RX7 : String := "StreamEnds$RoundTrips"
def TX7 : u_T := fun k => match k with
  | 0 => ("StreamEnds$RoundTrips", "timeout", "I", false)
  | 1 => ("StreamEnds$RoundTrips", "smoothed", "I", false)
  | 2 => ("StreamEnds$RoundTrips", "spread", "I", false)
  | 3 => ("StreamEnds$RoundTrips", "timed", "I", false)
  | 4 => ("StreamEnds$RoundTrips", "timedAt", "I", false)
  | 5 => ("StreamEnds$RoundTrips", "measured", "I", false)
  | _ => ("StreamEnds$RoundTrips", "latest", "[I", true)
def tyX7 : Nat → FieldType := fun k => match k with
  | 0 => .int
  | 1 => .int
  | 2 => .int
  | 3 => .int
  | 4 => .int
  | 5 => .int
  | _ => .array .int
abbrev wsX70 : List Cond := u_ws RX7 TX7 7
theorem nmX7 : ∀ a, a < 7 → ∀ b, b < 7 → a ≠ b → (TX7 a).2.1 ≠ (TX7 b).2.1 := by decide +kernel
theorem tyX7_ok : ∀ k, k < 7 → parseFieldDescriptor (TX7 k).2.2.1 = some (tyX7 k) := by decide +kernel
abbrev cX7_init : ByteArray := prog_9_method_1_code
def yX7_init : MethodName := ⟨RX7, "<init>", "()V"⟩
abbrev cX7_start : ByteArray := prog_9_method_2_code
def yX7_start : MethodName := ⟨RX7, "start", "()V"⟩
abbrev cX7_copyFrom : ByteArray := prog_9_method_3_code
def yX7_copyFrom : MethodName := ⟨RX7, "copyFrom", "(LStreamEnds$RoundTrips;)V"⟩
abbrev cX7_startTiming : ByteArray := prog_9_method_4_code
def yX7_startTiming : MethodName := ⟨RX7, "startTiming", "(II)V"⟩
abbrev cX7_acknowledge : ByteArray := prog_9_method_5_code
def yX7_acknowledge : MethodName := ⟨RX7, "acknowledge", "(II)V"⟩
abbrev cX7_measure : ByteArray := prog_9_method_6_code
def yX7_measure : MethodName := ⟨RX7, "measure", "(I)V"⟩
abbrev cX7_doubleTimeout : ByteArray := prog_9_method_7_code
def yX7_doubleTimeout : MethodName := ⟨RX7, "doubleTimeout", "()V"⟩
abbrev cX7_roundTrip : ByteArray := prog_9_method_8_code
def yX7_roundTrip : MethodName := ⟨RX7, "roundTrip", "(I)I"⟩
def RX8 : String := "StreamEnds$Segment"
def TX8 : u_T := fun k => match k with
  | 0 => ("StreamEnds$Segment", "sender", "I", false)
  | 1 => ("StreamEnds$Segment", "flags", "I", false)
  | 2 => ("StreamEnds$Segment", "number", "I", false)
  | 3 => ("StreamEnds$Segment", "ack", "I", false)
  | 4 => ("StreamEnds$Segment", "window", "I", false)
  | 5 => ("StreamEnds$Segment", "urgent", "I", false)
  | 6 => ("StreamEnds$Segment", "byteCount", "I", false)
  | 7 => ("StreamEnds$Segment", "bytes", "[I", true)
  | 8 => ("StreamEnds$Segment", "rangeCount", "I", false)
  | _ => ("StreamEnds$Segment", "ranges", "[I", true)
def tyX8 : Nat → FieldType := fun k => match k with
  | 0 => .int
  | 1 => .int
  | 2 => .int
  | 3 => .int
  | 4 => .int
  | 5 => .int
  | 6 => .int
  | 7 => .array .int
  | 8 => .int
  | _ => .array .int
abbrev wsX80 : List Cond := u_ws RX8 TX8 10
theorem nmX8 : ∀ a, a < 10 → ∀ b, b < 10 → a ≠ b → (TX8 a).2.1 ≠ (TX8 b).2.1 := by decide +kernel
theorem tyX8_ok : ∀ k, k < 10 → parseFieldDescriptor (TX8 k).2.2.1 = some (tyX8 k) := by decide +kernel
abbrev cX8_init : ByteArray := prog_10_method_1_code
def yX8_init : MethodName := ⟨RX8, "<init>", "()V"⟩
abbrev cX8_begin : ByteArray := prog_10_method_2_code
def yX8_begin : MethodName := ⟨RX8, "begin", "(III)V"⟩
abbrev cX8_copyFrom : ByteArray := prog_10_method_3_code
def yX8_copyFrom : MethodName := ⟨RX8, "copyFrom", "(LStreamEnds$Segment;)V"⟩
abbrev cX8_has : ByteArray := prog_10_method_4_code
def yX8_has : MethodName := ⟨RX8, "has", "(I)Z"⟩
abbrev cX8_length : ByteArray := prog_10_method_5_code
def yX8_length : MethodName := ⟨RX8, "length", "()I"⟩
abbrev cX8_addByte : ByteArray := prog_10_method_6_code
def yX8_addByte : MethodName := ⟨RX8, "addByte", "(I)V"⟩
abbrev cX8_byteAt : ByteArray := prog_10_method_7_code
def yX8_byteAt : MethodName := ⟨RX8, "byteAt", "(I)I"⟩
abbrev cX8_addRange : ByteArray := prog_10_method_8_code
def yX8_addRange : MethodName := ⟨RX8, "addRange", "(II)V"⟩
abbrev cX8_rangeNumber : ByteArray := prog_10_method_9_code
def yX8_rangeNumber : MethodName := ⟨RX8, "rangeNumber", "(I)I"⟩
abbrev cX8_property : ByteArray := prog_10_method_10_code
def yX8_property : MethodName := ⟨RX8, "property", "(I)I"⟩
def RX9 : String := "StreamEnds$Text"
def TX9 : u_T := fun k => match k with
  | 0 => ("StreamEnds$Text", "codes", "[I", true)
  | _ => ("StreamEnds$Text", "length", "I", false)
def tyX9 : Nat → FieldType := fun k => match k with
  | 0 => .array .int
  | _ => .int
abbrev wsX90 : List Cond := u_ws RX9 TX9 2
theorem nmX9 : ∀ a, a < 2 → ∀ b, b < 2 → a ≠ b → (TX9 a).2.1 ≠ (TX9 b).2.1 := by decide +kernel
theorem tyX9_ok : ∀ k, k < 2 → parseFieldDescriptor (TX9 k).2.2.1 = some (tyX9 k) := by decide +kernel
abbrev cX9_init : ByteArray := prog_11_method_1_code
def yX9_init : MethodName := ⟨RX9, "<init>", "()V"⟩
abbrev cX9_append : ByteArray := prog_11_method_2_code
def yX9_append : MethodName := ⟨RX9, "append", "(I)Z"⟩
abbrev cX9_at : ByteArray := prog_11_method_3_code
def yX9_at : MethodName := ⟨RX9, "at", "(I)I"⟩
abbrev cX9_isDigit : ByteArray := prog_11_method_4_code
def yX9_isDigit : MethodName := ⟨RX9, "isDigit", "(I)Z"⟩
abbrev cX9_digitsEnd : ByteArray := prog_11_method_5_code
def yX9_digitsEnd : MethodName := ⟨RX9, "digitsEnd", "(I)I"⟩
abbrev cX9_number : ByteArray := prog_11_method_6_code
def yX9_number : MethodName := ⟨RX9, "number", "(II)I"⟩
def RX10 : String := "StreamEnds$Wire"
def TX10 : u_T := fun k => match k with
  | 0 => ("StreamEnds$Wire", "slots", "[LStreamEnds$Segment;", true)
  | 1 => ("StreamEnds$Wire", "removed", "LStreamEnds$Segment;", false)
  | 2 => ("StreamEnds$Wire", "size", "I", false)
  | 3 => ("StreamEnds$Wire", "sent", "I", false)
  | 4 => ("StreamEnds$Wire", "lost", "I", false)
  | _ => ("StreamEnds$Wire", "resent", "I", false)
def tyX10 : Nat → FieldType := fun k => match k with
  | 0 => .array (.object "StreamEnds$Segment")
  | 1 => .object "StreamEnds$Segment"
  | 2 => .int
  | 3 => .int
  | 4 => .int
  | _ => .int
abbrev wsX100 : List Cond := u_ws RX10 TX10 6
theorem nmX10 : ∀ a, a < 6 → ∀ b, b < 6 → a ≠ b → (TX10 a).2.1 ≠ (TX10 b).2.1 := by decide +kernel
theorem tyX10_ok : ∀ k, k < 6 → parseFieldDescriptor (TX10 k).2.2.1 = some (tyX10 k) := by decide +kernel
abbrev cX10_init : ByteArray := prog_12_method_1_code
def yX10_init : MethodName := ⟨RX10, "<init>", "()V"⟩
abbrev cX10_clear : ByteArray := prog_12_method_2_code
def yX10_clear : MethodName := ⟨RX10, "clear", "()V"⟩
abbrev cX10_copyFrom : ByteArray := prog_12_method_3_code
def yX10_copyFrom : MethodName := ⟨RX10, "copyFrom", "(LStreamEnds$Wire;)V"⟩
abbrev cX10_has : ByteArray := prog_12_method_4_code
def yX10_has : MethodName := ⟨RX10, "has", "(I)Z"⟩
abbrev cX10_at : ByteArray := prog_12_method_5_code
def yX10_at : MethodName := ⟨RX10, "at", "(I)LStreamEnds$Segment;"⟩
abbrev cX10_draft : ByteArray := prog_12_method_6_code
def yX10_draft : MethodName := ⟨RX10, "draft", "()LStreamEnds$Segment;"⟩
abbrev cX10_sendDraft : ByteArray := prog_12_method_7_code
def yX10_sendDraft : MethodName := ⟨RX10, "sendDraft", "()V"⟩
abbrev cX10_remove : ByteArray := prog_12_method_8_code
def yX10_remove : MethodName := ⟨RX10, "remove", "(I)LStreamEnds$Segment;"⟩
abbrev cX10_duplicate : ByteArray := prog_12_method_9_code
def yX10_duplicate : MethodName := ⟨RX10, "duplicate", "(I)Z"⟩
def RX11 : String := "StreamEnds"
def TX11 : u_T := fun k => match k with
  | 0 => ("StreamEnds", "text", "LStreamEnds$Text;", true)
  | 1 => ("StreamEnds", "described", "LStreamEnds$Config;", true)
  | 2 => ("StreamEnds", "network", "LStreamEnds$Network;", true)
  | _ => ("StreamEnds", "rehearsal", "LStreamEnds$Network;", true)
def tyX11 : Nat → FieldType := fun k => match k with
  | 0 => .object "StreamEnds$Text"
  | 1 => .object "StreamEnds$Config"
  | 2 => .object "StreamEnds$Network"
  | _ => .object "StreamEnds$Network"
abbrev wsX110 : List Cond := u_ws RX11 TX11 4
theorem nmX11 : ∀ a, a < 4 → ∀ b, b < 4 → a ≠ b → (TX11 a).2.1 ≠ (TX11 b).2.1 := by decide +kernel
theorem tyX11_ok : ∀ k, k < 4 → parseFieldDescriptor (TX11 k).2.2.1 = some (tyX11 k) := by decide +kernel
abbrev cX11_init : ByteArray := prog_1_method_1_code
def yX11_init : MethodName := ⟨RX11, "<init>", "()V"⟩
abbrev cX11_write : ByteArray := prog_1_method_2_code
def yX11_write : MethodName := ⟨RX11, "write", "(I)I"⟩
abbrev cX11_wipe : ByteArray := prog_1_method_3_code
def yX11_wipe : MethodName := ⟨RX11, "wipe", "()I"⟩
abbrev cX11_fault : ByteArray := prog_1_method_4_code
def yX11_fault : MethodName := ⟨RX11, "fault", "()I"⟩
abbrev cX11_lay : ByteArray := prog_1_method_5_code
def yX11_lay : MethodName := ⟨RX11, "lay", "()I"⟩
abbrev cX11_open : ByteArray := prog_1_method_6_code
def yX11_open : MethodName := ⟨RX11, "open", "(II)I"⟩
abbrev cX11_say : ByteArray := prog_1_method_7_code
def yX11_say : MethodName := ⟨RX11, "say", "(II)I"⟩
abbrev cX11_cry : ByteArray := prog_1_method_8_code
def yX11_cry : MethodName := ⟨RX11, "cry", "(I)I"⟩
abbrev cX11_leave : ByteArray := prog_1_method_9_code
def yX11_leave : MethodName := ⟨RX11, "leave", "(I)I"⟩
abbrev cX11_quit : ByteArray := prog_1_method_10_code
def yX11_quit : MethodName := ⟨RX11, "quit", "(I)I"⟩
abbrev cX11_take : ByteArray := prog_1_method_11_code
def yX11_take : MethodName := ⟨RX11, "take", "(I)I"⟩
abbrev cX11_arrive : ByteArray := prog_1_method_12_code
def yX11_arrive : MethodName := ⟨RX11, "arrive", "(I)I"⟩
abbrev cX11_lose : ByteArray := prog_1_method_13_code
def yX11_lose : MethodName := ⟨RX11, "lose", "(I)I"⟩
abbrev cX11_twice : ByteArray := prog_1_method_14_code
def yX11_twice : MethodName := ⟨RX11, "twice", "(I)I"⟩
abbrev cX11_pass : ByteArray := prog_1_method_15_code
def yX11_pass : MethodName := ⟨RX11, "pass", "(I)I"⟩
abbrev cX11_drive : ByteArray := prog_1_method_16_code
def yX11_drive : MethodName := ⟨RX11, "drive", "(II)I"⟩
abbrev cX11_calm : ByteArray := prog_1_method_17_code
def yX11_calm : MethodName := ⟨RX11, "calm", "(I)I"⟩
abbrev cX11_end : ByteArray := prog_1_method_18_code
def yX11_end : MethodName := ⟨RX11, "end", "(II)I"⟩
abbrev cX11_sample : ByteArray := prog_1_method_19_code
def yX11_sample : MethodName := ⟨RX11, "sample", "(II)I"⟩
abbrev cX11_span : ByteArray := prog_1_method_20_code
def yX11_span : MethodName := ⟨RX11, "span", "(III)I"⟩
abbrev cX11_known : ByteArray := prog_1_method_21_code
def yX11_known : MethodName := ⟨RX11, "known", "(II)I"⟩
abbrev cX11_letter : ByteArray := prog_1_method_22_code
def yX11_letter : MethodName := ⟨RX11, "letter", "(II)I"⟩
abbrev cX11_byteOf : ByteArray := prog_1_method_23_code
def yX11_byteOf : MethodName := ⟨RX11, "byteOf", "(II)I"⟩
abbrev cX11_cause : ByteArray := prog_1_method_24_code
def yX11_cause : MethodName := ⟨RX11, "cause", "(I)I"⟩
abbrev cX11_count : ByteArray := prog_1_method_25_code
def yX11_count : MethodName := ⟨RX11, "count", "(I)I"⟩
abbrev cX11_isEnd : ByteArray := prog_1_method_26_code
def yX11_isEnd : MethodName := ⟨RX11, "isEnd", "(I)Z"⟩
def RX12 : String := "StreamEndsModel"
def TX12 : u_T := fun k => match k with
  | 0 => ("StreamEndsModel", "w", "[I", true)
  | 1 => ("StreamEndsModel", "was", "[I", true)
  | 2 => ("StreamEndsModel", "m", "[I", true)
  | 3 => ("StreamEndsModel", "a", "[I", true)
  | 4 => ("StreamEndsModel", "text", "[I", true)
  | 5 => ("StreamEndsModel", "letters", "I", false)
  | 6 => ("StreamEndsModel", "piece", "I", false)
  | 7 => ("StreamEndsModel", "basin", "I", false)
  | 8 => ("StreamEndsModel", "life", "I", false)
  | 9 => ("StreamEndsModel", "first", "[I", true)
  | 10 => ("StreamEndsModel", "here", "I", false)
  | 11 => ("StreamEndsModel", "told", "I", false)
  | 12 => ("StreamEndsModel", "newPiece", "I", false)
  | 13 => ("StreamEndsModel", "newBasin", "I", false)
  | 14 => ("StreamEndsModel", "newLife", "I", false)
  | _ => ("StreamEndsModel", "newFirst", "[I", true)
def tyX12 : Nat → FieldType := fun k => match k with
  | 0 => .array .int
  | 1 => .array .int
  | 2 => .array .int
  | 3 => .array .int
  | 4 => .array .int
  | 5 => .int
  | 6 => .int
  | 7 => .int
  | 8 => .int
  | 9 => .array .int
  | 10 => .int
  | 11 => .int
  | 12 => .int
  | 13 => .int
  | 14 => .int
  | _ => .array .int
abbrev wsX120 : List Cond := u_ws RX12 TX12 16
theorem nmX12 : ∀ a, a < 16 → ∀ b, b < 16 → a ≠ b → (TX12 a).2.1 ≠ (TX12 b).2.1 := by decide +kernel
theorem tyX12_ok : ∀ k, k < 16 → parseFieldDescriptor (TX12 k).2.2.1 = some (tyX12 k) := by decide +kernel
abbrev cX12_init : ByteArray := prog_14_method_1_code
def yX12_init : MethodName := ⟨RX12, "<init>", "()V"⟩
abbrev cX12_in : ByteArray := prog_14_method_3_code
def yX12_in : MethodName := ⟨RX12, "in", "(JJJ)Z"⟩
abbrev cX12_lesser : ByteArray := prog_14_method_4_code
def yX12_lesser : MethodName := ⟨RX12, "lesser", "(II)I"⟩
abbrev cX12_greater : ByteArray := prog_14_method_5_code
def yX12_greater : MethodName := ⟨RX12, "greater", "(II)I"⟩
abbrev cX12_get : ByteArray := prog_14_method_6_code
def yX12_get : MethodName := ⟨RX12, "get", "(II)I"⟩
abbrev cX12_set : ByteArray := prog_14_method_7_code
def yX12_set : MethodName := ⟨RX12, "set", "(III)V"⟩
abbrev cX12_isFigure : ByteArray := prog_14_method_8_code
def yX12_isFigure : MethodName := ⟨RX12, "isFigure", "()Z"⟩
abbrev cX12_readsNumber : ByteArray := prog_14_method_9_code
def yX12_readsNumber : MethodName := ⟨RX12, "readsNumber", "(III)Z"⟩
abbrev cX12_readsItem : ByteArray := prog_14_method_10_code
def yX12_readsItem : MethodName := ⟨RX12, "readsItem", "()Z"⟩
abbrev cX12_reads : ByteArray := prog_14_method_11_code
def yX12_reads : MethodName := ⟨RX12, "reads", "()I"⟩
abbrev cX12_write : ByteArray := prog_14_method_12_code
def yX12_write : MethodName := ⟨RX12, "write", "(I)I"⟩
abbrev cX12_wipe : ByteArray := prog_14_method_13_code
def yX12_wipe : MethodName := ⟨RX12, "wipe", "()I"⟩
abbrev cX12_fault : ByteArray := prog_14_method_14_code
def yX12_fault : MethodName := ⟨RX12, "fault", "()I"⟩
abbrev cX12_lay : ByteArray := prog_14_method_15_code
def yX12_lay : MethodName := ⟨RX12, "lay", "()I"⟩
abbrev cX12_begins : ByteArray := prog_14_method_16_code
def yX12_begins : MethodName := ⟨RX12, "begins", "()V"⟩
abbrev cX12_starts : ByteArray := prog_14_method_17_code
def yX12_starts : MethodName := ⟨RX12, "starts", "(I)V"⟩
abbrev cX12_number : ByteArray := prog_14_method_18_code
def yX12_number : MethodName := ⟨RX12, "number", "(II)I"⟩
abbrev cX12_means : ByteArray := prog_14_method_19_code
def yX12_means : MethodName := ⟨RX12, "means", "(III)I"⟩
abbrev cX12_isHeld : ByteArray := prog_14_method_20_code
def yX12_isHeld : MethodName := ⟨RX12, "isHeld", "(II)Z"⟩
abbrev cX12_isKnown : ByteArray := prog_14_method_21_code
def yX12_isKnown : MethodName := ⟨RX12, "isKnown", "(II)Z"⟩
abbrev cX12_saidFrom : ByteArray := prog_14_method_22_code
def yX12_saidFrom : MethodName := ⟨RX12, "saidFrom", "(II)I"⟩
abbrev cX12_isByeSent : ByteArray := prog_14_method_23_code
def yX12_isByeSent : MethodName := ⟨RX12, "isByeSent", "(I)Z"⟩
abbrev cX12_isIn : ByteArray := prog_14_method_24_code
def yX12_isIn : MethodName := ⟨RX12, "isIn", "(III)Z"⟩
abbrev cX12_isBlocked : ByteArray := prog_14_method_25_code
def yX12_isBlocked : MethodName := ⟨RX12, "isBlocked", "(I)Z"⟩
abbrev cX12_makes : ByteArray := prog_14_method_26_code
def yX12_makes : MethodName := ⟨RX12, "makes", "(III)V"⟩
abbrev cX12_nextHeld : ByteArray := prog_14_method_27_code
def yX12_nextHeld : MethodName := ⟨RX12, "nextHeld", "(IIZ)I"⟩
abbrev cX12_spans : ByteArray := prog_14_method_28_code
def yX12_spans : MethodName := ⟨RX12, "spans", "(I)V"⟩
abbrev cX12_posts : ByteArray := prog_14_method_29_code
def yX12_posts : MethodName := ⟨RX12, "posts", "()V"⟩
abbrev cX12_times : ByteArray := prog_14_method_30_code
def yX12_times : MethodName := ⟨RX12, "times", "(II)V"⟩
abbrev cX12_yes : ByteArray := prog_14_method_31_code
def yX12_yes : MethodName := ⟨RX12, "yes", "(I)V"⟩
abbrev cX12_hello : ByteArray := prog_14_method_32_code
def yX12_hello : MethodName := ⟨RX12, "hello", "(I)V"⟩
abbrev cX12_data : ByteArray := prog_14_method_33_code
def yX12_data : MethodName := ⟨RX12, "data", "(IIIZ)V"⟩
abbrev cX12_breaks : ByteArray := prog_14_method_34_code
def yX12_breaks : MethodName := ⟨RX12, "breaks", "(II)V"⟩
abbrev cX12_lengthOfIt : ByteArray := prog_14_method_35_code
def yX12_lengthOfIt : MethodName := ⟨RX12, "lengthOfIt", "()I"⟩
abbrev cX12_breaksIt : ByteArray := prog_14_method_36_code
def yX12_breaksIt : MethodName := ⟨RX12, "breaksIt", "(I)V"⟩
abbrev cX12_sends : ByteArray := prog_14_method_37_code
def yX12_sends : MethodName := ⟨RX12, "sends", "(IIZ)V"⟩
abbrev cX12_goesOnce : ByteArray := prog_14_method_38_code
def yX12_goesOnce : MethodName := ⟨RX12, "goesOnce", "(I)Z"⟩
abbrev cX12_goesOn : ByteArray := prog_14_method_39_code
def yX12_goesOn : MethodName := ⟨RX12, "goesOn", "(I)V"⟩
abbrev cX12_shuts : ByteArray := prog_14_method_40_code
def yX12_shuts : MethodName := ⟨RX12, "shuts", "(I)V"⟩
abbrev cX12_settles : ByteArray := prog_14_method_41_code
def yX12_settles : MethodName := ⟨RX12, "settles", "(I)V"⟩
abbrev cX12_isEnd : ByteArray := prog_14_method_42_code
def yX12_isEnd : MethodName := ⟨RX12, "isEnd", "(I)Z"⟩
abbrev cX12_open : ByteArray := prog_14_method_43_code
def yX12_open : MethodName := ⟨RX12, "open", "(II)I"⟩
abbrev cX12_callsOut : ByteArray := prog_14_method_44_code
def yX12_callsOut : MethodName := ⟨RX12, "callsOut", "(I)V"⟩
abbrev cX12_maySay : ByteArray := prog_14_method_45_code
def yX12_maySay : MethodName := ⟨RX12, "maySay", "(I)Z"⟩
abbrev cX12_say : ByteArray := prog_14_method_46_code
def yX12_say : MethodName := ⟨RX12, "say", "(II)I"⟩
abbrev cX12_cry : ByteArray := prog_14_method_47_code
def yX12_cry : MethodName := ⟨RX12, "cry", "(I)I"⟩
abbrev cX12_leave : ByteArray := prog_14_method_48_code
def yX12_leave : MethodName := ⟨RX12, "leave", "(I)I"⟩
abbrev cX12_quit : ByteArray := prog_14_method_49_code
def yX12_quit : MethodName := ⟨RX12, "quit", "(I)I"⟩
abbrev cX12_there : ByteArray := prog_14_method_50_code
def yX12_there : MethodName := ⟨RX12, "there", "(I)I"⟩
abbrev cX12_take : ByteArray := prog_14_method_51_code
def yX12_take : MethodName := ⟨RX12, "take", "(I)I"⟩
abbrev cX12_drops : ByteArray := prog_14_method_52_code
def yX12_drops : MethodName := ⟨RX12, "drops", "(II)I"⟩
abbrev cX12_has : ByteArray := prog_14_method_53_code
def yX12_has : MethodName := ⟨RX12, "has", "(I)Z"⟩
abbrev cX12_dropsAndBreaks : ByteArray := prog_14_method_54_code
def yX12_dropsAndBreaks : MethodName := ⟨RX12, "dropsAndBreaks", "(II)I"⟩
abbrev cX12_dropsAndSays : ByteArray := prog_14_method_55_code
def yX12_dropsAndSays : MethodName := ⟨RX12, "dropsAndSays", "(III)I"⟩
abbrev cX12_inShut : ByteArray := prog_14_method_56_code
def yX12_inShut : MethodName := ⟨RX12, "inShut", "(I)I"⟩
abbrev cX12_inWaiting : ByteArray := prog_14_method_57_code
def yX12_inWaiting : MethodName := ⟨RX12, "inWaiting", "(I)I"⟩
abbrev cX12_inCalling : ByteArray := prog_14_method_58_code
def yX12_inCalling : MethodName := ⟨RX12, "inCalling", "(I)I"⟩
abbrev cX12_rounds : ByteArray := prog_14_method_59_code
def yX12_rounds : MethodName := ⟨RX12, "rounds", "(I)V"⟩
abbrev cX12_hears : ByteArray := prog_14_method_60_code
def yX12_hears : MethodName := ⟨RX12, "hears", "(II)V"⟩
abbrev cX12_isWanted : ByteArray := prog_14_method_61_code
def yX12_isWanted : MethodName := ⟨RX12, "isWanted", "(II)Z"⟩
abbrev cX12_fits : ByteArray := prog_14_method_62_code
def yX12_fits : MethodName := ⟨RX12, "fits", "(II)Z"⟩
abbrev cX12_keeps : ByteArray := prog_14_method_63_code
def yX12_keeps : MethodName := ⟨RX12, "keeps", "(II)V"⟩
abbrev cX12_takesIn : ByteArray := prog_14_method_64_code
def yX12_takesIn : MethodName := ⟨RX12, "takesIn", "(III)I"⟩
abbrev cX12_inOthers : ByteArray := prog_14_method_65_code
def yX12_inOthers : MethodName := ⟨RX12, "inOthers", "(I)I"⟩
abbrev cX12_removes : ByteArray := prog_14_method_66_code
def yX12_removes : MethodName := ⟨RX12, "removes", "(I)V"⟩
abbrev cX12_arrives : ByteArray := prog_14_method_67_code
def yX12_arrives : MethodName := ⟨RX12, "arrives", "(I)I"⟩
abbrev cX12_isLetter : ByteArray := prog_14_method_68_code
def yX12_isLetter : MethodName := ⟨RX12, "isLetter", "(I)Z"⟩
abbrev cX12_arrive : ByteArray := prog_14_method_69_code
def yX12_arrive : MethodName := ⟨RX12, "arrive", "(I)I"⟩
abbrev cX12_lose : ByteArray := prog_14_method_70_code
def yX12_lose : MethodName := ⟨RX12, "lose", "(I)I"⟩
abbrev cX12_doubles : ByteArray := prog_14_method_71_code
def yX12_doubles : MethodName := ⟨RX12, "doubles", "(I)I"⟩
abbrev cX12_twice : ByteArray := prog_14_method_72_code
def yX12_twice : MethodName := ⟨RX12, "twice", "(I)I"⟩
abbrev cX12_sendsAgain : ByteArray := prog_14_method_73_code
def yX12_sendsAgain : MethodName := ⟨RX12, "sendsAgain", "(I)V"⟩
abbrev cX12_asks : ByteArray := prog_14_method_74_code
def yX12_asks : MethodName := ⟨RX12, "asks", "(I)V"⟩
abbrev cX12_clocks : ByteArray := prog_14_method_75_code
def yX12_clocks : MethodName := ⟨RX12, "clocks", "(I)V"⟩
abbrev cX12_ticks : ByteArray := prog_14_method_76_code
def yX12_ticks : MethodName := ⟨RX12, "ticks", "()V"⟩
abbrev cX12_pass : ByteArray := prog_14_method_77_code
def yX12_pass : MethodName := ⟨RX12, "pass", "(I)I"⟩
abbrev cX12_drive : ByteArray := prog_14_method_78_code
def yX12_drive : MethodName := ⟨RX12, "drive", "(II)I"⟩
abbrev cX12_isCalm : ByteArray := prog_14_method_79_code
def yX12_isCalm : MethodName := ⟨RX12, "isCalm", "()Z"⟩
abbrev cX12_calm : ByteArray := prog_14_method_80_code
def yX12_calm : MethodName := ⟨RX12, "calm", "(I)I"⟩
abbrev cX12_end : ByteArray := prog_14_method_81_code
def yX12_end : MethodName := ⟨RX12, "end", "(II)I"⟩
abbrev cX12_sample : ByteArray := prog_14_method_82_code
def yX12_sample : MethodName := ⟨RX12, "sample", "(II)I"⟩
abbrev cX12_span : ByteArray := prog_14_method_83_code
def yX12_span : MethodName := ⟨RX12, "span", "(III)I"⟩
abbrev cX12_known : ByteArray := prog_14_method_84_code
def yX12_known : MethodName := ⟨RX12, "known", "(II)I"⟩
abbrev cX12_letter : ByteArray := prog_14_method_85_code
def yX12_letter : MethodName := ⟨RX12, "letter", "(II)I"⟩
abbrev cX12_byteOf : ByteArray := prog_14_method_86_code
def yX12_byteOf : MethodName := ⟨RX12, "byteOf", "(II)I"⟩
abbrev cX12_cause : ByteArray := prog_14_method_87_code
def yX12_cause : MethodName := ⟨RX12, "cause", "(I)I"⟩
abbrev cX12_count : ByteArray := prog_14_method_88_code
def yX12_count : MethodName := ⟨RX12, "count", "(I)I"⟩
def RJ9 : String := "java/lang/Math"
def TJ9 : u_T := fun k => match k with
  | _ => ("", "", "", false)
def tyJ9 : Nat → FieldType := fun k => match k with
  | _ => .int
theorem nmJ9 : ∀ a, a < 0 → ∀ b, b < 0 → a ≠ b → (TJ9 a).2.1 ≠ (TJ9 b).2.1 := by decide +kernel
theorem tyJ9_ok : ∀ k, k < 0 → parseFieldDescriptor (TJ9 k).2.2.1 = some (tyJ9 k) := by decide +kernel
abbrev cJ9_abs_0f7a4 : ByteArray := prog_15_method_59_code
def yJ9_abs_0f7a4 : MethodName := ⟨RJ9, "abs", "(I)I"⟩
abbrev cJ9_max_7cf53 : ByteArray := prog_15_method_65_code
def yJ9_max_7cf53 : MethodName := ⟨RJ9, "max", "(II)I"⟩
abbrev cJ9_min_7cf53 : ByteArray := prog_15_method_69_code
def yJ9_min_7cf53 : MethodName := ⟨RJ9, "min", "(II)I"⟩
def RJ10 : String := "java/lang/System"
def TJ10 : u_T := fun k => match k with
  | _ => ("", "", "", false)
def tyJ10 : Nat → FieldType := fun k => match k with
  | _ => .int
theorem nmJ10 : ∀ a, a < 0 → ∀ b, b < 0 → a ≠ b → (TJ10 a).2.1 ≠ (TJ10 b).2.1 := by decide +kernel
theorem tyJ10_ok : ∀ k, k < 0 → parseFieldDescriptor (TJ10 k).2.2.1 = some (tyJ10 k) := by decide +kernel
def RL : String := "StreamEndsLaw"
abbrev cL_law : ByteArray := code
def yL_law : MethodName := ⟨RL, "law", "([I)Z"⟩
abbrev vwCl : List vw_C := [(RX0, TX0, 1), (RX1, TX1, 5), (RX2, TX2, 10), (RX3, TX3, 7), (RX4, TX4, 10), (RX5, TX5, 8), (RX6, TX6, 3), (RX7, TX7, 7), (RX8, TX8, 10), (RX9, TX9, 2), (RX10, TX10, 6), (RX11, TX11, 4), (RX12, TX12, 16)]
