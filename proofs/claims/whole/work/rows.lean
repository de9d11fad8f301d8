section
-- ===== PART A: goes FIRST, ahead of the names: the tables' words, and 'selects' of the private methods out of them =====
/-- a private method of a class that the tables say can be made, by its rows of tables_1 -/
def lw_okq (q : MethodName × Nat) : Prop := (q.1.cls ≠ "java/lang/invoke/MethodHandle" ∧ q.1.cls ≠ "java/lang/invoke/VarHandle") ∧ Cond.instantiable q.1.cls q.2 ∈ tables_1 ∧ Cond.privateMethod q.1 ∈ tables_1 ∧ Cond.instanceMethod q.1 ∈ tables_1
theorem lw_p0 : lw_okq (⟨"TelemetryLink", "mixChannels", "(J)J"⟩, 3) := ⟨⟨by decide +kernel, by decide +kernel⟩, List.mem_of_getElem? (i := 22) (by decide +kernel), List.mem_of_getElem? (i := 419) (by decide +kernel), List.mem_of_getElem? (i := 420) (by decide +kernel)⟩
theorem lw_p1 : lw_okq (⟨"java/lang/Throwable", "fillInStackTrace", "(I)Ljava/lang/Throwable;"⟩, 6) := ⟨⟨by decide +kernel, by decide +kernel⟩, List.mem_of_getElem? (i := 468) (by decide +kernel), List.mem_of_getElem? (i := 466) (by decide +kernel), List.mem_of_getElem? (i := 467) (by decide +kernel)⟩
theorem lw_p2 : lw_okq (⟨"TelemetryLink", "sentIdle", "(I)I"⟩, 3) := ⟨⟨by decide +kernel, by decide +kernel⟩, List.mem_of_getElem? (i := 22) (by decide +kernel), List.mem_of_getElem? (i := 522) (by decide +kernel), List.mem_of_getElem? (i := 523) (by decide +kernel)⟩
theorem lw_p3 : lw_okq (⟨"TelemetryLink", "mixWire", "(J)J"⟩, 3) := ⟨⟨by decide +kernel, by decide +kernel⟩, List.mem_of_getElem? (i := 22) (by decide +kernel), List.mem_of_getElem? (i := 530) (by decide +kernel), List.mem_of_getElem? (i := 531) (by decide +kernel)⟩
theorem lw_p4 : lw_okq (⟨"TelemetryLink", "mixCounts", "(J)J"⟩, 3) := ⟨⟨by decide +kernel, by decide +kernel⟩, List.mem_of_getElem? (i := 22) (by decide +kernel), List.mem_of_getElem? (i := 550) (by decide +kernel), List.mem_of_getElem? (i := 551) (by decide +kernel)⟩
theorem lw_p5 : lw_okq (⟨"TelemetryLink", "mixPackets", "(J)J"⟩, 3) := ⟨⟨by decide +kernel, by decide +kernel⟩, List.mem_of_getElem? (i := 22) (by decide +kernel), List.mem_of_getElem? (i := 563) (by decide +kernel), List.mem_of_getElem? (i := 564) (by decide +kernel)⟩
theorem lw_p6 : lw_okq (⟨"TelemetryLink", "mixTimes", "(J)J"⟩, 3) := ⟨⟨by decide +kernel, by decide +kernel⟩, List.mem_of_getElem? (i := 22) (by decide +kernel), List.mem_of_getElem? (i := 577) (by decide +kernel), List.mem_of_getElem? (i := 578) (by decide +kernel)⟩
theorem lw_p7 : lw_okq (⟨"TelemetryLink", "saveState", "()V"⟩, 3) := ⟨⟨by decide +kernel, by decide +kernel⟩, List.mem_of_getElem? (i := 22) (by decide +kernel), List.mem_of_getElem? (i := 611) (by decide +kernel), List.mem_of_getElem? (i := 612) (by decide +kernel)⟩
theorem lw_p8 : lw_okq (⟨"TelemetryLinkModel", "refused", "(I)Z"⟩, 5) := ⟨⟨by decide +kernel, by decide +kernel⟩, List.mem_of_getElem? (i := 924) (by decide +kernel), List.mem_of_getElem? (i := 955) (by decide +kernel), List.mem_of_getElem? (i := 956) (by decide +kernel)⟩
theorem lw_p9 : lw_okq (⟨"TelemetryLinkModel", "pending", "(I)I"⟩, 5) := ⟨⟨by decide +kernel, by decide +kernel⟩, List.mem_of_getElem? (i := 924) (by decide +kernel), List.mem_of_getElem? (i := 963) (by decide +kernel), List.mem_of_getElem? (i := 964) (by decide +kernel)⟩
theorem lw_p10 : lw_okq (⟨"TelemetryLinkModel", "saves", "()V"⟩, 5) := ⟨⟨by decide +kernel, by decide +kernel⟩, List.mem_of_getElem? (i := 924) (by decide +kernel), List.mem_of_getElem? (i := 975) (by decide +kernel), List.mem_of_getElem? (i := 976) (by decide +kernel)⟩
theorem lw_p11 : lw_okq (⟨"TelemetryLinkModel", "packetsIn", "(I)I"⟩, 5) := ⟨⟨by decide +kernel, by decide +kernel⟩, List.mem_of_getElem? (i := 924) (by decide +kernel), List.mem_of_getElem? (i := 1002) (by decide +kernel), List.mem_of_getElem? (i := 1003) (by decide +kernel)⟩
theorem lw_p12 : lw_okq (⟨"TelemetryLinkModel", "puts", "(IIIII)V"⟩, 5) := ⟨⟨by decide +kernel, by decide +kernel⟩, List.mem_of_getElem? (i := 924) (by decide +kernel), List.mem_of_getElem? (i := 1006) (by decide +kernel), List.mem_of_getElem? (i := 1007) (by decide +kernel)⟩
theorem lw_p13 : lw_okq (⟨"TelemetryLinkModel", "queueOf", "(II)I"⟩, 5) := ⟨⟨by decide +kernel, by decide +kernel⟩, List.mem_of_getElem? (i := 924) (by decide +kernel), List.mem_of_getElem? (i := 1015) (by decide +kernel), List.mem_of_getElem? (i := 1016) (by decide +kernel)⟩
theorem lw_p14 : lw_okq (⟨"TelemetryLinkModel", "chosen", "()I"⟩, 5) := ⟨⟨by decide +kernel, by decide +kernel⟩, List.mem_of_getElem? (i := 924) (by decide +kernel), List.mem_of_getElem? (i := 1023) (by decide +kernel), List.mem_of_getElem? (i := 1024) (by decide +kernel)⟩
theorem lw_p15 : lw_okq (⟨"TelemetryLinkModel", "best", "(Z)I"⟩, 5) := ⟨⟨by decide +kernel, by decide +kernel⟩, List.mem_of_getElem? (i := 924) (by decide +kernel), List.mem_of_getElem? (i := 1027) (by decide +kernel), List.mem_of_getElem? (i := 1028) (by decide +kernel)⟩
def lw_privs_1 : List (MethodName × Nat) := [(⟨"TelemetryLink", "mixChannels", "(J)J"⟩, 3), (⟨"java/lang/Throwable", "fillInStackTrace", "(I)Ljava/lang/Throwable;"⟩, 6), (⟨"TelemetryLink", "sentIdle", "(I)I"⟩, 3), (⟨"TelemetryLink", "mixWire", "(J)J"⟩, 3), (⟨"TelemetryLink", "mixCounts", "(J)J"⟩, 3), (⟨"TelemetryLink", "mixPackets", "(J)J"⟩, 3), (⟨"TelemetryLink", "mixTimes", "(J)J"⟩, 3), (⟨"TelemetryLink", "saveState", "()V"⟩, 3), (⟨"TelemetryLinkModel", "refused", "(I)Z"⟩, 5), (⟨"TelemetryLinkModel", "pending", "(I)I"⟩, 5), (⟨"TelemetryLinkModel", "saves", "()V"⟩, 5), (⟨"TelemetryLinkModel", "packetsIn", "(I)I"⟩, 5), (⟨"TelemetryLinkModel", "puts", "(IIIII)V"⟩, 5), (⟨"TelemetryLinkModel", "queueOf", "(II)I"⟩, 5), (⟨"TelemetryLinkModel", "chosen", "()I"⟩, 5), (⟨"TelemetryLinkModel", "best", "(Z)I"⟩, 5)]
theorem lw_r1 : ∀ q ∈ lw_privs_1, lw_okq q := List.forall_mem_cons.mpr ⟨lw_p0, List.forall_mem_cons.mpr ⟨lw_p1, List.forall_mem_cons.mpr ⟨lw_p2, List.forall_mem_cons.mpr ⟨lw_p3, List.forall_mem_cons.mpr ⟨lw_p4, List.forall_mem_cons.mpr ⟨lw_p5, List.forall_mem_cons.mpr ⟨lw_p6, List.forall_mem_cons.mpr ⟨lw_p7, List.forall_mem_cons.mpr ⟨lw_p8, List.forall_mem_cons.mpr ⟨lw_p9, List.forall_mem_cons.mpr ⟨lw_p10, List.forall_mem_cons.mpr ⟨lw_p11, List.forall_mem_cons.mpr ⟨lw_p12, List.forall_mem_cons.mpr ⟨lw_p13, List.forall_mem_cons.mpr ⟨lw_p14, List.forall_mem_cons.mpr ⟨lw_p15, fun _ h => absurd h List.not_mem_nil⟩⟩⟩⟩⟩⟩⟩⟩⟩⟩⟩⟩⟩⟩⟩⟩
theorem lw_p16 : lw_okq (⟨"TelemetryLinkModel", "isOverdue", "(I)Z"⟩, 5) := ⟨⟨by decide +kernel, by decide +kernel⟩, List.mem_of_getElem? (i := 924) (by decide +kernel), List.mem_of_getElem? (i := 1031) (by decide +kernel), List.mem_of_getElem? (i := 1032) (by decide +kernel)⟩
theorem lw_p17 : lw_okq (⟨"TelemetryLinkModel", "isReady", "(I)Z"⟩, 5) := ⟨⟨by decide +kernel, by decide +kernel⟩, List.mem_of_getElem? (i := 924) (by decide +kernel), List.mem_of_getElem? (i := 1035) (by decide +kernel), List.mem_of_getElem? (i := 1036) (by decide +kernel)⟩
theorem lw_p18 : lw_okq (⟨"TelemetryLinkModel", "isAhead", "(IIZ)Z"⟩, 5) := ⟨⟨by decide +kernel, by decide +kernel⟩, List.mem_of_getElem? (i := 924) (by decide +kernel), List.mem_of_getElem? (i := 1039) (by decide +kernel), List.mem_of_getElem? (i := 1040) (by decide +kernel)⟩
theorem lw_p19 : lw_okq (⟨"TelemetryLinkModel", "sendsOne", "()Z"⟩, 5) := ⟨⟨by decide +kernel, by decide +kernel⟩, List.mem_of_getElem? (i := 924) (by decide +kernel), List.mem_of_getElem? (i := 1048) (by decide +kernel), List.mem_of_getElem? (i := 1049) (by decide +kernel)⟩
theorem lw_p20 : lw_okq (⟨"TelemetryLinkModel", "frameAt", "(I)I"⟩, 5) := ⟨⟨by decide +kernel, by decide +kernel⟩, List.mem_of_getElem? (i := 924) (by decide +kernel), List.mem_of_getElem? (i := 1052) (by decide +kernel), List.mem_of_getElem? (i := 1053) (by decide +kernel)⟩
theorem lw_p21 : lw_okq (⟨"TelemetryLinkModel", "clockNow", "()J"⟩, 5) := ⟨⟨by decide +kernel, by decide +kernel⟩, List.mem_of_getElem? (i := 924) (by decide +kernel), List.mem_of_getElem? (i := 1056) (by decide +kernel), List.mem_of_getElem? (i := 1057) (by decide +kernel)⟩
theorem lw_p22 : lw_okq (⟨"TelemetryLinkModel", "takes", "(I)I"⟩, 5) := ⟨⟨by decide +kernel, by decide +kernel⟩, List.mem_of_getElem? (i := 924) (by decide +kernel), List.mem_of_getElem? (i := 1064) (by decide +kernel), List.mem_of_getElem? (i := 1065) (by decide +kernel)⟩
theorem lw_p23 : lw_okq (⟨"TelemetryLinkModel", "byteOf", "(II)I"⟩, 5) := ⟨⟨by decide +kernel, by decide +kernel⟩, List.mem_of_getElem? (i := 924) (by decide +kernel), List.mem_of_getElem? (i := 1068) (by decide +kernel), List.mem_of_getElem? (i := 1069) (by decide +kernel)⟩
theorem lw_p24 : lw_okq (⟨"TelemetryLinkModel", "laysCheck", "(I)V"⟩, 5) := ⟨⟨by decide +kernel, by decide +kernel⟩, List.mem_of_getElem? (i := 924) (by decide +kernel), List.mem_of_getElem? (i := 1072) (by decide +kernel), List.mem_of_getElem? (i := 1073) (by decide +kernel)⟩
theorem lw_p25 : lw_okq (⟨"TelemetryLinkModel", "checked", "(I)I"⟩, 5) := ⟨⟨by decide +kernel, by decide +kernel⟩, List.mem_of_getElem? (i := 924) (by decide +kernel), List.mem_of_getElem? (i := 1076) (by decide +kernel), List.mem_of_getElem? (i := 1077) (by decide +kernel)⟩
theorem lw_p26 : lw_okq (⟨"TelemetryLinkModel", "sentOf", "(II)I"⟩, 5) := ⟨⟨by decide +kernel, by decide +kernel⟩, List.mem_of_getElem? (i := 924) (by decide +kernel), List.mem_of_getElem? (i := 1091) (by decide +kernel), List.mem_of_getElem? (i := 1092) (by decide +kernel)⟩
theorem lw_p27 : lw_okq (⟨"TelemetryLinkModel", "isByte", "(II)Z"⟩, 5) := ⟨⟨by decide +kernel, by decide +kernel⟩, List.mem_of_getElem? (i := 924) (by decide +kernel), List.mem_of_getElem? (i := 1103) (by decide +kernel), List.mem_of_getElem? (i := 1104) (by decide +kernel)⟩
theorem lw_p28 : lw_okq (⟨"TelemetryLinkModel", "isFrame", "(I)Z"⟩, 5) := ⟨⟨by decide +kernel, by decide +kernel⟩, List.mem_of_getElem? (i := 924) (by decide +kernel), List.mem_of_getElem? (i := 1107) (by decide +kernel), List.mem_of_getElem? (i := 1108) (by decide +kernel)⟩
theorem lw_p29 : lw_okq (⟨"TelemetryLinkModel", "checkAt", "(I)I"⟩, 5) := ⟨⟨by decide +kernel, by decide +kernel⟩, List.mem_of_getElem? (i := 924) (by decide +kernel), List.mem_of_getElem? (i := 1119) (by decide +kernel), List.mem_of_getElem? (i := 1120) (by decide +kernel)⟩
theorem lw_p30 : lw_okq (⟨"TelemetryLinkModel", "receives", "(I)I"⟩, 5) := ⟨⟨by decide +kernel, by decide +kernel⟩, List.mem_of_getElem? (i := 924) (by decide +kernel), List.mem_of_getElem? (i := 1131) (by decide +kernel), List.mem_of_getElem? (i := 1132) (by decide +kernel)⟩
theorem lw_p31 : lw_okq (⟨"TelemetryLinkModel", "counts", "(II)V"⟩, 5) := ⟨⟨by decide +kernel, by decide +kernel⟩, List.mem_of_getElem? (i := 924) (by decide +kernel), List.mem_of_getElem? (i := 1135) (by decide +kernel), List.mem_of_getElem? (i := 1136) (by decide +kernel)⟩
def lw_privs_2 : List (MethodName × Nat) := [(⟨"TelemetryLinkModel", "isOverdue", "(I)Z"⟩, 5), (⟨"TelemetryLinkModel", "isReady", "(I)Z"⟩, 5), (⟨"TelemetryLinkModel", "isAhead", "(IIZ)Z"⟩, 5), (⟨"TelemetryLinkModel", "sendsOne", "()Z"⟩, 5), (⟨"TelemetryLinkModel", "frameAt", "(I)I"⟩, 5), (⟨"TelemetryLinkModel", "clockNow", "()J"⟩, 5), (⟨"TelemetryLinkModel", "takes", "(I)I"⟩, 5), (⟨"TelemetryLinkModel", "byteOf", "(II)I"⟩, 5), (⟨"TelemetryLinkModel", "laysCheck", "(I)V"⟩, 5), (⟨"TelemetryLinkModel", "checked", "(I)I"⟩, 5), (⟨"TelemetryLinkModel", "sentOf", "(II)I"⟩, 5), (⟨"TelemetryLinkModel", "isByte", "(II)Z"⟩, 5), (⟨"TelemetryLinkModel", "isFrame", "(I)Z"⟩, 5), (⟨"TelemetryLinkModel", "checkAt", "(I)I"⟩, 5), (⟨"TelemetryLinkModel", "receives", "(I)I"⟩, 5), (⟨"TelemetryLinkModel", "counts", "(II)V"⟩, 5)]
theorem lw_r2 : ∀ q ∈ lw_privs_2, lw_okq q := List.forall_mem_cons.mpr ⟨lw_p16, List.forall_mem_cons.mpr ⟨lw_p17, List.forall_mem_cons.mpr ⟨lw_p18, List.forall_mem_cons.mpr ⟨lw_p19, List.forall_mem_cons.mpr ⟨lw_p20, List.forall_mem_cons.mpr ⟨lw_p21, List.forall_mem_cons.mpr ⟨lw_p22, List.forall_mem_cons.mpr ⟨lw_p23, List.forall_mem_cons.mpr ⟨lw_p24, List.forall_mem_cons.mpr ⟨lw_p25, List.forall_mem_cons.mpr ⟨lw_p26, List.forall_mem_cons.mpr ⟨lw_p27, List.forall_mem_cons.mpr ⟨lw_p28, List.forall_mem_cons.mpr ⟨lw_p29, List.forall_mem_cons.mpr ⟨lw_p30, List.forall_mem_cons.mpr ⟨lw_p31, fun _ h => absurd h List.not_mem_nil⟩⟩⟩⟩⟩⟩⟩⟩⟩⟩⟩⟩⟩⟩⟩⟩
theorem lw_p32 : lw_okq (⟨"TelemetryLinkModel", "gapOf", "(II)I"⟩, 5) := ⟨⟨by decide +kernel, by decide +kernel⟩, List.mem_of_getElem? (i := 924) (by decide +kernel), List.mem_of_getElem? (i := 1139) (by decide +kernel), List.mem_of_getElem? (i := 1140) (by decide +kernel)⟩
theorem lw_p33 : lw_okq (⟨"TelemetryLinkModel", "notes", "(II)V"⟩, 5) := ⟨⟨by decide +kernel, by decide +kernel⟩, List.mem_of_getElem? (i := 924) (by decide +kernel), List.mem_of_getElem? (i := 1143) (by decide +kernel), List.mem_of_getElem? (i := 1144) (by decide +kernel)⟩
theorem lw_p34 : lw_okq (⟨"TelemetryLinkModel", "takesData", "(II)I"⟩, 5) := ⟨⟨by decide +kernel, by decide +kernel⟩, List.mem_of_getElem? (i := 924) (by decide +kernel), List.mem_of_getElem? (i := 1147) (by decide +kernel), List.mem_of_getElem? (i := 1148) (by decide +kernel)⟩
theorem lw_p35 : lw_okq (⟨"TelemetryLinkModel", "appends", "(II)Z"⟩, 5) := ⟨⟨by decide +kernel, by decide +kernel⟩, List.mem_of_getElem? (i := 924) (by decide +kernel), List.mem_of_getElem? (i := 1151) (by decide +kernel), List.mem_of_getElem? (i := 1152) (by decide +kernel)⟩
theorem lw_p36 : lw_okq (⟨"TelemetryLinkModel", "delivers", "(I)Z"⟩, 5) := ⟨⟨by decide +kernel, by decide +kernel⟩, List.mem_of_getElem? (i := 924) (by decide +kernel), List.mem_of_getElem? (i := 1155) (by decide +kernel), List.mem_of_getElem? (i := 1156) (by decide +kernel)⟩
theorem lw_p37 : lw_okq (⟨"TelemetryLinkModel", "receivedOf", "(II)I"⟩, 5) := ⟨⟨by decide +kernel, by decide +kernel⟩, List.mem_of_getElem? (i := 924) (by decide +kernel), List.mem_of_getElem? (i := 1168) (by decide +kernel), List.mem_of_getElem? (i := 1169) (by decide +kernel)⟩
theorem lw_p38 : lw_okq (⟨"TelemetryLinkModel", "isPacket", "(I)Z"⟩, 5) := ⟨⟨by decide +kernel, by decide +kernel⟩, List.mem_of_getElem? (i := 924) (by decide +kernel), List.mem_of_getElem? (i := 1184) (by decide +kernel), List.mem_of_getElem? (i := 1185) (by decide +kernel)⟩
theorem lw_p39 : lw_okq (⟨"TelemetryLinkModel", "mix", "(J)V"⟩, 5) := ⟨⟨by decide +kernel, by decide +kernel⟩, List.mem_of_getElem? (i := 924) (by decide +kernel), List.mem_of_getElem? (i := 1212) (by decide +kernel), List.mem_of_getElem? (i := 1213) (by decide +kernel)⟩
theorem lw_p40 : lw_okq (⟨"TelemetryLinkModel", "mixAll", "(II)V"⟩, 5) := ⟨⟨by decide +kernel, by decide +kernel⟩, List.mem_of_getElem? (i := 924) (by decide +kernel), List.mem_of_getElem? (i := 1217) (by decide +kernel), List.mem_of_getElem? (i := 1218) (by decide +kernel)⟩
theorem lw_p41 : lw_okq (⟨"TelemetryLinkModel", "mixChannel", "(I)V"⟩, 5) := ⟨⟨by decide +kernel, by decide +kernel⟩, List.mem_of_getElem? (i := 924) (by decide +kernel), List.mem_of_getElem? (i := 1221) (by decide +kernel), List.mem_of_getElem? (i := 1222) (by decide +kernel)⟩
def lw_privs_3 : List (MethodName × Nat) := [(⟨"TelemetryLinkModel", "gapOf", "(II)I"⟩, 5), (⟨"TelemetryLinkModel", "notes", "(II)V"⟩, 5), (⟨"TelemetryLinkModel", "takesData", "(II)I"⟩, 5), (⟨"TelemetryLinkModel", "appends", "(II)Z"⟩, 5), (⟨"TelemetryLinkModel", "delivers", "(I)Z"⟩, 5), (⟨"TelemetryLinkModel", "receivedOf", "(II)I"⟩, 5), (⟨"TelemetryLinkModel", "isPacket", "(I)Z"⟩, 5), (⟨"TelemetryLinkModel", "mix", "(J)V"⟩, 5), (⟨"TelemetryLinkModel", "mixAll", "(II)V"⟩, 5), (⟨"TelemetryLinkModel", "mixChannel", "(I)V"⟩, 5)]
theorem lw_r3 : ∀ q ∈ lw_privs_3, lw_okq q := List.forall_mem_cons.mpr ⟨lw_p32, List.forall_mem_cons.mpr ⟨lw_p33, List.forall_mem_cons.mpr ⟨lw_p34, List.forall_mem_cons.mpr ⟨lw_p35, List.forall_mem_cons.mpr ⟨lw_p36, List.forall_mem_cons.mpr ⟨lw_p37, List.forall_mem_cons.mpr ⟨lw_p38, List.forall_mem_cons.mpr ⟨lw_p39, List.forall_mem_cons.mpr ⟨lw_p40, List.forall_mem_cons.mpr ⟨lw_p41, fun _ h => absurd h List.not_mem_nil⟩⟩⟩⟩⟩⟩⟩⟩⟩⟩
def lw_privs : List (MethodName × Nat) := lw_privs_1 ++ (lw_privs_2 ++ (lw_privs_3))
def lw_tbl : List Cond := k2_sels lw_privs ++ tables_1
theorem lw_privs_ok : ∀ q ∈ lw_privs, lw_okq q := by
  show ∀ q ∈ lw_privs_1 ++ (lw_privs_2 ++ (lw_privs_3)), lw_okq q
  exact List.forall_mem_append.mpr ⟨lw_r1, List.forall_mem_append.mpr ⟨lw_r2, lw_r3⟩⟩
end
section
/-! ===== BEGIN words of one list among another's, by their places ===== -/
theorem goodIn_r {big : List Cond} (ws : List Cond) (ps : List Nat) (hp : ws = ps.filterMap (fun i => big[i]?)) (h : ws.all goodWord = true) : GoodIn big ws := by
  intro w hw
  have h1 := List.all_eq_true.mp h w hw
  rw [hp] at hw
  obtain ⟨i, -, hi⟩ := List.mem_filterMap.mp hw
  have hm : w ∈ big := by first | exact List.mem_of_getElem? hi | exact List.getElem?_mem hi
  exact ⟨hm, good_of_word h1⟩
theorem goodIn_app {big a b : List Cond} (ha : GoodIn big a) (hb : GoodIn big b) : GoodIn big (a ++ b) := fun w h => (List.mem_append.mp h).elim (ha w) (hb w)
theorem goodIn_ca {big a b : List Cond} {c : Cond} (ha : GoodIn big (c :: a)) (hb : GoodIn big b) : GoodIn big (c :: (a ++ b)) := fun w h => (List.mem_cons.mp h).elim (fun e => ha w (List.mem_cons.mpr (Or.inl e))) (fun h => (List.mem_append.mp h).elim (fun h => ha w (List.mem_cons.mpr (Or.inr h))) (hb w))
theorem goodIn_sub {big ws : List Cond} (hm : ∀ w ∈ ws, w ∈ big) (h : ws.all goodWord = true) : GoodIn big ws := fun w hw => ⟨hm w hw, good_of_word (List.all_eq_true.mp h w hw)⟩
/-! ===== END ===== -/

/-! ===== BEGIN exceptions that leave a method, and their catching by the caller (launches without stack traces) ===== -/
section VXA
/-! The laws vx_back, vx_callV, vx_callS, vx_callSW, vx_throw0, vx_throwS follow proofs of the library, with one case more: JvmDerived/Free/Laws.lean (Back.of_free), Shelf42/LK1.lean (callV, callS), Shelf/KitTraced.lean (throwNew0V, throwNewS). -/
/-- where a method has thrown q: the class by its name, the cell, what was written, the world -/
def vx_T (XC : String → State → State → Prop) (st : State) (q : Addr) (t : State) (mc ms : Nat) (free : Addr → Prop) : Prop :=
  ∃ (E : String) (ce : Cell) (L : List Loc), XC E st t ∧ t.heap[q]? = some ce ∧ ce.vm = .none ∧ st.vm.findClass E = some ce.cls ∧ st.WarmedH t.vm ∧ st.sameButNew ({ t with vm := st.vm } : State) L mc ms ∧ ∀ z ∈ L, free z.base
def vx_Q (Qc : Array Value → State → Outcome → State → Prop) (XC : String → State → State → Prop) (mc ms : Nat) (free : Addr → Prop) : Array Value → State → Outcome → State → Prop := fun a st o t =>
  (Qc a st o t ∧ ∃ L, FrameEnd st o t L mc ms ∧ ∀ q ∈ L, free q.base) ∨ ∃ q, o = .threw q ∧ vx_T XC st q t mc ms free
/-- a callee that returns or throws -/
def vx_Met (l : Launch) (y : MethodName) (ws : List Cond) (rm : Room) (Pc : Array Value → State → Prop) (Qc : Array Value → State → Outcome → State → Prop) (XC : String → State → State → Prop) (mc ms : Nat) (free : Addr → Prop) : Prop :=
  MetFree l y (headSpec ws rm) Pc (fun _ _ _ _ _ => True) (vx_Q Qc XC mc ms free)
def vx_Post (XC : String → State → State → Prop) (mc ms : Nat) (free : Addr → Prop) : Pt → Array Value → Addr → Pt → Prop := fun A a q B =>
  ∃ (g : JFrame) (mk : MethodId) (t : State) (L : List Loc) (E : String) (ce : Cell), B.U.heap = t.heap ∧ B.U.vm = t.vm ∧ XC E (A.U.calling g mk a) t ∧ t.heap[q]? = some ce ∧ ce.vm = .none ∧ A.U.vm.findClass E = some ce.cls ∧ B.locs = A.locs ++ L ∧ (∀ z ∈ L, free z.base) ∧ B.cells = A.cells + mc ∧ B.slots = A.slots + ms
def vx_Back (l : Launch) (R : Room) (p : Program) (e : Env) (below : List Frame) (s : State) (sargs : Array Value) (y : MethodName) (len W9 : Nat)
    (Pre : Pt → Array Value → Prop) (Post : Pt → Array Value → Option Value → Pt → Prop) (PostX : Pt → Array Value → Addr → Pt → Prop) : Prop :=
  ∀ (m : MethodId) (meth : Method) (c : Code) (A : Pt) (g : JFrame) (ig : Instr) (mk : MethodId) (a : Array Value),
    Stand p l e R s m sargs below meth c A.U A.locs A.cells A.slots → g.method = m → g.locals.size = c.maxLocals → decode c.code g.pc = .ok (ig, len) →
    2 * g.monitorRoom + (g.stack.map fun v => v.category).sum ≤ W9 → A.U.methodNamed? y = some mk → Pre A a →
    (∃ (v : Option Value) (B : Pt), Stand p l e R s m sargs below meth c B.U B.locs B.cells B.slots ∧ Post A a v B ∧
      Steps p.tables e below (doInvoke e (A.U.setTop g) [] mk a).1 (B.U.setTop { g with pc := g.pc + len, stack := v.toList ++ g.stack })) ∨
    (∃ (q : Addr) (B : Pt), Stand p l e R s m sargs below meth c B.U B.locs B.cells B.slots ∧ PostX A a q B ∧
      Steps p.tables e below (doInvoke e (A.U.setTop g) [] mk a).1 ((B.U.setTop g).pushFrame (.throwing q)))
section Payer
variable {l : Launch} {R : Room} {p : Program} {e : Env} {below : List Frame} {s : State} {sargs : Array Value} {y : MethodName} {len W9 : Nat}
theorem vx_back {ws : List Cond} {rm : Room} {Pc : Array Value → State → Prop} {Qc : Array Value → State → Outcome → State → Prop} {XC : String → State → State → Prop} {mc ms : Nat} {free : Addr → Prop} {bytes : ByteArray} {maxL : Nat} {ret : Option FieldType}
    (hM : vx_Met l y ws rm Pc Qc XC mc ms free) (hblind : FrameBlind Pc) (hrc : rm.cells = mc) (hrs : rm.slots = ms)
    (hframes : rm.frames + 1 ≤ R.frames) (hlocals : W9 + (maxL + 11) + rm.locals ≤ R.locals)
    (hws : ∀ w ∈ ws, ∀ a' U, s.WarmedH U.vm → w.before a' U = true) (hcode : Cond.code y bytes maxL ret ∈ ws) (hinit : ∀ a' U, s.WarmedH U.vm → (Cond.initialized y.cls).before a' U = true) :
    vx_Back l R p e below s sargs y len W9 (PreOf R mc ms Pc) (PostOf Qc mc ms free) (vx_Post XC mc ms free) := by
  intro m meth c A g ig mk a X hg hsize hdg hW hn hp
  have h1 : (headSpec ws rm).pre.before a A.U = true := atoms_intro fun w hw => hws w hw _ _ X.warmed
  have h2 : (Cond.code y bytes maxL ret).before a A.U = true := hws _ hcode _ _ X.warmed
  have h3 : (Cond.initialized y.cls).before a A.U = true := hinit _ _ X.warmed
  have h4 : A.cells + (headSpec ws rm).room.cells ≤ R.cells := by rw [show (headSpec ws rm).room.cells = mc from hrc]; exact hp.1
  have h5 : A.slots + (headSpec ws rm).room.slots ≤ R.slots := by rw [show (headSpec ws rm).room.slots = ms from hrs]; exact hp.2.1
  have hPc : Pc a (A.U.calling g mk a) := hblind _ _ _ _ hp.2.2
  obtain ⟨U, Ls, c0, s0⟩ := A
  dsimp only [Pt.U, Pt.locs, Pt.cells, Pt.slots] at h1 h2 h3 h4 h5 X hn hPc ⊢
  obtain ⟨methY, cY, hmY, hcY, -, hlY, -, -, -, -⟩ := Cond.code_spec hn h2
  obtain ⟨kY, hkY, -⟩ := className_of_methodNamed hn
  have hinitY : kY.init = .initialized := Cond.initialized_spec (findClass_of_methodNamed hn) hkY h3
  have h : At U g.method c below := by rw [hg]; exact X.here
  have hlocals9 : W9 + (maxL + 11) + (headSpec ws rm).room.locals ≤ R.locals := hlocals
  have happ : (headSpec ws rm).appliesLoose y e.platform (U.calling g mk a) = true :=
    Spec.appliesLoose_calling (g := g) h hdg hn hkY hinitY
      (X.room_calling (g := g) (R' := (headSpec ws rm).room) hsize hmY hcY hframes (by rw [hlY]; omega) h4 h5) h1
  obtain ⟨mid, hmid⟩ := h.above
  have hfr : (U.setTop g).frames = (.java g :: mid) ++ below := by rw [State.frames_setTop' g h.top, hmid]; rfl
  obtain ⟨o, s₂, hsteps, -, hend, hq⟩ := Steps.callFree hM p X.admits X.cas X.clock (acts := []) hfr happ hPc trivial
  have hq' : vx_Q Qc XC mc ms free a (U.calling g mk a) o s₂ := hq
  rw [State.frames_setTop' g h.top] at hend
  obtain ⟨g₀, hg0⟩ := Option.isSome_iff_exists.mp h.top
  obtain ⟨r, hr⟩ := State.topJava?_eq_some.mp hg0
  have hr' : (({ U with heap := s₂.heap, slotsUsed := s₂.slotsUsed } : State).setVm s₂.vm).frames = .java g₀ :: r := hr
  rcases hq' with ⟨hqc, L, hfe, hL⟩ | ⟨q, rfl, E, ce, L, hx, hce, hcv, hcl, hW₂, hsm, hL⟩
  · obtain ⟨⟨v, rfl⟩, hW₂, e2, q2, q3, q4, q5, q6⟩ := id hfe
    have e3 : s₂ = ({ (U.calling g mk a).setFrames s₂.frames with heap := s₂.heap, slotsUsed := s₂.slotsUsed } : State).setVm s₂.vm := by
      have : s₂ = ({ s₂ with vm := (U.calling g mk a).vm } : State).setVm s₂.vm := rfl
      rw [e2] at this
      exact this
    obtain ⟨c₂, i₂, len₂, hc₂, hd₂, hf₂⟩ := hend
    have hW' : U.WarmedH s₂.vm := hW₂
    have hcc : c₂ = c := by
      have h1 : s₂.code? g.method = U.code? g.method := by
        rw [State.code?_eq, State.code?_eq, hW'.alike.method?]
      exact Option.some.inj (hc₂.symm.trans (h1.trans h.code))
    subst hcc
    have hlen : len₂ = len := by rw [hdg] at hd₂; cases hd₂; rfl
    subst hlen
    have hs₂ : s₂ = (({ U with heap := s₂.heap, slotsUsed := s₂.slotsUsed } : State).setVm s₂.vm).setTop { g with pc := g.pc + len₂, stack := v.toList ++ g.stack } := by
      refine e3.trans ?_
      rw [hf₂, State.calling_eq h.top, State.setFrames_setFrames, State.setTop_of_frames _ hr', hr]
      rfl
    have hsame : U.sameButNew ({ U with heap := s₂.heap, slotsUsed := s₂.slotsUsed } : State) L mc ms := by
      refine ⟨?_, q2, q3, q4, q5, q6⟩
      obtain ⟨t, ht, -⟩ := State.frames_cons hr
      show ({ U with heap := s₂.heap, slotsUsed := s₂.slotsUsed } : State) = { U.setFrames U.frames with heap := s₂.heap, slotsUsed := s₂.slotsUsed }
      rw [State.setFrames_self ht]
    subst hg
    refine Or.inl ⟨v, ⟨(({ U with heap := s₂.heap, slotsUsed := s₂.slotsUsed } : State).setVm s₂.vm), Ls ++ L, c0 + mc, s0 + ms⟩,
      ⟨X.admits, X.cas, X.clock, X.frames, X.room, X.hears, X.method, X.code, (X.here.setHeapUsed s₂.heap s₂.slotsUsed).setVm hW'.alike, X.tail, State.WarmedH.trans X.warmed hW', X.limits, X.bytes, X.same.trans (hsame.setVm s.vm)⟩,
      ⟨g, mk, s₂, L, rfl, rfl, hqc, rfl, hL, rfl, rfl⟩, ?_⟩
    show Steps p.tables e below _ ((({ U with heap := s₂.heap, slotsUsed := s₂.slotsUsed } : State).setVm s₂.vm).setTop { g with pc := g.pc + len₂, stack := v.toList ++ g.stack })
    rw [← hs₂]
    exact hsteps
  · obtain ⟨e2, q2, q3, q4, q5, q6⟩ := id hsm
    have e3 : s₂ = ({ (U.calling g mk a).setFrames s₂.frames with heap := s₂.heap, slotsUsed := s₂.slotsUsed } : State).setVm s₂.vm := by
      have : s₂ = ({ s₂ with vm := (U.calling g mk a).vm } : State).setVm s₂.vm := rfl
      rw [e2] at this
      exact this
    have hf₂ : s₂.frames = .throwing q :: .java g :: U.frames.tail := hend
    have hW' : U.WarmedH s₂.vm := hW₂
    have hs₂ : s₂ = ((({ U with heap := s₂.heap, slotsUsed := s₂.slotsUsed } : State).setVm s₂.vm).setTop g).pushFrame (.throwing q) := by
      refine e3.trans ?_
      rw [hf₂, State.calling_eq h.top, State.setFrames_setFrames, State.pushFrame, State.frames_setTop _ hr', State.setTop_of_frames _ hr', State.setFrames_setFrames, hr]
      rfl
    have hsame : U.sameButNew ({ U with heap := s₂.heap, slotsUsed := s₂.slotsUsed } : State) L mc ms := by
      refine ⟨?_, q2, q3, q4, q5, q6⟩
      obtain ⟨t, ht, -⟩ := State.frames_cons hr
      show ({ U with heap := s₂.heap, slotsUsed := s₂.slotsUsed } : State) = { U.setFrames U.frames with heap := s₂.heap, slotsUsed := s₂.slotsUsed }
      rw [State.setFrames_self ht]
    subst hg
    refine Or.inr ⟨q, ⟨(({ U with heap := s₂.heap, slotsUsed := s₂.slotsUsed } : State).setVm s₂.vm), Ls ++ L, c0 + mc, s0 + ms⟩,
      ⟨X.admits, X.cas, X.clock, X.frames, X.room, X.hears, X.method, X.code, (X.here.setHeapUsed s₂.heap s₂.slotsUsed).setVm hW'.alike, X.tail, State.WarmedH.trans X.warmed hW', X.limits, X.bytes, X.same.trans (hsame.setVm s.vm)⟩,
      ⟨g, mk, s₂, L, E, ce, rfl, rfl, hx, hce, hcv, hcl, rfl, hL, rfl, rfl⟩, ?_⟩
    show Steps p.tables e below _ (((({ U with heap := s₂.heap, slotsUsed := s₂.slotsUsed } : State).setVm s₂.vm).setTop g).pushFrame (.throwing q))
    rw [← hs₂]
    exact hsteps
end Payer
section Calls
variable {p : Program} {l : Launch} {e : Env} {R : Room} {s : State} {m : MethodId} {args : Array Value} {below : List Frame} {meth : Method} {c : Code} {T : State} {locs : List Loc} {cells slots : Nat}
theorem vx_callV (X : Stand p l e R s m args below meth c T locs cells slots) (hexec : p.tables.exec = Jvm.exec) {own C : String} {index : Nat} {y : MethodName} {bytes : ByteArray} {maxL : Nat} {ret : Option FieldType}
    (hown : s.vm.findClass own = some m.cls) (hlink : (Cond.methodLink own index y).before args s = true) (hinst : (Cond.instanceMethod y).before args s = true) (hsel : (Cond.selects C y y).before args s = true)
    (hcode : (Cond.code y bytes maxL ret).before args s = true) (hy : y.cls ≠ "java/lang/invoke/MethodHandle" ∧ y.cls ≠ "java/lang/invoke/VarHandle")
    {W9 : Nat} {Pre : Pt → Array Value → Prop} {Post : Pt → Array Value → Option Value → Pt → Prop} {PostX : Pt → Array Value → Addr → Pt → Prop} (hK : vx_Back l R p e below s args y 3 W9 Pre Post PostX)
    {b : Addr} {cellB : Cell} (hcell : T.heap[b]? = some cellB) (hobj : cellB.vm.isStatics = false) (hcls : s.vm.findClass C = some cellB.cls)
    {g : JFrame} (hg : g.method = m) (hsize : g.locals.size = c.maxLocals) {argsL rest : List Value} (hlen : ∀ sig, parseMethodDescriptor y.desc = some sig → argsL.length = sig.parameters.length)
    (hstack : g.stack = argsL.reverse ++ .ref b :: rest) (hW : 2 * g.monitorRoom + (rest.map fun v => v.category).sum ≤ W9) (hdg : decode c.code g.pc = .ok (.invokevirtual index, 3))
    (hpre : ∀ vm₁, s.WarmedH vm₁ → Pre ⟨T.setVm vm₁, locs, cells, slots⟩ (Value.ref b :: argsL).toArray) :
    (∃ (v : Option Value) (vm₁ : Vm) (B : Pt), s.WarmedH vm₁ ∧ Stand p l e R s m args below meth c B.U B.locs B.cells B.slots ∧ Post ⟨T.setVm vm₁, locs, cells, slots⟩ (Value.ref b :: argsL).toArray v B ∧
      ∀ target, Steps p.tables e below (B.U.setTop { g with pc := g.pc + 3, stack := v.toList ++ rest }) target → Steps p.tables e below (T.setTop g) target) ∨
    (∃ (q : Addr) (vm₁ : Vm) (B : Pt), s.WarmedH vm₁ ∧ Stand p l e R s m args below meth c B.U B.locs B.cells B.slots ∧ PostX ⟨T.setVm vm₁, locs, cells, slots⟩ (Value.ref b :: argsL).toArray q B ∧
      Steps p.tables e below (T.setTop g) ((B.U.setTop { g with stack := rest }).pushFrame (.throwing q))) := by
  obtain ⟨mk, methM, hnamed, hmethM, hstM, habM⟩ := Cond.instanceMethod_spec hinst
  obtain ⟨methM', cM, hmethM', -, -, -, -, -, -, hsigM⟩ := Cond.code_spec hnamed hcode
  cases hmethM.symm.trans hmethM'
  obtain ⟨c2, r2, m2, q1, q2, q3, q4, kP, hkP, hkPi⟩ := Cond.selects_spec hsel
  cases hcls.symm.trans q1
  cases (State.methodFound?_of_named hnamed hy).symm.trans q2
  cases hnamed.symm.trans q3
  have hselP : selectMethod e.platform s.vm cellB.cls mk = .method mk := by rw [Launch.admits_selectMethod X.admits]; exact q4
  obtain ⟨vm₁, X₁, hstep₁⟩ := X.invokevirtual hexec hown hlink hnamed hmethM hstM hkP hkPi hy (a := b) (cell := cellB) hcell
    (fun z h => by rw [h] at hobj; cases hobj) hselP hmethM habM hkP hkPi (g := g) hg (argsL := argsL) (rest := rest) (hlen _ hsigM) hstack hdg
  rcases hK m meth c ⟨T.setVm vm₁, locs, cells, slots⟩ { g with stack := rest } (.invokevirtual index) mk (Value.ref b :: argsL).toArray X₁ hg hsize hdg hW (X₁.named hnamed) (hpre vm₁ X₁.warmed) with ⟨v, B, X', hpost, hsteps⟩ | ⟨q, B, X', hpost, hsteps⟩
  · exact Or.inl ⟨v, vm₁, B, X₁.warmed, X', hpost, fun target h => hstep₁ _ fun acts => by rw [doInvoke_state]; exact hsteps.trans h⟩
  · exact Or.inr ⟨q, vm₁, B, X₁.warmed, X', hpost, hstep₁ _ fun acts => by rw [doInvoke_state]; exact hsteps⟩
theorem vx_callS (X : Stand p l e R s m args below meth c T locs cells slots) (hexec : p.tables.exec = Jvm.exec) {own : String} {index : Nat} {y : MethodName} {bytes : ByteArray} {maxL : Nat} {ret : Option FieldType}
    (hown : s.vm.findClass own = some m.cls) (hlink : (Cond.methodLink own index y).before args s = true) (hstat : (Cond.static y).before args s = true) (hinit : (Cond.initialized y.cls).before args s = true)
    (hcode : (Cond.code y bytes maxL ret).before args s = true) (hy : y.cls ≠ "java/lang/invoke/MethodHandle" ∧ y.cls ≠ "java/lang/invoke/VarHandle")
    {W9 : Nat} {Pre : Pt → Array Value → Prop} {Post : Pt → Array Value → Option Value → Pt → Prop} {PostX : Pt → Array Value → Addr → Pt → Prop} (hK : vx_Back l R p e below s args y 3 W9 Pre Post PostX)
    {g : JFrame} (hg : g.method = m) (hsize : g.locals.size = c.maxLocals) {argsL rest : List Value} (hlen : ∀ sig, parseMethodDescriptor y.desc = some sig → argsL.length = sig.parameters.length)
    (hstack : g.stack = argsL.reverse ++ rest) (hW : 2 * g.monitorRoom + (rest.map fun v => v.category).sum ≤ W9) (hdg : decode c.code g.pc = .ok (.invokestatic index, 3))
    (hpre : ∀ vm₁, s.WarmedH vm₁ → Pre ⟨T.setVm vm₁, locs, cells, slots⟩ argsL.toArray) :
    (∃ (v : Option Value) (vm₁ : Vm) (B : Pt), s.WarmedH vm₁ ∧ Stand p l e R s m args below meth c B.U B.locs B.cells B.slots ∧ Post ⟨T.setVm vm₁, locs, cells, slots⟩ argsL.toArray v B ∧
      ∀ target, Steps p.tables e below (B.U.setTop { g with pc := g.pc + 3, stack := v.toList ++ rest }) target → Steps p.tables e below (T.setTop g) target) ∨
    (∃ (q : Addr) (vm₁ : Vm) (B : Pt), s.WarmedH vm₁ ∧ Stand p l e R s m args below meth c B.U B.locs B.cells B.slots ∧ PostX ⟨T.setVm vm₁, locs, cells, slots⟩ argsL.toArray q B ∧
      Steps p.tables e below (T.setTop g) ((B.U.setTop { g with stack := rest }).pushFrame (.throwing q))) := by
  obtain ⟨mk, hnamed⟩ := Cond.code_named hcode
  obtain ⟨methM, cM, hmethM, -, -, -, -, -, -, hsigM⟩ := Cond.code_spec hnamed hcode
  have hstatic : methM.isStatic = true := Cond.static_spec hnamed hmethM hstat
  obtain ⟨kP, hkP, -⟩ := className_of_methodNamed hnamed
  have hinitP : kP.init = .initialized := Cond.initialized_spec (findClass_of_methodNamed hnamed) hkP hinit
  obtain ⟨vm₁, X₁, hstep₁⟩ := X.invokestatic hexec hown hlink hnamed hmethM hstatic hkP hinitP hy (g := g) hg (argsL := argsL) (rest := rest) (hlen _ hsigM) hstack hdg
  rcases hK m meth c ⟨T.setVm vm₁, locs, cells, slots⟩ { g with stack := rest } (.invokestatic index) mk argsL.toArray X₁ hg hsize hdg hW (X₁.named hnamed) (hpre vm₁ X₁.warmed) with ⟨v, B, X', hpost, hsteps⟩ | ⟨q, B, X', hpost, hsteps⟩
  · exact Or.inl ⟨v, vm₁, B, X₁.warmed, X', hpost, fun target h => hstep₁ _ fun acts => by rw [doInvoke_state]; exact hsteps.trans h⟩
  · exact Or.inr ⟨q, vm₁, B, X₁.warmed, X', hpost, hstep₁ _ fun acts => by rw [doInvoke_state]; exact hsteps⟩
end Calls
theorem vx_cls {s : State} {T : State} {vm₁ : Vm} {E : String} {k : ClassId} (hW : s.WarmedH vm₁) (h : (T.setVm vm₁).vm.findClass E = some k) : s.vm.findClass E = some k := by
  have h1 : vm₁.findClass E = some k := h
  rw [hW.alike.findClass] at h1
  exact h1
/-- the method's frame g, with q thrown over it -/
def vx_W (p : Program) (l : Launch) (e : Env) (R : Room) (s : State) (m : MethodId) (args : Array Value) (below : List Frame) (meth : Method) (c : Code) (H : Heap) (locs : List Loc) (cells slots : Nat) (Q : State → Prop) (g : JFrame) (q : Addr) : Prop :=
  ∀ T : State, T.heap = H → Stand p l e R s m args below meth c T locs cells slots → ∃ t, Steps p.tables e below ((T.setTop g).pushFrame (.throwing q)) t ∧ Q t
def vx_Run (p : Program) (l : Launch) (e : Env) (R : Room) (s : State) (m : MethodId) (args : Array Value) (below : List Frame) (meth : Method) (c : Code) (H : Heap) (locs : List Loc) (cells slots mc ms : Nat) (g : JFrame) (rest : List Value) (Qa : State → Outcome → State → Prop) (XC : String → State → State → Prop) (free : Addr → Prop) : Prop :=
  ∀ T : State, T.heap = H → Stand p l e R s m args below meth c T locs cells slots →
    (∃ (v : Option Value) (st₀ t T' : State) (L : List Loc), st₀.heap = H ∧ Stand p l e R s m args below meth c T' (locs ++ L) (cells + mc) (slots + ms) ∧ (∀ q ∈ L, free q.base) ∧ T'.heap = t.heap ∧ T'.vm = t.vm ∧ Qa st₀ (.returned v) t ∧
      Goes p e below T g T' { g with pc := g.pc + 3, stack := v.toList ++ rest }) ∨
    (∃ (q : Addr) (st₀ t T' : State) (L : List Loc) (E : String) (ce : Cell), st₀.heap = H ∧ Stand p l e R s m args below meth c T' (locs ++ L) (cells + mc) (slots + ms) ∧ (∀ z ∈ L, free z.base) ∧ T'.heap = t.heap ∧ T'.vm = t.vm ∧ XC E st₀ t ∧ t.heap[q]? = some ce ∧ ce.vm = .none ∧ s.vm.findClass E = some ce.cls ∧
      Steps p.tables e below (T.setTop g) ((T'.setTop { g with stack := rest }).pushFrame (.throwing q)))
def vx_X {S : Type} (px : S → Prop) (B : String → S → State → Prop) (A : Nat → Prop) : String → State → State → Prop := fun E st t => ∃ u : S, px u ∧ B E u t ∧ va_F A st t
section Runs
variable {p : Program} {l : Launch} {e : Env} {R : Room} {s : State} {m : MethodId} {args : Array Value} {below : List Frame} {meth : Method} {c : Code} {H : Heap} {locs : List Loc} {cells slots : Nat}
variable {y : MethodName} {bytes cc : ByteArray} {maxL nL mc ms n index : Nat} {ret : Option FieldType} {ws : List Cond} {rm : Room} {Pc : Array Value → State → Prop} {Qc : Array Value → State → Outcome → State → Prop} {XC : String → State → State → Prop} {free : Addr → Prop} {Ts : List Cond} {own C : String} {b : Addr} {As rest : List Value} {g : JFrame}
theorem vx_callBack (cb : CallB R s args own index y bytes maxL ret ws rm mc ms n) (hM : vx_Met l y ws rm Pc Qc XC mc ms free) (hbl : FrameBlind Pc) : vx_Back l R p e below s args y 3 8 (PreOf R mc ms Pc) (PostOf Qc mc ms free) (vx_Post XC mc ms free) := by
  obtain ⟨hrc, hrs, hfr, hlo, hws, hcw, -, hini, -⟩ := cb
  exact vx_back (bytes := bytes) (maxL := maxL) (ret := ret) hM hbl hrc hrs hfr hlo hws hcw (fun a' U hW => word_at hW (Or.inl (by first | rfl | simp [Cond.onTables, Cond.keeps, Cond.steady])) hini)
theorem vx_runV (S : CallFix p m c cc nL s args Ts own) (hM : vx_Met l y ws rm Pc Qc XC mc ms free) (cw : CallW R s args own C index y bytes maxL ret ws rm mc ms n) (hp : PreV s H C b Pc As)
    (hg : g.method = m) (hn : As.length = n) (hsize : g.locals.size = nL) (hstack : g.stack = As.reverse ++ .ref b :: rest) (hW : 2 * g.monitorRoom + (rest.map fun v => v.category).sum ≤ 8) (hdg : decode cc g.pc = .ok (.invokevirtual index, 3)) (hf : cells + mc ≤ R.cells ∧ slots + ms ≤ R.slots) :
    vx_Run p l e R s m args below meth c H locs cells slots mc ms g rest (Qc (Value.ref b :: As).toArray) XC free := by
  have hK : vx_Back l R p e below s args y 3 8 (PreOf R mc ms Pc) (PostOf Qc mc ms free) (vx_Post XC mc ms free) := vx_callBack cw.1 hM hp.1
  obtain ⟨⟨-, -, -, -, -, -, hcode, -, hy, hlen, hl⟩, hin, hse⟩ := cw
  obtain ⟨hx, hb, hml, ho, -⟩ := S
  obtain ⟨-, ⟨cellB, hcB, hoB, hclB⟩, hPc⟩ := hp
  intro T hT X
  rcases vx_callV X hx (C := C) (bytes := bytes) (maxL := maxL) (ret := ret) ho hl hin hse hcode hy hK (by rw [hT]; exact hcB) hoB hclB hg (hsize.trans hml.symm) (argsL := As) (rest := rest) (fun sig h => hn.trans (hlen sig h)) hstack hW (by rw [hb]; exact hdg)
    (fun vm₁ hW₁ => ⟨hf.1, hf.2, hPc (T.setVm vm₁) hT hW₁⟩) with ⟨v, vm₁, ⟨U', l2, c2, s2⟩, hW₁, X', ⟨g', mk, t, L, e1, e2, hq, h1, hL, h2, h3⟩, st⟩ | ⟨q, vm₁, ⟨U', l2, c2, s2⟩, hW₁, X', ⟨g', mk, t, L, E, ce, e1, e2, hq, hce, hcv, hcl, h1, hL, h2, h3⟩, st⟩
  · dsimp only [Pt.U, Pt.locs, Pt.cells, Pt.slots] at X' e1 e2 h1 h2 h3 st
    subst h1; subst h2; subst h3
    exact Or.inl ⟨v, (T.setVm vm₁).calling g' mk (Value.ref b :: As).toArray, t, U', L, hT, X', hL, e1, e2, hq, st⟩
  · dsimp only [Pt.U, Pt.locs, Pt.cells, Pt.slots] at X' e1 e2 h1 h2 h3 st hcl
    subst h1; subst h2; subst h3
    exact Or.inr ⟨q, (T.setVm vm₁).calling g' mk (Value.ref b :: As).toArray, t, U', L, E, ce, hT, X', hL, e1, e2, hq, hce, hcv, vx_cls hW₁ hcl, st⟩
theorem vx_runS (S : CallFix p m c cc nL s args Ts own) (hM : vx_Met l y ws rm Pc Qc XC mc ms free) (cw : CallB R s args own index y bytes maxL ret ws rm mc ms n ∧ (Cond.static y).before args s = true) (hp : PreS s H Pc As)
    (hg : g.method = m) (hn : As.length = n) (hsize : g.locals.size = nL) (hstack : g.stack = As.reverse ++ rest) (hW : 2 * g.monitorRoom + (rest.map fun v => v.category).sum ≤ 8) (hdg : decode cc g.pc = .ok (.invokestatic index, 3)) (hf : cells + mc ≤ R.cells ∧ slots + ms ≤ R.slots) :
    vx_Run p l e R s m args below meth c H locs cells slots mc ms g rest (Qc As.toArray) XC free := by
  have hK : vx_Back l R p e below s args y 3 8 (PreOf R mc ms Pc) (PostOf Qc mc ms free) (vx_Post XC mc ms free) := vx_callBack cw.1 hM hp.1
  obtain ⟨⟨-, -, -, -, -, -, hcode, hini, hy, hlen, hl⟩, hstt⟩ := cw
  obtain ⟨hx, hb, hml, ho, -⟩ := S
  intro T hT X
  rcases vx_callS X hx (bytes := bytes) (maxL := maxL) (ret := ret) ho hl hstt hini hcode hy hK hg (hsize.trans hml.symm) (argsL := As) (rest := rest) (fun sig h => hn.trans (hlen sig h)) hstack hW (by rw [hb]; exact hdg)
    (fun vm₁ hW₁ => ⟨hf.1, hf.2, hp.2 (T.setVm vm₁) hT hW₁⟩) with ⟨v, vm₁, ⟨U', l2, c2, s2⟩, hW₁, X', ⟨g', mk, t, L, e1, e2, hq, h1, hL, h2, h3⟩, st⟩ | ⟨q, vm₁, ⟨U', l2, c2, s2⟩, hW₁, X', ⟨g', mk, t, L, E, ce, e1, e2, hq, hce, hcv, hcl, h1, hL, h2, h3⟩, st⟩
  · dsimp only [Pt.U, Pt.locs, Pt.cells, Pt.slots] at X' e1 e2 h1 h2 h3 st
    subst h1; subst h2; subst h3
    exact Or.inl ⟨v, (T.setVm vm₁).calling g' mk As.toArray, t, U', L, hT, X', hL, e1, e2, hq, st⟩
  · dsimp only [Pt.U, Pt.locs, Pt.cells, Pt.slots] at X' e1 e2 h1 h2 h3 st hcl
    subst h1; subst h2; subst h3
    exact Or.inr ⟨q, (T.setVm vm₁).calling g' mk As.toArray, t, U', L, E, ce, hT, X', hL, e1, e2, hq, hce, hcv, vx_cls hW₁ hcl, st⟩
end Runs
section Rows
variable {p : Program} {l : Launch} {e : Env} {R : Room} {s : State} {m : MethodId} {args : Array Value} {below : List Frame} {meth : Method} {c : Code} {H : Heap} {locs : List Loc} {cells slots : Nat} {Q : State → Prop}
variable {mc ms : Nat} {free : Addr → Prop} {A0 A1 : Nat → Prop} {H0 : Heap} {a : Array Value} {pc : Nat} {ls : Array Slot} {st0 rest : List Value}
theorem vx_keep {st₀ t T' : State} {L : List Loc} (h0 : st₀.heap = H) (e1 : T'.heap = t.heap) (hS : va_S A0 H0 H locs) (hA : ∀ q, q < H.size → A1 q → A0 q) (hf : ∀ q, free q → A0 q) (hL : ∀ q ∈ L, free q.base) (hF : va_F A1 st₀ t) :
    H.size ≤ T'.heap.size ∧ (∀ q : Nat, q < H.size → ¬ A1 q → T'.heap[q]? = H[q]?) ∧ va_S A0 H0 T'.heap (locs ++ L) := by
  obtain ⟨hz, hk⟩ := hF
  rw [h0] at hz hk
  exact ⟨by rw [e1]; exact hz, fun q h1 h2 => by rw [e1]; exact hk q h1 h2,
    ⟨Nat.le_trans hS.1 (by rw [e1]; exact hz), fun q h1 h2 => by rw [e1, hk q (Nat.lt_of_lt_of_le h1 hS.1) (fun z => h2 (hA q (Nat.lt_of_lt_of_le h1 hS.1) z))]; exact hS.2.1 q h1 h2, fun q hq => by
      rcases List.mem_append.mp hq with h | h
      · exact hS.2.2 q h
      · exact hf _ (hL q h)⟩⟩
theorem vx_calli {S SX : Type} {post : Int32 → S → Prop} {px : SX → Prop} {B : S → State → Prop} {BX : String → SX → State → Prop} {AX : Nat → Prop} (hr : vx_Run p l e R s m args below meth c H locs cells slots mc ms (F0 m pc ls st0) rest (va_Qi post B A1 a) (vx_X px BX AX) free) (hS : va_S A0 H0 H locs) (hA : ∀ q, q < H.size → A1 q → A0 q) (hf : ∀ q, free q → A0 q) (hAX : ∀ q, q < H.size → AX q → A0 q)
    (kx : ∀ (E : String) (ce : Cell) (q9 : Addr) (u : SX) (t : State) (H1 : Heap) (locs1 : List Loc), t.heap = H1 → s.vm.Alike t.vm → px u → BX E u t → H.size ≤ H1.size → (∀ q : Nat, q < H.size → ¬ AX q → H1[q]? = H[q]?) → va_S A0 H0 H1 locs1 → H1[q9]? = some ce → ce.vm = .none → s.vm.findClass E = some ce.cls → vx_W p l e R s m args below meth c H1 locs1 (cells + mc) (slots + ms) Q (F0 m pc ls rest) q9)
    (kk : ∀ (r : Int32) (u : S) (t : State) (H1 : Heap) (locs1 : List Loc), t.heap = H1 → s.vm.Alike t.vm → post r u → B u t → H.size ≤ H1.size → (∀ q : Nat, q < H.size → ¬ A1 q → H1[q]? = H[q]?) → va_S A0 H0 H1 locs1 → W p l e R s m args below meth c H1 locs1 (cells + mc) (slots + ms) Q (F0 m (pc + 3) ls (.int r :: rest))) : W p l e R s m args below meth c H locs cells slots Q (F0 m pc ls st0) := by
  intro T hT X
  rcases hr T hT X with ⟨v, st₀, t, T', L, h0, X', hL, e1, e2, ⟨⟨r, u, hv, hp, hb⟩, hF⟩, st⟩ | ⟨q, st₀, t, T', L, E, ce, h0, X', hL, e1, e2, ⟨u, hp, hb, hF⟩, hce, hcv, hcl, st⟩
  · cases hv
    obtain ⟨k1, k2, k3⟩ := vx_keep h0 e1 hS hA hf hL hF
    obtain ⟨t2, a1, b1⟩ := kk r u t T'.heap (locs ++ L) e1.symm (by rw [← e2]; exact X'.warmed.alike) hp hb k1 k2 k3 T' rfl X'
    exact ⟨t2, st t2 a1, b1⟩
  · obtain ⟨k1, k2, k3⟩ := vx_keep h0 e1 hS hAX hf hL hF
    obtain ⟨t2, a1, b1⟩ := kx E ce q u t T'.heap (locs ++ L) e1.symm (by rw [← e2]; exact X'.warmed.alike) hp hb k1 k2 k3 (by rw [e1]; exact hce) hcv hcl T' rfl X'
    exact ⟨t2, st.trans a1, b1⟩
theorem vx_calll {S SX : Type} {post : Int64 → S → Prop} {px : SX → Prop} {B : S → State → Prop} {BX : String → SX → State → Prop} {AX : Nat → Prop} (hr : vx_Run p l e R s m args below meth c H locs cells slots mc ms (F0 m pc ls st0) rest (va_Ql post B A1 a) (vx_X px BX AX) free) (hS : va_S A0 H0 H locs) (hA : ∀ q, q < H.size → A1 q → A0 q) (hf : ∀ q, free q → A0 q) (hAX : ∀ q, q < H.size → AX q → A0 q)
    (kx : ∀ (E : String) (ce : Cell) (q9 : Addr) (u : SX) (t : State) (H1 : Heap) (locs1 : List Loc), t.heap = H1 → s.vm.Alike t.vm → px u → BX E u t → H.size ≤ H1.size → (∀ q : Nat, q < H.size → ¬ AX q → H1[q]? = H[q]?) → va_S A0 H0 H1 locs1 → H1[q9]? = some ce → ce.vm = .none → s.vm.findClass E = some ce.cls → vx_W p l e R s m args below meth c H1 locs1 (cells + mc) (slots + ms) Q (F0 m pc ls rest) q9)
    (kk : ∀ (r : Int64) (u : S) (t : State) (H1 : Heap) (locs1 : List Loc), t.heap = H1 → s.vm.Alike t.vm → post r u → B u t → H.size ≤ H1.size → (∀ q : Nat, q < H.size → ¬ A1 q → H1[q]? = H[q]?) → va_S A0 H0 H1 locs1 → W p l e R s m args below meth c H1 locs1 (cells + mc) (slots + ms) Q (F0 m (pc + 3) ls (.long r :: rest))) : W p l e R s m args below meth c H locs cells slots Q (F0 m pc ls st0) := by
  intro T hT X
  rcases hr T hT X with ⟨v, st₀, t, T', L, h0, X', hL, e1, e2, ⟨⟨r, u, hv, hp, hb⟩, hF⟩, st⟩ | ⟨q, st₀, t, T', L, E, ce, h0, X', hL, e1, e2, ⟨u, hp, hb, hF⟩, hce, hcv, hcl, st⟩
  · cases hv
    obtain ⟨k1, k2, k3⟩ := vx_keep h0 e1 hS hA hf hL hF
    obtain ⟨t2, a1, b1⟩ := kk r u t T'.heap (locs ++ L) e1.symm (by rw [← e2]; exact X'.warmed.alike) hp hb k1 k2 k3 T' rfl X'
    exact ⟨t2, st t2 a1, b1⟩
  · obtain ⟨k1, k2, k3⟩ := vx_keep h0 e1 hS hAX hf hL hF
    obtain ⟨t2, a1, b1⟩ := kx E ce q u t T'.heap (locs ++ L) e1.symm (by rw [← e2]; exact X'.warmed.alike) hp hb k1 k2 k3 (by rw [e1]; exact hce) hcv hcl T' rfl X'
    exact ⟨t2, st.trans a1, b1⟩
theorem vx_callf {S SX : Type} {post : UInt32 → S → Prop} {px : SX → Prop} {B : S → State → Prop} {BX : String → SX → State → Prop} {AX : Nat → Prop} (hr : vx_Run p l e R s m args below meth c H locs cells slots mc ms (F0 m pc ls st0) rest (va_Qf post B A1 a) (vx_X px BX AX) free) (hS : va_S A0 H0 H locs) (hA : ∀ q, q < H.size → A1 q → A0 q) (hf : ∀ q, free q → A0 q) (hAX : ∀ q, q < H.size → AX q → A0 q)
    (kx : ∀ (E : String) (ce : Cell) (q9 : Addr) (u : SX) (t : State) (H1 : Heap) (locs1 : List Loc), t.heap = H1 → s.vm.Alike t.vm → px u → BX E u t → H.size ≤ H1.size → (∀ q : Nat, q < H.size → ¬ AX q → H1[q]? = H[q]?) → va_S A0 H0 H1 locs1 → H1[q9]? = some ce → ce.vm = .none → s.vm.findClass E = some ce.cls → vx_W p l e R s m args below meth c H1 locs1 (cells + mc) (slots + ms) Q (F0 m pc ls rest) q9)
    (kk : ∀ (r : UInt32) (u : S) (t : State) (H1 : Heap) (locs1 : List Loc), t.heap = H1 → s.vm.Alike t.vm → post r u → B u t → H.size ≤ H1.size → (∀ q : Nat, q < H.size → ¬ A1 q → H1[q]? = H[q]?) → va_S A0 H0 H1 locs1 → W p l e R s m args below meth c H1 locs1 (cells + mc) (slots + ms) Q (F0 m (pc + 3) ls (.float r :: rest))) : W p l e R s m args below meth c H locs cells slots Q (F0 m pc ls st0) := by
  intro T hT X
  rcases hr T hT X with ⟨v, st₀, t, T', L, h0, X', hL, e1, e2, ⟨⟨r, u, hv, hp, hb⟩, hF⟩, st⟩ | ⟨q, st₀, t, T', L, E, ce, h0, X', hL, e1, e2, ⟨u, hp, hb, hF⟩, hce, hcv, hcl, st⟩
  · cases hv
    obtain ⟨k1, k2, k3⟩ := vx_keep h0 e1 hS hA hf hL hF
    obtain ⟨t2, a1, b1⟩ := kk r u t T'.heap (locs ++ L) e1.symm (by rw [← e2]; exact X'.warmed.alike) hp hb k1 k2 k3 T' rfl X'
    exact ⟨t2, st t2 a1, b1⟩
  · obtain ⟨k1, k2, k3⟩ := vx_keep h0 e1 hS hAX hf hL hF
    obtain ⟨t2, a1, b1⟩ := kx E ce q u t T'.heap (locs ++ L) e1.symm (by rw [← e2]; exact X'.warmed.alike) hp hb k1 k2 k3 (by rw [e1]; exact hce) hcv hcl T' rfl X'
    exact ⟨t2, st.trans a1, b1⟩
theorem vx_calld {S SX : Type} {post : UInt64 → S → Prop} {px : SX → Prop} {B : S → State → Prop} {BX : String → SX → State → Prop} {AX : Nat → Prop} (hr : vx_Run p l e R s m args below meth c H locs cells slots mc ms (F0 m pc ls st0) rest (va_Qd post B A1 a) (vx_X px BX AX) free) (hS : va_S A0 H0 H locs) (hA : ∀ q, q < H.size → A1 q → A0 q) (hf : ∀ q, free q → A0 q) (hAX : ∀ q, q < H.size → AX q → A0 q)
    (kx : ∀ (E : String) (ce : Cell) (q9 : Addr) (u : SX) (t : State) (H1 : Heap) (locs1 : List Loc), t.heap = H1 → s.vm.Alike t.vm → px u → BX E u t → H.size ≤ H1.size → (∀ q : Nat, q < H.size → ¬ AX q → H1[q]? = H[q]?) → va_S A0 H0 H1 locs1 → H1[q9]? = some ce → ce.vm = .none → s.vm.findClass E = some ce.cls → vx_W p l e R s m args below meth c H1 locs1 (cells + mc) (slots + ms) Q (F0 m pc ls rest) q9)
    (kk : ∀ (r : UInt64) (u : S) (t : State) (H1 : Heap) (locs1 : List Loc), t.heap = H1 → s.vm.Alike t.vm → post r u → B u t → H.size ≤ H1.size → (∀ q : Nat, q < H.size → ¬ A1 q → H1[q]? = H[q]?) → va_S A0 H0 H1 locs1 → W p l e R s m args below meth c H1 locs1 (cells + mc) (slots + ms) Q (F0 m (pc + 3) ls (.double r :: rest))) : W p l e R s m args below meth c H locs cells slots Q (F0 m pc ls st0) := by
  intro T hT X
  rcases hr T hT X with ⟨v, st₀, t, T', L, h0, X', hL, e1, e2, ⟨⟨r, u, hv, hp, hb⟩, hF⟩, st⟩ | ⟨q, st₀, t, T', L, E, ce, h0, X', hL, e1, e2, ⟨u, hp, hb, hF⟩, hce, hcv, hcl, st⟩
  · cases hv
    obtain ⟨k1, k2, k3⟩ := vx_keep h0 e1 hS hA hf hL hF
    obtain ⟨t2, a1, b1⟩ := kk r u t T'.heap (locs ++ L) e1.symm (by rw [← e2]; exact X'.warmed.alike) hp hb k1 k2 k3 T' rfl X'
    exact ⟨t2, st t2 a1, b1⟩
  · obtain ⟨k1, k2, k3⟩ := vx_keep h0 e1 hS hAX hf hL hF
    obtain ⟨t2, a1, b1⟩ := kx E ce q u t T'.heap (locs ++ L) e1.symm (by rw [← e2]; exact X'.warmed.alike) hp hb k1 k2 k3 (by rw [e1]; exact hce) hcv hcl T' rfl X'
    exact ⟨t2, st.trans a1, b1⟩
theorem vx_callv {S SX : Type} {post : S → Prop} {px : SX → Prop} {B : S → State → Prop} {BX : String → SX → State → Prop} {AX : Nat → Prop} (hr : vx_Run p l e R s m args below meth c H locs cells slots mc ms (F0 m pc ls st0) rest (va_Qv post B A1 a) (vx_X px BX AX) free) (hS : va_S A0 H0 H locs) (hA : ∀ q, q < H.size → A1 q → A0 q) (hf : ∀ q, free q → A0 q) (hAX : ∀ q, q < H.size → AX q → A0 q)
    (kx : ∀ (E : String) (ce : Cell) (q9 : Addr) (u : SX) (t : State) (H1 : Heap) (locs1 : List Loc), t.heap = H1 → s.vm.Alike t.vm → px u → BX E u t → H.size ≤ H1.size → (∀ q : Nat, q < H.size → ¬ AX q → H1[q]? = H[q]?) → va_S A0 H0 H1 locs1 → H1[q9]? = some ce → ce.vm = .none → s.vm.findClass E = some ce.cls → vx_W p l e R s m args below meth c H1 locs1 (cells + mc) (slots + ms) Q (F0 m pc ls rest) q9)
    (kk : ∀ (u : S) (t : State) (H1 : Heap) (locs1 : List Loc), t.heap = H1 → s.vm.Alike t.vm → post u → B u t → H.size ≤ H1.size → (∀ q : Nat, q < H.size → ¬ A1 q → H1[q]? = H[q]?) → va_S A0 H0 H1 locs1 → W p l e R s m args below meth c H1 locs1 (cells + mc) (slots + ms) Q (F0 m (pc + 3) ls (rest))) : W p l e R s m args below meth c H locs cells slots Q (F0 m pc ls st0) := by
  intro T hT X
  rcases hr T hT X with ⟨v, st₀, t, T', L, h0, X', hL, e1, e2, ⟨⟨u, hv, hp, hb⟩, hF⟩, st⟩ | ⟨q, st₀, t, T', L, E, ce, h0, X', hL, e1, e2, ⟨u, hp, hb, hF⟩, hce, hcv, hcl, st⟩
  · cases hv
    obtain ⟨k1, k2, k3⟩ := vx_keep h0 e1 hS hA hf hL hF
    obtain ⟨t2, a1, b1⟩ := kk u t T'.heap (locs ++ L) e1.symm (by rw [← e2]; exact X'.warmed.alike) hp hb k1 k2 k3 T' rfl X'
    exact ⟨t2, st t2 a1, b1⟩
  · obtain ⟨k1, k2, k3⟩ := vx_keep h0 e1 hS hAX hf hL hF
    obtain ⟨t2, a1, b1⟩ := kx E ce q u t T'.heap (locs ++ L) e1.symm (by rw [← e2]; exact X'.warmed.alike) hp hb k1 k2 k3 (by rw [e1]; exact hce) hcv hcl T' rfl X'
    exact ⟨t2, st.trans a1, b1⟩
/-- caught by the row x of this method's table; the rows ahead don't take it -/
theorem vx_catch {own name : String} {E : String} {ce : Cell} {q : Addr} (hown : s.vm.findClass own = some m.cls) (pre : List ExceptionTableEntry) (x : ExceptionTableEntry) (suf : List ExceptionTableEntry) (hsplit : c.exceptionTable.toList = pre ++ x :: suf)
    (hpass : ∀ z ∈ pre, covers z pc = false ∨ (z.catchType ≠ 0 ∧ ∃ nm : String, (Cond.classLink own z.catchType nm).before args s = true ∧ va_Nc E nm s)) (hx : covers x pc = true) (h0 : x.catchType ≠ 0)
    (hlink : (Cond.classLink own x.catchType name).before args s = true) (hcast : (Cond.castable E name).before args s = true) (hcell : H[q]? = some ce) (hv : ce.vm = .none) (hcl : s.vm.findClass E = some ce.cls)
    (kk : W p l e R s m args below meth c H locs cells slots Q (F0 m x.handlerPc ls [.ref q])) : vx_W p l e R s m args below meth c H locs cells slots Q (F0 m pc ls rest) q := by
  intro T hT X
  have hpl : e.platform.magicAccessors = ({} : Platform).magicAccessors := by rw [X.admits.platform]
  obtain ⟨c3, c4, hc3, hc4, hasg⟩ := Cond.castable_spec hcast
  cases Option.some.inj (hc3.symm.trans hcl)
  obtain ⟨c5, hc5, hcl5⟩ := Cond.classLink_spec hown hlink e.platform hpl
  cases Option.some.inj (hc4.symm.trans hc5)
  obtain ⟨vm', X', st⟩ := X.thenCaughtThrough q (g := F0 m pc ls rest) rfl (Steps.refl _) (by rw [hT]; exact hcell) (by rw [hv]; rfl) (by obtain ⟨k9, h9, -⟩ := Vm.findClass_spec hcl; exact ⟨k9, h9⟩) pre x suf hsplit
    (fun z hz => by
      rcases hpass z hz with h | ⟨hz0, nm, hl1, hn1⟩
      · exact Or.inl h
      · obtain ⟨c6, hc6, hcl6⟩ := Cond.classLink_spec hown hl1 e.platform hpl
        obtain ⟨a8, b8, h1, h2, h3⟩ := hn1
        cases Option.some.inj (h1.symm.trans hcl)
        cases Option.some.inj (h2.symm.trans hc6)
        exact Or.inr ⟨hz0, _, hcl6, h3⟩) hx (Or.inr ⟨h0, c4, hcl5, hasg⟩)
  obtain ⟨t, a1, b1⟩ := kk (T.setVm vm') hT X'
  exact ⟨t, st.trans a1, b1⟩
end Rows
section Ends
variable {p : Program} {l : Launch} {e : Env} {R : Room} {s : State} {m : MethodId} {args : Array Value} {below : List Frame} {meth : Method} {c : Code} {H : Heap} {locs : List Loc} {cells slots : Nat} {Q : State → Prop}
variable {mc ms : Nat} {free : Addr → Prop} {A0 A1 : Nat → Prop} {H0 : Heap} {a : Array Value} {ls : Array Slot} {st0 rest : List Value}
variable {Qc : Array Value → State → Outcome → State → Prop} {XC : String → State → State → Prop}
/-- what a body that may throw owes at its end -/
def vx_MQ (below : List Frame) (Qc : Array Value → State → Outcome → State → Prop) (XC : String → State → State → Prop) (a : Array Value) (s : State) (mc ms : Nat) (free : Addr → Prop) : State → Prop := fun t =>
  ∃ o, t.status = .running ∧ Ended t below o ∧ vx_Q Qc XC mc ms free a s o t
theorem vx_ret {g : JFrame} {mc ms : Nat} (k : W p l e R s m args below meth c H locs cells slots (MQ below Qc args s mc ms free) g) : W p l e R s m args below meth c H locs cells slots (vx_MQ below Qc XC args s mc ms free) g := by
  intro T hT X
  obtain ⟨t, a1, o, b1, b2, b3, b4⟩ := k T hT X
  exact ⟨t, a1, o, b1, b2, Or.inl ⟨b3, b4⟩⟩
/-- not caught here: it goes on to the caller -/
theorem vx_widen {g : JFrame} {q : Addr} {k n : Nat} (h1 : cells ≤ k) (h2 : slots ≤ n) (kk : vx_W p l e R s m args below meth c H locs k n Q g q) : vx_W p l e R s m args below meth c H locs cells slots Q g q := fun T hT X => kk T hT (stand_widen X h1 h2)
theorem vx_out {pc : Nat} {E : String} {ce : Cell} {q : Addr} {mc ms : Nat} (hout : ∀ x ∈ c.exceptionTable.toList, covers x pc = false) (hlocks : meth.locks = false) (hcell : H[q]? = some ce) (hv : ce.vm = .none) (hcl : s.vm.findClass E = some ce.cls)
    (hx : ∀ t : State, t.heap = H → s.vm.Alike t.vm → XC E s t) (hf : ∀ z ∈ locs, free z.base) (hc : cells ≤ mc) (hs : slots ≤ ms) :
    vx_W p l e R s m args below meth c H locs cells slots (vx_MQ below Qc XC args s mc ms free) (F0 m pc ls rest) q := by
  intro T hT X
  obtain ⟨st1, hrun, hend, hW, hsm⟩ := X.leaveThrown q (g := F0 m pc ls rest) rfl rfl rfl hout hlocks
  have hcell9 : (T.setFrames (.throwing q :: below)).heap[q]? = some ce := by
    show T.heap[q]? = some ce
    rw [hT]; exact hcell
  exact ⟨_, st1, .threw q, hrun, hend, Or.inr ⟨q, rfl, E, ce, locs, hx _ hT hW.alike, hcell9, hv, hcl, hW, hsm.mono hc hs, hf⟩⟩
theorem vx_frame {U : State} {k n : Nat} (h : s.sameButNew ({ U with vm := s.vm } : State) locs k n) : s.heap.size ≤ U.heap.size ∧ ∀ q : Nat, q < s.heap.size → (∀ z ∈ locs, z.base ≠ q) → U.heap[q]? = s.heap[q]? := by
  obtain ⟨-, h2, -, -, -, h6⟩ := h
  refine ⟨h2, fun q hq hz => ?_⟩
  obtain ⟨c9, e1, e2, e3, e4⟩ := h6 q _ (Array.getElem?_eq_getElem hq)
  have hs : c9.slots = (s.heap[q]).slots := Array.ext_getElem? fun i => e4 i fun hm => hz _ hm rfl
  have h9 : c9 = s.heap[q] := by
    rw [hs] at e2
    exact e2
  have e5 : U.heap[q]? = some c9 := e1
  rw [e5, h9, Array.getElem?_eq_getElem hq]
/-- the words of a throw but the four that speak of the heap -/
def vx_no (w : Cond) : Bool := decide (w ≠ .isRef (.static Bundle.tN "UNASSIGNED_STACK" Bundle.steD)) && decide (w ≠ .isRef (.static Bundle.tN "SUPPRESSED_SENTINEL" Bundle.listD)) && decide (w ≠ .laysStatic Bundle.tN "UNASSIGNED_STACK" Bundle.steD) && decide (w ≠ .laysStatic Bundle.tN "SUPPRESSED_SENTINEL" Bundle.listD)
def vx_at0 (own : String) (ic : Nat) (X : String) (names : List String) : List Cond := (Bundle.ownAtoms0 own ic X names).filter vx_no
def vx_atS (own : String) (ic : Nat) (X : String) (names : List String) : List Cond := (Bundle.ownAtoms own ic X names).filter vx_no
/-- a word that the tables alone decide, or a good one -/
def vx_ot (w : Cond) : Bool := w.onTables || goodWord w
theorem vx_ot_at {args a' : Array Value} {s U : State} {w : Cond} (hW : s.WarmedH U.vm) (hvm : s.vm = U.vm) (hg : vx_ot w = true) (h : w.before args s = true) : w.before a' U = true := by
  simp only [vx_ot, Bool.or_eq_true] at hg
  rcases hg with hg | hg
  · exact va_tabs hg hvm h
  · exact word_at hW (good_of_word hg) h
/-- a list's words: the good ones out of the method's own list, the others by premises of their own -/
theorem vx_hat {args : Array Value} {s : State} {L B : List Cond} (h1 : ∀ w ∈ L.filter goodWord, w.before args s = true) (h2 : ∀ w ∈ L.filter (fun w => !goodWord w), w ∈ B) (h3 : ∀ w ∈ B, w.before args s = true) : ∀ w ∈ L, w.before args s = true := by
  intro w hw
  by_cases g : goodWord w = true
  · exact h1 w (List.mem_filter.mpr ⟨hw, g⟩)
  · refine h3 w (h2 w (List.mem_filter.mpr ⟨hw, ?_⟩))
    show (!goodWord w) = true
    cases hgw : goodWord w
    · rfl
    · exact absurd hgw g
theorem vx_c {args : Array Value} {s : State} {w : Cond} {B : List Cond} (h : w.before args s = true) (t : ∀ w ∈ B, w.before args s = true) : ∀ w' ∈ w :: B, w'.before args s = true := fun w' h' => (List.mem_cons.mp h').elim (fun e => by rw [e]; exact h) (t w')
theorem vx_n {args : Array Value} {s : State} : ∀ w ∈ ([] : List Cond), w.before args s = true := fun _ h => nomatch h
theorem vx_own {args : Array Value} {s : State} {L : List Cond} (h1 : ∀ w ∈ L.filter vx_no, w.before args s = true)
    (hU : (Cond.isRef (.static Bundle.tN "UNASSIGNED_STACK" Bundle.steD)).before args s = true) (hN : (Cond.isRef (.static Bundle.tN "SUPPRESSED_SENTINEL" Bundle.listD)).before args s = true)
    (lU : (Cond.laysStatic Bundle.tN "UNASSIGNED_STACK" Bundle.steD).before args s = true) (lN : (Cond.laysStatic Bundle.tN "SUPPRESSED_SENTINEL" Bundle.listD).before args s = true) : ∀ w ∈ L, w.before args s = true := by
  intro w hw
  by_cases e1 : w = .isRef (.static Bundle.tN "UNASSIGNED_STACK" Bundle.steD)
  · rw [e1]; exact hU
  · by_cases e2 : w = .isRef (.static Bundle.tN "SUPPRESSED_SENTINEL" Bundle.listD)
    · rw [e2]; exact hN
    · by_cases e3 : w = .laysStatic Bundle.tN "UNASSIGNED_STACK" Bundle.steD
      · rw [e3]; exact lU
      · by_cases e4 : w = .laysStatic Bundle.tN "SUPPRESSED_SENTINEL" Bundle.listD
        · rw [e4]; exact lN
        · exact h1 w (List.mem_filter.mpr ⟨hw, by unfold vx_no; rw [decide_eq_true e1, decide_eq_true e2, decide_eq_true e3, decide_eq_true e4]; rfl⟩)
/-- where a static field lies, its class's statics cell in H -/
def vx_L (C n d : String) (A : Nat → Prop) (U : State) (H : Heap) : Prop := ∃ (c : ClassId) (k : Class) (i : Nat) (f : Field) (a : Nat) (cell : Cell), U.vm.findClass C = some c ∧ U.fieldFound? C n d = some (c, k, i, f) ∧ f.isStatic = true ∧ k.statics = some a ∧ H[a]? = some cell ∧ cell.vm.isStatics = true ∧ cell.cls = c ∧ f.slot < cell.slots.size ∧ k.staticTypes[f.slot]? = some f.type ∧ ¬ A a
theorem vx_L.moved {C n d : String} {A : Nat → Prop} {u U : State} {H : Heap} (hvm : u.vm.Alike U.vm) (h : vx_L C n d A u H) : vx_L C n d A U H := by
  obtain ⟨c, k, i, f, a, cell, h1, h2, h3, h4, h5, h6, h7, h8, h9, h10⟩ := h
  obtain ⟨k', hi', he⟩ := State.fieldFound?_setVm hvm h2
  exact ⟨c, k', i, f, a, cell, by rw [hvm.findClass]; exact h1, hi', h3, by rw [he]; exact h4, h5, h6, h7, h8, by rw [he]; exact h9, h10⟩
theorem vx_L.kept {C n d : String} {A : Nat → Prop} {U : State} {H H1 : Heap} (h : vx_L C n d A U H) (hq : ∀ a : Nat, a < H.size → ¬ A a → H1[a]? = H[a]?) : vx_L C n d A U H1 := by
  obtain ⟨c, k, i, f, a, cell, h1, h2, h3, h4, h5, h6, h7, h8, h9, h10⟩ := h
  exact ⟨c, k, i, f, a, cell, h1, h2, h3, h4, by rw [hq a (Array.getElem?_eq_some_iff.mp h5).1 h10]; exact h5, h6, h7, h8, h9, h10⟩
theorem vx_L.narrow {C n d : String} {A B : Nat → Prop} {U : State} {H : Heap} (h : vx_L C n d A U H) (hAB : ∀ q, B q → A q) : vx_L C n d B U H := by
  obtain ⟨c, k, i, f, a, cell, h1, h2, h3, h4, h5, h6, h7, h8, h9, h10⟩ := h
  exact ⟨c, k, i, f, a, cell, h1, h2, h3, h4, h5, h6, h7, h8, h9, fun z => h10 (hAB _ z)⟩
theorem vx_L.word {C n d : String} {A : Nat → Prop} {s : State} {args : Array Value} (h : vx_L C n d A s s.heap) : (Cond.laysStatic C n d).before args s = true := by
  obtain ⟨c, k, i, f, a, cell, h1, h2, h3, h4, h5, h6, h7, h8, h9, -⟩ := h
  show (Cond.laysStatic C n d).holds args s none s [] = true
  exact Cond.laysStatic_of h1 h2 h3 h4 h5 h6 h7 h8 h9
/-- .. and what it holds: null or some reference -/
def vx_Zq (C n d : String) (A : Nat → Prop) (U : State) (H : Heap) : Prop := va_Zq C n d A U H ∧ vx_L C n d A U H
theorem vx_Zq.moved {C n d : String} {A : Nat → Prop} {u U : State} {H : Heap} (hvm : u.vm.Alike U.vm) (h : vx_Zq C n d A u H) : vx_Zq C n d A U H := ⟨va_Zq.moved hvm h.1, vx_L.moved hvm h.2⟩
theorem vx_Zq.kept {C n d : String} {A : Nat → Prop} {U : State} {H H1 : Heap} (h : vx_Zq C n d A U H) (hq : ∀ a : Nat, a < H.size → ¬ A a → H1[a]? = H[a]?) : vx_Zq C n d A U H1 := ⟨va_Zq.kept h.1 hq, vx_L.kept h.2 hq⟩
theorem vx_Zq.narrow {C n d : String} {A B : Nat → Prop} {U : State} {H : Heap} (h : vx_Zq C n d A U H) (hAB : ∀ q, B q → A q) : vx_Zq C n d B U H := ⟨va_Zq.narrow h.1 hAB, vx_L.narrow h.2 hAB⟩
theorem vx_Zqof {args : Array Value} {s : State} {C n d : String} {A : Nat → Prop} (hl : (Cond.laysStatic C n d).before args s = true) (hini : (Cond.initialized C).before args s = true) (h : (Cond.isRef (.static C n d)).before args s = true) (hA : ∀ a : Nat, a < s.heap.size → ¬ A a) : vx_Zq C n d A s s.heap := by
  refine ⟨va_Zqof hl hini h hA, ?_⟩
  obtain ⟨c, k, i, f, a, cell, h1, h2, h3, h4, h5, h6, h7, h8, h9⟩ := Cond.laysStatic_spec hl
  exact ⟨c, k, i, f, a, cell, h1, h2, h3, h4, h5, h6, h7, h8, h9, hA a (Array.getElem?_eq_some_iff.mp h5).1⟩
theorem vx_isRef {C n d : String} {v : Value} {A : Nat → Prop} {s : State} {args : Array Value} (h : va_Z C n d v A s s.heap) (hv : v.isRef = true) : (Cond.isRef (.static C n d)).before args s = true := by
  obtain ⟨cf, kf, fi, f, a, cell, h1, h2, h3, h4, h5, h6, h7, -⟩ := h
  have he : (Term.static C n d).eval args s none [] s = some v := by
    simp [Term.eval, State.fieldNamed?, h1, h2, h4, h5, h6, h7]
  simp only [Cond.before, Cond.holds, Cond.value, he]
  cases v <;> simp_all [Value.isRef]
theorem vx_isRefq {C n d : String} {A : Nat → Prop} {s : State} {args : Array Value} (h : va_Zq C n d A s s.heap) : (Cond.isRef (.static C n d)).before args s = true := by
  rcases h with h | ⟨t, h⟩
  · exact vx_isRef h rfl
  · exact vx_isRef h rfl
/-- the same frame, seen from here: as if the method were called anew in this heap -/
theorem vx_rebase {T : State} (X : Stand p l e R s m args below meth c T locs cells slots) {R' : Room} (hf : R'.frames ≤ R.frames) (hl : R'.locals ≤ R.locals) (hc : cells + R'.cells ≤ R.cells) (hs : slots + R'.slots ≤ R.slots) :
    Stand p l e R' ((T.setVm s.vm).setFrames (.invoking m args :: below)) m args below meth c T [] 0 0 := by
  have htop : (T.setVm s.vm).topJava?.isSome := X.here.top
  have hF : ((T.setVm s.vm).setFrames (.invoking m args :: below)).frames = .invoking m args :: below := State.frames_setFrames _ (State.cur_lt_of_top htop)
  obtain ⟨g₀, hg0⟩ := Option.isSome_iff_exists.mp htop
  obtain ⟨r, hr⟩ := State.topJava?_eq_some.mp hg0
  have hl9 : e.platform.stackLimits (T.setVm s.vm).me = e.platform.stackLimits s.me := X.limits
  have hb9 : (T.setVm s.vm).me.stackBytes = s.me.stackBytes := X.bytes
  refine ⟨X.admits, X.cas, X.clock, hF, ?_, X.hears, X.method, X.code, X.here, X.tail, X.warmed, ?_, ?_, ?_⟩
  · have h := X.room
    have hU : ((T.setVm s.vm).setFrames (.invoking m args :: below)).localsInUse = s.localsInUse := by
      rw [State.localsInUse_invoking hF (meth := meth) (c := c) X.method X.code, State.localsInUse_invoking X.frames X.method X.code]
    simp only [State.hasRoom, Bool.and_eq_true, decide_eq_true_eq] at h ⊢
    obtain ⟨⟨⟨⟨h1, h2, h3, h4, h5, h6⟩, h7⟩, h8⟩, h9⟩ := h
    rw [X.frames, List.length_cons] at h2 h3
    have q1 := X.heapSize
    have q2 := X.used
    simp only [hF, hU, List.length_cons, State.stackLimits_setFrames, State.stackBytes_setFrames, hl9, hb9]
    refine ⟨⟨⟨⟨by omega, by omega, by omega, by omega, by omega, h6⟩, ?_⟩, ?_⟩, X.book⟩
    · show T.heap.size + R'.cells ≤ e.platform.maxCells
      omega
    · show T.slotsUsed + R'.slots ≤ e.platform.maxSlots
      omega
  · rw [State.stackLimits_setFrames]; rfl
  · rw [State.stackBytes_setFrames]; rfl
  · refine ⟨?_, Nat.le_refl _, Nat.le_refl _, ?_, ?_, fun a c9 h9 => ⟨c9, h9, rfl, rfl, fun _ _ => rfl⟩⟩
    · obtain ⟨t, ht, -⟩ := State.frames_cons hr
      show T.setVm s.vm = { ((T.setVm s.vm).setFrames (.invoking m args :: below)).setFrames (T.setVm s.vm).frames with heap := T.heap, slotsUsed := T.slotsUsed }
      rw [State.setFrames_setFrames, State.setFrames_self ht]
      rfl
    · show T.slotsUsed = T.slotsUsed + ((T.heap.toList.drop T.heap.size).map (·.slots.size)).sum
      rw [List.drop_eq_nil_of_le (Nat.le_of_eq Array.length_toList)]
      rfl
    · show ((T.heap.toList.drop T.heap.size).map (·.slots.size)).sum ≤ 0
      rw [List.drop_eq_nil_of_le (Nat.le_of_eq Array.length_toList)]
      exact Nat.le_refl _
/-- 'throw new E()': new; dup; invokespecial; athrow -/
theorem vx_throw0 {cc : ByteArray} {pc : Nat} (hexec : p.tables.exec = Jvm.exec) (hb : c.code = cc) (hl : l.stackTraces = false) {own cls : String} {names : List String} {ik ic mc ms : Nat} {A : Nat → Prop}
    (hown : s.vm.findClass own = some m.cls) (hcls : Bundle.fit cls = true) (hnames : ∀ n ∈ names, Bundle.fit n = true)
    (hk : (Cond.classLink own ik cls).before args s = true) (hini : (Cond.initialized cls).before args s = true) (hat : ∀ w ∈ vx_at0 own ic cls names, w.before args s = true)
    (hgood : ∀ w ∈ Cond.classLink own ik cls :: Cond.initialized cls :: vx_at0 own ic cls names, vx_ot w = true)
    (hU : vx_Zq Bundle.tN "UNASSIGNED_STACK" Bundle.steD A s s.heap) (hN : vx_Zq Bundle.tN "SUPPRESSED_SENTINEL" Bundle.listD A s s.heap) (hS : va_S A s.heap H locs) (hsize : ls.size = c.maxLocals)
    (d0 : decode cc pc = .ok (.new ik, 3)) (d3 : decode cc (pc + 3) = .ok (.dup, 1)) (d4 : decode cc (pc + 4) = .ok (.invokespecial ic, 3)) (d7 : decode cc (pc + 7) = .ok (.athrow, 1))
    (hout : ∀ x ∈ c.exceptionTable.toList, covers x (pc + 7) = false)
    (hRframes : names.length + 3 < R.frames) (hRlocals : (rest.map fun v => v.category).sum + (13 * (names.length + 1) + 42) ≤ R.locals) (hRcells : cells + 1 ≤ R.cells) (hRslots : slots + 6 ≤ R.slots) (hlocks : meth.locks = false)
    (hx : ∀ t : State, s.vm.Alike t.vm → H.size ≤ t.heap.size → (∀ q : Nat, q < H.size → t.heap[q]? = H[q]?) → XC cls s t)
    (hf : ∀ z ∈ locs, free z.base) (hc : cells + 1 ≤ mc) (hs : slots + 6 ≤ ms) :
    W p l e R s m args below meth c H locs cells slots (vx_MQ below Qc XC args s mc ms free) (F0 m pc ls rest) := by
  intro T hT X
  have htr : e.platform.stackTraces = false := (show e.platform.stackTraces = l.stackTraces by rw [X.admits.platform]).trans hl
  have Y := vx_rebase X (R' := { frames := R.frames, locals := R.locals, cells := 1, slots := 6 }) (Nat.le_refl _) (Nat.le_refl _) hRcells hRslots
  obtain ⟨s', hA⟩ : ∃ z, z = (T.setVm s.vm).setFrames (.invoking m args :: below) := ⟨_, rfl⟩
  rw [← hA] at Y
  have hvm : s'.vm = s.vm := by rw [hA]; rfl
  have hhp : s'.heap = H := by rw [hA]; exact hT
  have hW0 : s.WarmedH s'.vm := by rw [hvm]; exact State.WarmedH.refl s
  have hat' : ∀ w ∈ vx_at0 own ic cls names, w.before args s' = true := fun w hw => vx_ot_at hW0 hvm.symm (hgood w (List.mem_cons_of_mem _ (List.mem_cons_of_mem _ hw))) (hat w hw)
  have hk' : (Cond.classLink own ik cls).before args s' = true := vx_ot_at hW0 hvm.symm (hgood _ List.mem_cons_self) hk
  have hini' : (Cond.initialized cls).before args s' = true := vx_ot_at hW0 hvm.symm (hgood _ (List.mem_cons_of_mem _ List.mem_cons_self)) hini
  have hU' : vx_Zq Bundle.tN "UNASSIGNED_STACK" Bundle.steD A s' s'.heap := by rw [hhp]; exact vx_Zq.moved hW0.alike (hU.kept hS.2.1)
  have hN' : vx_Zq Bundle.tN "SUPPRESSED_SENTINEL" Bundle.listD A s' s'.heap := by rw [hhp]; exact vx_Zq.moved hW0.alike (hN.kept hS.2.1)
  have h : ∀ w ∈ Bundle.ownAtoms0 own ic cls names, w.before args s' = true := vx_own hat' (vx_isRefq hU'.1) (vx_isRefq hN'.1) hU'.2.word hN'.2.word
  have hown' : s'.vm.findClass own = some m.cls := by rw [hvm]; exact hown
  have hins : (Cond.instantiable cls 6).before args s' = true := h _ (by simp [Bundle.ownAtoms0])
  obtain ⟨vm₁, cX, kX, hfX, hkX, -, -, X₁, st1⟩ := Y.newCold hexec (own := own) (C := cls) (index := ik) (n := 6) hown' hk' hins hini'
    (g := F0 m pc ls rest) rfl (by rw [hb]; exact d0) (Nat.le_refl _) (Nat.le_refl _)
  generalize hT1 : (T.setVm vm₁).pushCell { cls := cX, slots := kX.instanceTypes.map defaultValue, vm := .none } = T1 at X₁ st1
  have hcat : (Value.ref T.heap.size).category = 1 := rfl
  have hcellA : T1.heap[T.heap.size]? = some (freshCell cX kX) := by rw [← hT1]; exact State.heap_pushCell_size _ _
  have d3' : decode c.code (pc + 3) = .ok (.dup, 1) := by rw [hb]; exact d3
  obtain ⟨U, hsteps, hrun, hend, hW, hsame, ce, hce, hO⟩ := X₁.ctorThrow0 hexec htr (own := own) (cls := cls) (names := names) (ic := ic) hown' hcls hnames h (fun x hx => nomatch hx) hfX hkX hcellA (by rw [hhp, hT]; exact Nat.le_refl _)
    (g := { method := m, pc := pc + 4, locals := ls, stack := .ref T.heap.size :: .ref T.heap.size :: rest, locked := none }) rfl hsize rfl rfl (rest := rest) rfl
    (by rw [hb]; exact d4) (by rw [hb]; exact d7) hout hRframes (by simp only [List.map_cons, List.sum_cons, hcat]; omega) hlocks
  obtain ⟨f1, f2⟩ := vx_frame hsame
  rw [hhp] at f1 f2
  have hWs : s.WarmedH U.vm := State.WarmedH.trans hW0 hW
  have hcl : s.vm.findClass cls = some ce.cls := by
    have h9 := hO.cls
    rw [hvm] at h9
    exact h9
  have hall : s.sameButNew ({ U with vm := s.vm } : State) locs mc ms := by
    subst hA
    obtain ⟨e1, e2⟩ := hsame
    rw [State.setFrames_setFrames] at e1
    have h2 : (T.setVm s.vm).sameButNew ({ U with vm := s.vm } : State) [] (0 + 1) (0 + 6) := ⟨e1, e2⟩
    have h3 := X.same.trans h2
    rw [List.append_nil] at h3
    exact h3.mono hc hs
  refine ⟨U, ?_, .threw T.heap.size, hrun, hend, Or.inr ⟨T.heap.size, rfl, cls, ce, locs, hx U hWs.alike f1 (fun q hq => f2 q hq (fun z hz => nomatch hz)), hce, hO.vm, hcl, hWs, hall, hf⟩⟩
  refine st1 _ ?_
  show Steps p.tables e below (T1.setTop { method := m, pc := pc + 3, locals := ls, stack := .ref T.heap.size :: rest, locked := none }) _
  jvm_step X₁.here [X₁.here.top, hexec, d3', Value.category]
  exact hsteps
/-- 'throw new E("text")': new; dup; ldc; invokespecial; athrow -/
theorem vx_throwS {cc : ByteArray} {pc : Nat} (hexec : p.tables.exec = Jvm.exec) (hb : c.code = cc) (hl : l.stackTraces = false) {own cls text : String} {names : List String} {ik is ic mc ms sa : Nat} {A : Nat → Prop}
    (hown : s.vm.findClass own = some m.cls) (hcls : Bundle.fit cls = true) (hnames : ∀ n ∈ names, Bundle.fit n = true)
    (hk : (Cond.classLink own ik cls).before args s = true) (hini : (Cond.initialized cls).before args s = true) (hstr : vk_R own is text sa s) (hat : ∀ w ∈ vx_atS own ic cls names, w.before args s = true)
    (hgood : ∀ w ∈ Cond.classLink own ik cls :: Cond.initialized cls :: vx_atS own ic cls names, vx_ot w = true)
    (hU : vx_Zq Bundle.tN "UNASSIGNED_STACK" Bundle.steD A s s.heap) (hN : vx_Zq Bundle.tN "SUPPRESSED_SENTINEL" Bundle.listD A s s.heap) (hS : va_S A s.heap H locs) (hsize : ls.size = c.maxLocals)
    (d0 : decode cc pc = .ok (.new ik, 3)) (d3 : decode cc (pc + 3) = .ok (.dup, 1)) (d4 : decode cc (pc + 4) = .ok (.ldc is, 2)) (d6 : decode cc (pc + 6) = .ok (.invokespecial ic, 3)) (d9 : decode cc (pc + 9) = .ok (.athrow, 1))
    (hout : ∀ x ∈ c.exceptionTable.toList, covers x (pc + 9) = false)
    (hRframes : names.length + 3 < R.frames) (hRlocals : (rest.map fun v => v.category).sum + (13 * (names.length + 1) + 43) ≤ R.locals) (hRcells : cells + 1 ≤ R.cells) (hRslots : slots + 6 ≤ R.slots) (hlocks : meth.locks = false)
    (hx : ∀ t : State, s.vm.Alike t.vm → H.size ≤ t.heap.size → (∀ q : Nat, q < H.size → t.heap[q]? = H[q]?) → XC cls s t)
    (hf : ∀ z ∈ locs, free z.base) (hc : cells + 1 ≤ mc) (hs : slots + 6 ≤ ms) :
    W p l e R s m args below meth c H locs cells slots (vx_MQ below Qc XC args s mc ms free) (F0 m pc ls rest) := by
  intro T hT X
  have htr : e.platform.stackTraces = false := (show e.platform.stackTraces = l.stackTraces by rw [X.admits.platform]).trans hl
  have Y := vx_rebase X (R' := { frames := R.frames, locals := R.locals, cells := 1, slots := 6 }) (Nat.le_refl _) (Nat.le_refl _) hRcells hRslots
  obtain ⟨s', hA⟩ : ∃ z, z = (T.setVm s.vm).setFrames (.invoking m args :: below) := ⟨_, rfl⟩
  rw [← hA] at Y
  have hvm : s'.vm = s.vm := by rw [hA]; rfl
  have hhp : s'.heap = H := by rw [hA]; exact hT
  have hW0 : s.WarmedH s'.vm := by rw [hvm]; exact State.WarmedH.refl s
  have hat' : ∀ w ∈ vx_atS own ic cls names, w.before args s' = true := fun w hw => vx_ot_at hW0 hvm.symm (hgood w (List.mem_cons_of_mem _ (List.mem_cons_of_mem _ hw))) (hat w hw)
  have hk' : (Cond.classLink own ik cls).before args s' = true := vx_ot_at hW0 hvm.symm (hgood _ List.mem_cons_self) hk
  have hini' : (Cond.initialized cls).before args s' = true := vx_ot_at hW0 hvm.symm (hgood _ (List.mem_cons_of_mem _ List.mem_cons_self)) hini
  have hU' : vx_Zq Bundle.tN "UNASSIGNED_STACK" Bundle.steD A s' s'.heap := by rw [hhp]; exact vx_Zq.moved hW0.alike (hU.kept hS.2.1)
  have hN' : vx_Zq Bundle.tN "SUPPRESSED_SENTINEL" Bundle.listD A s' s'.heap := by rw [hhp]; exact vx_Zq.moved hW0.alike (hN.kept hS.2.1)
  have h : ∀ w ∈ Bundle.ownAtoms own ic cls names, w.before args s' = true := vx_own hat' (vx_isRefq hU'.1) (vx_isRefq hN'.1) hU'.2.word hN'.2.word
  have hown' : s'.vm.findClass own = some m.cls := by rw [hvm]; exact hown
  have hins : (Cond.instantiable cls 6).before args s' = true := h _ (by simp [Bundle.ownAtoms])
  obtain ⟨vm₁, cX, kX, hfX, hkX, -, -, X₁, st1⟩ := Y.newCold hexec (own := own) (C := cls) (index := ik) (n := 6) hown' hk' hins hini'
    (g := F0 m pc ls rest) rfl (by rw [hb]; exact d0) (Nat.le_refl _) (Nat.le_refl _)
  generalize hT1 : (T.setVm vm₁).pushCell { cls := cX, slots := kX.instanceTypes.map defaultValue, vm := .none } = T1 at X₁ st1
  have hcat : (Value.ref T.heap.size).category = 1 := rfl
  have hcellA : T1.heap[T.heap.size]? = some (freshCell cX kX) := by rw [← hT1]; exact State.heap_pushCell_size _ _
  have d3' : decode c.code (pc + 3) = .ok (.dup, 1) := by rw [hb]; exact d3
  have d4' : decode c.code (pc + 4) = .ok (.ldc is, 2) := by rw [hb]; exact d4
  have hstr' : vk_R own is text sa s' := vk_R.warm hW0 hstr
  obtain ⟨U, hsteps, hrun, hend, hW, hsame, ce, hce, hO⟩ := X₁.ctorThrowS hexec htr (own := own) (cls := cls) (names := names) (ic := ic) hown' hcls hnames h (fun x hx => nomatch hx) hfX hkX hcellA (by rw [hhp, hT]; exact Nat.le_refl _) (msg := .ref sa) rfl
    (g := { method := m, pc := pc + 6, locals := ls, stack := .ref sa :: .ref T.heap.size :: .ref T.heap.size :: rest, locked := none }) rfl hsize rfl rfl (rest := rest) rfl
    (by rw [hb]; exact d6) (by rw [hb]; exact d9) hout hRframes (by simp only [List.map_cons, List.sum_cons, hcat]; omega) hlocks
  obtain ⟨f1, f2⟩ := vx_frame hsame
  rw [hhp] at f1 f2
  have hWs : s.WarmedH U.vm := State.WarmedH.trans hW0 hW
  have hcl : s.vm.findClass cls = some ce.cls := by
    have h9 := hO.cls
    rw [hvm] at h9
    exact h9
  have hall : s.sameButNew ({ U with vm := s.vm } : State) locs mc ms := by
    subst hA
    obtain ⟨e1, e2⟩ := hsame
    rw [State.setFrames_setFrames] at e1
    have h2 : (T.setVm s.vm).sameButNew ({ U with vm := s.vm } : State) [] (0 + 1) (0 + 6) := ⟨e1, e2⟩
    have h3 := X.same.trans h2
    rw [List.append_nil] at h3
    exact h3.mono hc hs
  refine ⟨U, ?_, .threw T.heap.size, hrun, hend, Or.inr ⟨T.heap.size, rfl, cls, ce, locs, hx U hWs.alike f1 (fun q hq => f2 q hq (fun z hz => nomatch hz)), hce, hO.vm, hcl, hWs, hall, hf⟩⟩
  refine st1 _ ?_
  show Steps p.tables e below (T1.setTop { method := m, pc := pc + 3, locals := ls, stack := .ref T.heap.size :: rest, locked := none }) _
  jvm_step X₁.here [X₁.here.top, hexec, d3', Value.category]
  exact X₁.ldcString hexec (own := own) (text := text) (index := is) (a := sa) hown' hstr'.1 hstr'.2
    (g := { method := m, pc := pc + 4, locals := ls, stack := .ref T.heap.size :: .ref T.heap.size :: rest, locked := none }) rfl d4' _ hsteps
/-- 'throw new E("text")', the text by a wide index -/
theorem vx_throwSW {cc : ByteArray} {pc : Nat} (hexec : p.tables.exec = Jvm.exec) (hb : c.code = cc) (hl : l.stackTraces = false) {own cls text : String} {names : List String} {ik is ic mc ms sa : Nat} {A : Nat → Prop}
    (hown : s.vm.findClass own = some m.cls) (hcls : Bundle.fit cls = true) (hnames : ∀ n ∈ names, Bundle.fit n = true)
    (hk : (Cond.classLink own ik cls).before args s = true) (hini : (Cond.initialized cls).before args s = true) (hstr : vk_R own is text sa s) (hat : ∀ w ∈ vx_atS own ic cls names, w.before args s = true)
    (hgood : ∀ w ∈ Cond.classLink own ik cls :: Cond.initialized cls :: vx_atS own ic cls names, vx_ot w = true)
    (hU : vx_Zq Bundle.tN "UNASSIGNED_STACK" Bundle.steD A s s.heap) (hN : vx_Zq Bundle.tN "SUPPRESSED_SENTINEL" Bundle.listD A s s.heap) (hS : va_S A s.heap H locs) (hsize : ls.size = c.maxLocals)
    (d0 : decode cc pc = .ok (.new ik, 3)) (d3 : decode cc (pc + 3) = .ok (.dup, 1)) (d4 : decode cc (pc + 4) = .ok (.ldc_w is, 3)) (d7 : decode cc (pc + 7) = .ok (.invokespecial ic, 3)) (d10 : decode cc (pc + 10) = .ok (.athrow, 1))
    (hout : ∀ x ∈ c.exceptionTable.toList, covers x (pc + 10) = false)
    (hRframes : names.length + 3 < R.frames) (hRlocals : (rest.map fun v => v.category).sum + (13 * (names.length + 1) + 43) ≤ R.locals) (hRcells : cells + 1 ≤ R.cells) (hRslots : slots + 6 ≤ R.slots) (hlocks : meth.locks = false)
    (hx : ∀ t : State, s.vm.Alike t.vm → H.size ≤ t.heap.size → (∀ q : Nat, q < H.size → t.heap[q]? = H[q]?) → XC cls s t)
    (hf : ∀ z ∈ locs, free z.base) (hc : cells + 1 ≤ mc) (hs : slots + 6 ≤ ms) :
    W p l e R s m args below meth c H locs cells slots (vx_MQ below Qc XC args s mc ms free) (F0 m pc ls rest) := by
  intro T hT X
  have htr : e.platform.stackTraces = false := (show e.platform.stackTraces = l.stackTraces by rw [X.admits.platform]).trans hl
  have Y := vx_rebase X (R' := { frames := R.frames, locals := R.locals, cells := 1, slots := 6 }) (Nat.le_refl _) (Nat.le_refl _) hRcells hRslots
  obtain ⟨s', hA⟩ : ∃ z, z = (T.setVm s.vm).setFrames (.invoking m args :: below) := ⟨_, rfl⟩
  rw [← hA] at Y
  have hvm : s'.vm = s.vm := by rw [hA]; rfl
  have hhp : s'.heap = H := by rw [hA]; exact hT
  have hW0 : s.WarmedH s'.vm := by rw [hvm]; exact State.WarmedH.refl s
  have hat' : ∀ w ∈ vx_atS own ic cls names, w.before args s' = true := fun w hw => vx_ot_at hW0 hvm.symm (hgood w (List.mem_cons_of_mem _ (List.mem_cons_of_mem _ hw))) (hat w hw)
  have hk' : (Cond.classLink own ik cls).before args s' = true := vx_ot_at hW0 hvm.symm (hgood _ List.mem_cons_self) hk
  have hini' : (Cond.initialized cls).before args s' = true := vx_ot_at hW0 hvm.symm (hgood _ (List.mem_cons_of_mem _ List.mem_cons_self)) hini
  have hU' : vx_Zq Bundle.tN "UNASSIGNED_STACK" Bundle.steD A s' s'.heap := by rw [hhp]; exact vx_Zq.moved hW0.alike (hU.kept hS.2.1)
  have hN' : vx_Zq Bundle.tN "SUPPRESSED_SENTINEL" Bundle.listD A s' s'.heap := by rw [hhp]; exact vx_Zq.moved hW0.alike (hN.kept hS.2.1)
  have h : ∀ w ∈ Bundle.ownAtoms own ic cls names, w.before args s' = true := vx_own hat' (vx_isRefq hU'.1) (vx_isRefq hN'.1) hU'.2.word hN'.2.word
  have hown' : s'.vm.findClass own = some m.cls := by rw [hvm]; exact hown
  have hins : (Cond.instantiable cls 6).before args s' = true := h _ (by simp [Bundle.ownAtoms])
  obtain ⟨vm₁, cX, kX, hfX, hkX, -, -, X₁, st1⟩ := Y.newCold hexec (own := own) (C := cls) (index := ik) (n := 6) hown' hk' hins hini'
    (g := F0 m pc ls rest) rfl (by rw [hb]; exact d0) (Nat.le_refl _) (Nat.le_refl _)
  generalize hT1 : (T.setVm vm₁).pushCell { cls := cX, slots := kX.instanceTypes.map defaultValue, vm := .none } = T1 at X₁ st1
  have hcat : (Value.ref T.heap.size).category = 1 := rfl
  have hcellA : T1.heap[T.heap.size]? = some (freshCell cX kX) := by rw [← hT1]; exact State.heap_pushCell_size _ _
  have d3' : decode c.code (pc + 3) = .ok (.dup, 1) := by rw [hb]; exact d3
  have d4' : decode c.code (pc + 4) = .ok (.ldc_w is, 3) := by rw [hb]; exact d4
  have hstr' : vk_R own is text sa s' := vk_R.warm hW0 hstr
  obtain ⟨U, hsteps, hrun, hend, hW, hsame, ce, hce, hO⟩ := X₁.ctorThrowS hexec htr (own := own) (cls := cls) (names := names) (ic := ic) hown' hcls hnames h (fun x hx => nomatch hx) hfX hkX hcellA (by rw [hhp, hT]; exact Nat.le_refl _) (msg := .ref sa) rfl
    (g := { method := m, pc := pc + 7, locals := ls, stack := .ref sa :: .ref T.heap.size :: .ref T.heap.size :: rest, locked := none }) rfl hsize rfl rfl (rest := rest) rfl
    (by rw [hb]; exact d7) (by rw [hb]; exact d10) hout hRframes (by simp only [List.map_cons, List.sum_cons, hcat]; omega) hlocks
  obtain ⟨f1, f2⟩ := vx_frame hsame
  rw [hhp] at f1 f2
  have hWs : s.WarmedH U.vm := State.WarmedH.trans hW0 hW
  have hcl : s.vm.findClass cls = some ce.cls := by
    have h9 := hO.cls
    rw [hvm] at h9
    exact h9
  have hall : s.sameButNew ({ U with vm := s.vm } : State) locs mc ms := by
    subst hA
    obtain ⟨e1, e2⟩ := hsame
    rw [State.setFrames_setFrames] at e1
    have h2 : (T.setVm s.vm).sameButNew ({ U with vm := s.vm } : State) [] (0 + 1) (0 + 6) := ⟨e1, e2⟩
    have h3 := X.same.trans h2
    rw [List.append_nil] at h3
    exact h3.mono hc hs
  refine ⟨U, ?_, .threw T.heap.size, hrun, hend, Or.inr ⟨T.heap.size, rfl, cls, ce, locs, hx U hWs.alike f1 (fun q hq => f2 q hq (fun z hz => nomatch hz)), hce, hO.vm, hcl, hWs, hall, hf⟩⟩
  refine st1 _ ?_
  show Steps p.tables e below (T1.setTop { method := m, pc := pc + 3, locals := ls, stack := .ref T.heap.size :: rest, locked := none }) _
  jvm_step X₁.here [X₁.here.top, hexec, d3', Value.category]
  exact X₁.ldcStringW hexec (own := own) (text := text) (index := is) (a := sa) hown' hstr'.1 hstr'.2
    (g := { method := m, pc := pc + 4, locals := ls, stack := .ref T.heap.size :: .ref T.heap.size :: rest, locked := none }) rfl d4' _ hsteps
end Ends
section Bodies
variable {l : Launch}
theorem vx_ofW {y : MethodName} {ws ws' : List Cond} {rm : Room} {Pc : Array Value → State → Prop} {Qc : Array Value → State → Outcome → State → Prop} {XC : String → State → State → Prop} {mc ms : Nat} {free : Addr → Prop} {cc : ByteArray} {maxL : Nat} {ret : Option FieldType}
    (hy : plainName y.cls = true) (hw : ws = Cond.code y cc maxL ret :: ws')
    (body : ∀ p e s m args below meth c s₁, BodyLoose p l y (headSpec ws rm) cc maxL ret e s m args below meth c s₁ → c.maxLocals = maxL → (∀ x ∈ c.exceptionTable.toList, False) → Pc args s →
      W p l e (headSpec ws rm).room s m args below meth c s.heap [] 0 0 (vx_MQ below Qc XC args s mc ms free) (entryFrame m args maxL)) : vx_Met l y ws rm Pc Qc XC mc ms free := by
  refine MetFree.of_bodyS (code := cc) (maxLocals := maxL) (ret := ret) hy ?_ ?_
  · intro args s m h hn
    obtain ⟨meth, c, h1, h2, h3, h4, h5, h6, -, -⟩ := Cond.code_spec hn (atoms_spec (ws := ws) h _ (by rw [hw]; exact List.mem_cons_self))
    exact ⟨meth, c, h1, h2, h3, h4, h5, h6⟩
  · intro p e s m args below meth c s₁ B hml hP _
    have hh0 : s₁.heap = s.heap := by rw [B.state]; rfl
    have ht : ∀ x ∈ c.exceptionTable.toList, False := by
      obtain ⟨meth9, c9, h1, h2, -, -, -, -, h7, -⟩ := Cond.code_spec B.named (atoms_spec (ws := ws) B.pre _ (by rw [hw]; exact List.mem_cons_self))
      cases Option.some.inj (h1.symm.trans B.method)
      cases Option.some.inj (h2.symm.trans (Stand.of_body B).code)
      intro x hx
      rw [Array.isEmpty_iff.mp h7] at hx
      cases hx
    obtain ⟨t, a1, o, b1, b2, b3⟩ := body p e s m args below meth c s₁ B hml ht hP s₁ hh0 (Stand.of_body B)
    exact ⟨t, o, a1, b1, b2, b3⟩
/-- the table of a body with handlers -/
theorem vx_table {p : Program} {x y : MethodName} {S : Spec} {cc bytes : ByteArray} {maxL maxL' : Nat} {ret ret' : Option FieldType} {e : Env} {s s₁ : State} {m : MethodId} {args : Array Value} {below : List Frame} {meth : Method} {c : Code} {hh : List (Nat × Nat × Nat × Nat)}
    (B : BodyLoose p l y S cc maxL ret e s m args below meth c s₁) (h : (Cond.codeWith y bytes maxL' ret' hh).before args s = true) : c.exceptionTable.toList = tableOf hh := by
  obtain ⟨m9, meth9, c9, hn9, h1, h2, -, -, h6, -⟩ := Cond.codeWith_spec h
  cases Option.some.inj (hn9.symm.trans B.named)
  cases Option.some.inj (h1.symm.trans B.method)
  cases Option.some.inj (h2.symm.trans (Stand.of_body B).code)
  rw [← h6, table_eq]
end Bodies
end VXA
/-! ===== END ===== -/
/-! ===== BEGIN a static call of a method with an exception table ===== -/
section VXS
variable {p : Program} {l : Launch} {e : Env} {R : Room} {s : State} {m : MethodId} {args : Array Value} {below : List Frame} {meth : Method} {c : Code} {T : State} {H : Heap} {locs : List Loc} {cells slots : Nat}
abbrev vx_CSW (R : Room) (s : State) (args : Array Value) (own : String) (index : Nat) (y : MethodName) (bytes : ByteArray) (maxL : Nat) (ret : Option FieldType) (hh : List (Nat × Nat × Nat × Nat)) (ws : List Cond) (rm : Room) (mc ms n : Nat) : Prop :=
  (rm.cells = mc ∧ rm.slots = ms ∧ rm.frames + 1 ≤ R.frames ∧ 8 + (maxL + 11) + rm.locals ≤ R.locals ∧ (∀ w ∈ ws, ∀ (a' : Array Value) (U : State), s.WarmedH U.vm → w.before a' U = true) ∧ Cond.codeWith y bytes maxL ret hh ∈ ws) ∧
  (Cond.codeWith y bytes maxL ret hh).before args s = true ∧ (Cond.initialized y.cls).before args s = true ∧ (y.cls ≠ "java/lang/invoke/MethodHandle" ∧ y.cls ≠ "java/lang/invoke/VarHandle") ∧
  (∀ sig, parseMethodDescriptor y.desc = some sig → n = sig.parameters.length) ∧ (Cond.methodLink own index y).before args s = true ∧ (Cond.static y).before args s = true
theorem vx_cwSW {own : String} {index maxL mc ms : Nat} {y : MethodName} {bytes : ByteArray} {ret : Option FieldType} {hh : List (Nat × Nat × Nat × Nat)} {Ts ws ws' : List Cond} {rm : Room} (n : Nat) (ht : ∀ w ∈ Ts, w.before args s = true) (hT : GoodIn Ts (va_wsS own index y ws)) (hw : ws = Cond.codeWith y bytes maxL ret hh :: ws') (hrc : rm.cells = mc) (hrs : rm.slots = ms)
    (hd : y.cls ≠ "java/lang/invoke/MethodHandle" ∧ y.cls ≠ "java/lang/invoke/VarHandle" ∧ (parseMethodDescriptor y.desc).map (fun d => d.parameters.length) = some n) (hR : rm.frames + 1 ≤ R.frames ∧ 8 + (maxL + 11) + rm.locals ≤ R.locals) :
    vx_CSW R s args own index y bytes maxL ret hh ws rm mc ms n := by
  have ok : ∀ w ∈ va_wsS own index y ws, w.before args s = true := fun w h => ht w (hT w h).1
  have hG : GoodIn Ts ws := fun w h => hT w (by unfold va_wsS; exact List.mem_append_right _ h)
  have hc : Cond.codeWith y bytes maxL ret hh ∈ ws := by rw [hw]; exact List.mem_cons_self
  refine ⟨⟨hrc, hrs, hR.1, hR.2, pay_in ht hG, hc⟩, ht _ (hG _ hc).1, ok _ (by simp [va_wsS]), ⟨hd.1, hd.2.1⟩, fun sig h => ?_, ok _ (by simp [va_wsS]), ok _ (by simp [va_wsS])⟩
  have h2 := hd.2.2
  rw [h] at h2
  exact (Option.some.inj h2).symm
theorem vx_callSW (X : Stand p l e R s m args below meth c T locs cells slots) (hexec : p.tables.exec = Jvm.exec) {own : String} {index : Nat} {y : MethodName} {bytes : ByteArray} {maxL : Nat} {ret : Option FieldType} {hh : List (Nat × Nat × Nat × Nat)}
    (hown : s.vm.findClass own = some m.cls) (hlink : (Cond.methodLink own index y).before args s = true) (hstat : (Cond.static y).before args s = true) (hinit : (Cond.initialized y.cls).before args s = true)
    (hcode : (Cond.codeWith y bytes maxL ret hh).before args s = true) (hy : y.cls ≠ "java/lang/invoke/MethodHandle" ∧ y.cls ≠ "java/lang/invoke/VarHandle")
    {W9 : Nat} {Pre : Pt → Array Value → Prop} {Post : Pt → Array Value → Option Value → Pt → Prop} (hK : Back l R p e below s args y 3 W9 Pre Post)
    {g : JFrame} (hg : g.method = m) (hsize : g.locals.size = c.maxLocals) {argsL rest : List Value} (hlen : ∀ sig, parseMethodDescriptor y.desc = some sig → argsL.length = sig.parameters.length)
    (hstack : g.stack = argsL.reverse ++ rest) (hW : 2 * g.monitorRoom + (rest.map fun v => v.category).sum ≤ W9) (hdg : decode c.code g.pc = .ok (.invokestatic index, 3))
    (hpre : ∀ vm₁, s.WarmedH vm₁ → Pre ⟨T.setVm vm₁, locs, cells, slots⟩ argsL.toArray) :
    ∃ (v : Option Value) (vm₁ : Vm) (B : Pt), s.WarmedH vm₁ ∧ Stand p l e R s m args below meth c B.U B.locs B.cells B.slots ∧ Post ⟨T.setVm vm₁, locs, cells, slots⟩ argsL.toArray v B ∧
      ∀ target, Steps p.tables e below (B.U.setTop { g with pc := g.pc + 3, stack := v.toList ++ rest }) target → Steps p.tables e below (T.setTop g) target := by
  obtain ⟨mk, methM, cM, hnamed, hmethM, -, -, -, -, -, -, hsigM⟩ := Cond.codeWith_spec hcode
  have hstatic : methM.isStatic = true := Cond.static_spec hnamed hmethM hstat
  obtain ⟨kP, hkP, -⟩ := className_of_methodNamed hnamed
  have hinitP : kP.init = .initialized := Cond.initialized_spec (findClass_of_methodNamed hnamed) hkP hinit
  obtain ⟨vm₁, X₁, hstep₁⟩ := X.invokestatic hexec hown hlink hnamed hmethM hstatic hkP hinitP hy (g := g) hg (argsL := argsL) (rest := rest) (hlen _ hsigM) hstack hdg
  obtain ⟨v, B, X', hpost, hsteps⟩ := hK m meth c ⟨T.setVm vm₁, locs, cells, slots⟩ { g with stack := rest } (.invokestatic index) mk argsL.toArray X₁ hg hsize hdg hW (X₁.named hnamed) (hpre vm₁ X₁.warmed)
  exact ⟨v, vm₁, B, X₁.warmed, X', hpost, fun target h => hstep₁ _ fun acts => by rw [doInvoke_state]; exact hsteps.trans h⟩
theorem vx_runSW {y : MethodName} {bytes cc : ByteArray} {maxL nL mc ms n index : Nat} {ret : Option FieldType} {hh : List (Nat × Nat × Nat × Nat)} {ws : List Cond} {rm : Room} {Pc : Array Value → State → Prop} {Qc : Array Value → State → Outcome → State → Prop} {free : Addr → Prop} {Ts : List Cond} {own : String} {As rest : List Value} {g : JFrame}
    (S : CallFix p m c cc nL s args Ts own) (hM : Met l y ws rm Pc Qc mc ms free) (cw : vx_CSW R s args own index y bytes maxL ret hh ws rm mc ms n) (hp : PreS s H Pc As)
    (hg : g.method = m) (hn : As.length = n) (hsize : g.locals.size = nL) (hstack : g.stack = As.reverse ++ rest) (hW : 2 * g.monitorRoom + (rest.map fun v => v.category).sum ≤ 8) (hdg : decode cc g.pc = .ok (.invokestatic index, 3)) (hf : cells + mc ≤ R.cells ∧ slots + ms ≤ R.slots) :
    va_Run p l e R s m args below meth c H locs cells slots mc ms g rest (Qc As.toArray) (free) := by
  obtain ⟨⟨hrc, hrs, hfr, hlo, hws, hcw⟩, hcode, hini, hy, hlen, hl, hstt⟩ := cw
  have hK : Back l R p e below s args y 3 8 (PreOf R mc ms Pc) (PostOf Qc mc ms free) := va_backW (hh := hh) (bytes := bytes) (maxL := maxL) (ret := ret) hM hp.1 hrc hrs hfr hlo hws hcw (fun a' U hW => word_at hW (Or.inl (by first | rfl | simp [Cond.onTables, Cond.keeps, Cond.steady])) hini)
  obtain ⟨hx, hb, hml, ho, -⟩ := S
  intro T hT X
  obtain ⟨v, vm₁, ⟨U', l2, c2, s2⟩, hW₁, X', ⟨g', mk, t, L, e1, e2, hq, h1, hL, h2, h3⟩, st⟩ := vx_callSW X hx (hh := hh) (bytes := bytes) (maxL := maxL) (ret := ret) ho hl hstt hini hcode hy hK hg (hsize.trans hml.symm) (argsL := As) (rest := rest) (fun sig h => hn.trans (hlen sig h)) hstack hW (by rw [hb]; exact hdg)
    (fun vm₁ hW₁ => ⟨hf.1, hf.2, hp.2 (T.setVm vm₁) hT hW₁⟩)
  dsimp only [Pt.U, Pt.locs, Pt.cells, Pt.slots] at X' e1 e2 h1 h2 h3 st
  subst h1; subst h2; subst h3
  exact ⟨v, (T.setVm vm₁).calling g' mk As.toArray, t, U', L, hT, X', hL, e1, e2, hq, st⟩
/-- not caught here, past rows that name other classes: it goes on to the caller -/
theorem vx_outP {p : Program} {l : Launch} {e : Env} {R : Room} {s : State} {m : MethodId} {args : Array Value} {below : List Frame} {meth : Method} {c : Code} {H : Heap} {locs : List Loc} {cells slots : Nat} {free : Addr → Prop} {ls : Array Slot} {rest : List Value} {Qc : Array Value → State → Outcome → State → Prop} {XC : String → State → State → Prop}
    {pc : Nat} {own E : String} {ce : Cell} {q : Addr} {mc ms : Nat} (hown : s.vm.findClass own = some m.cls) (hlocks : meth.locks = false)
    (hpass : ∀ z ∈ c.exceptionTable.toList, covers z pc = false ∨ (z.catchType ≠ 0 ∧ ∃ nm : String, (Cond.classLink own z.catchType nm).before args s = true ∧ va_Nc E nm s)) (hcell : H[q]? = some ce) (hv : ce.vm = .none) (hcl : s.vm.findClass E = some ce.cls)
    (hx : ∀ t : State, t.heap = H → s.vm.Alike t.vm → XC E s t) (hf : ∀ z ∈ locs, free z.base) (hc : cells ≤ mc) (hs : slots ≤ ms) :
    vx_W p l e R s m args below meth c H locs cells slots (vx_MQ below Qc XC args s mc ms free) (F0 m pc ls rest) q := by
  intro T hT X
  have hpl : e.platform.magicAccessors = ({} : Platform).magicAccessors := by rw [X.admits.platform]
  obtain ⟨vm', hW', X', st⟩ := X.outThrough hlocks q (g := F0 m pc ls rest) rfl rfl rfl (cell := ce) (by rw [hT]; exact hcell) (by rw [hv]; rfl)
    (by obtain ⟨k9, h9, -⟩ := Vm.findClass_spec hcl; exact ⟨k9, h9⟩) (fun z hz => by
      rcases hpass z hz with h | ⟨hz0, nm, hl1, hn1⟩
      · exact Or.inl h
      · obtain ⟨c6, hc6, hcl6⟩ := Cond.classLink_spec hown hl1 e.platform hpl
        obtain ⟨a8, b8, h1, h2, h3⟩ := hn1
        cases Option.some.inj (h1.symm.trans hcl)
        cases Option.some.inj (h2.symm.trans hc6)
        exact Or.inr ⟨hz0, _, hcl6, h3⟩)
  obtain ⟨g₀, hfr⟩ := X'.frames_eq
  have hcell9 : ((T.setVm vm').setFrames (.throwing q :: below)).heap[q]? = some ce := by
    show T.heap[q]? = some ce
    rw [hT]; exact hcell
  have hend : Ended ((T.setVm vm').setFrames (.throwing q :: below)) below (.threw q) := State.frames_setFrames _ (State.cur_lt_of_frames hfr)
  refine ⟨(T.setVm vm').setFrames (.throwing q :: below), ?_, .threw q, X'.here.running, hend, Or.inr ⟨q, rfl, E, ce, locs, hx _ hT (X'.ends _).1.alike, hcell9, hv, hcl, (X'.ends _).1, (X'.ends _).2.mono hc hs, hf⟩⟩
  rw [X.pushThrowing_eq]
  exact st
/-- a thing of a world lies in the heap -/
theorem vx_lt {D : va_G} {cl : List vw_C} {ws : va_W} {H1 : Heap} (h : va_P D cl ws H1) {k : Nat} {q : Nat × va_E} (hk : ws[k]? = some q) : q.1 < H1.size := (h k q hk).lt
end VXS
/-! ===== END ===== -/
/-! ===== BEGIN methods with a table of their own: called by a name, returning or throwing ===== -/
section VXH
/-! vx_backW, vx_callVX, vx_callSX, vx_callVW, vx_runVW, vx_runVX, vx_runSX, vx_ofWH follow the same proofs as their sisters above (Free/Laws.lean, Shelf42/LK1.lean); vx_outP calls Shelf42/NT130.lean (outThrough). -/
section
variable {l : Launch} {R : Room} {p : Program} {e : Env} {below : List Frame} {s : State} {sargs : Array Value} {y : MethodName} {len W9 : Nat}
theorem vx_backW {ws : List Cond} {rm : Room} {Pc : Array Value → State → Prop} {Qc : Array Value → State → Outcome → State → Prop} {XC : String → State → State → Prop} {mc ms : Nat} {free : Addr → Prop} {bytes : ByteArray} {maxL : Nat} {ret : Option FieldType} {hh : List (Nat × Nat × Nat × Nat)}
    (hM : vx_Met l y ws rm Pc Qc XC mc ms free) (hblind : FrameBlind Pc) (hrc : rm.cells = mc) (hrs : rm.slots = ms)
    (hframes : rm.frames + 1 ≤ R.frames) (hlocals : W9 + (maxL + 11) + rm.locals ≤ R.locals)
    (hws : ∀ w ∈ ws, ∀ a' U, s.WarmedH U.vm → w.before a' U = true) (hcode : Cond.codeWith y bytes maxL ret hh ∈ ws) (hinit : ∀ a' U, s.WarmedH U.vm → (Cond.initialized y.cls).before a' U = true) :
    vx_Back l R p e below s sargs y len W9 (PreOf R mc ms Pc) (PostOf Qc mc ms free) (vx_Post XC mc ms free) := by
  intro m meth c A g ig mk a X hg hsize hdg hW hn hp
  have h1 : (headSpec ws rm).pre.before a A.U = true := atoms_intro fun w hw => hws w hw _ _ X.warmed
  have h2 : (Cond.codeWith y bytes maxL ret hh).before a A.U = true := hws _ hcode _ _ X.warmed
  have h3 : (Cond.initialized y.cls).before a A.U = true := hinit _ _ X.warmed
  have h4 : A.cells + (headSpec ws rm).room.cells ≤ R.cells := by rw [show (headSpec ws rm).room.cells = mc from hrc]; exact hp.1
  have h5 : A.slots + (headSpec ws rm).room.slots ≤ R.slots := by rw [show (headSpec ws rm).room.slots = ms from hrs]; exact hp.2.1
  have hPc : Pc a (A.U.calling g mk a) := hblind _ _ _ _ hp.2.2
  obtain ⟨U, Ls, c0, s0⟩ := A
  dsimp only [Pt.U, Pt.locs, Pt.cells, Pt.slots] at h1 h2 h3 h4 h5 X hn hPc ⊢
  obtain ⟨m9, methY, cY, hn9, hmY, hcY, -, hlY, -⟩ := Cond.codeWith_spec h2
  cases Option.some.inj (hn9.symm.trans hn)
  obtain ⟨kY, hkY, -⟩ := className_of_methodNamed hn
  have hinitY : kY.init = .initialized := Cond.initialized_spec (findClass_of_methodNamed hn) hkY h3
  have h : At U g.method c below := by rw [hg]; exact X.here
  have hlocals9 : W9 + (maxL + 11) + (headSpec ws rm).room.locals ≤ R.locals := hlocals
  have happ : (headSpec ws rm).appliesLoose y e.platform (U.calling g mk a) = true :=
    Spec.appliesLoose_calling (g := g) h hdg hn hkY hinitY
      (X.room_calling (g := g) (R' := (headSpec ws rm).room) hsize hmY hcY hframes (by rw [hlY]; omega) h4 h5) h1
  obtain ⟨mid, hmid⟩ := h.above
  have hfr : (U.setTop g).frames = (.java g :: mid) ++ below := by rw [State.frames_setTop' g h.top, hmid]; rfl
  obtain ⟨o, s₂, hsteps, -, hend, hq⟩ := Steps.callFree hM p X.admits X.cas X.clock (acts := []) hfr happ hPc trivial
  have hq' : vx_Q Qc XC mc ms free a (U.calling g mk a) o s₂ := hq
  rw [State.frames_setTop' g h.top] at hend
  obtain ⟨g₀, hg0⟩ := Option.isSome_iff_exists.mp h.top
  obtain ⟨r, hr⟩ := State.topJava?_eq_some.mp hg0
  have hr' : (({ U with heap := s₂.heap, slotsUsed := s₂.slotsUsed } : State).setVm s₂.vm).frames = .java g₀ :: r := hr
  rcases hq' with ⟨hqc, L, hfe, hL⟩ | ⟨q, rfl, E, ce, L, hx, hce, hcv, hcl, hW₂, hsm, hL⟩
  · obtain ⟨⟨v, rfl⟩, hW₂, e2, q2, q3, q4, q5, q6⟩ := id hfe
    have e3 : s₂ = ({ (U.calling g mk a).setFrames s₂.frames with heap := s₂.heap, slotsUsed := s₂.slotsUsed } : State).setVm s₂.vm := by
      have : s₂ = ({ s₂ with vm := (U.calling g mk a).vm } : State).setVm s₂.vm := rfl
      rw [e2] at this
      exact this
    obtain ⟨c₂, i₂, len₂, hc₂, hd₂, hf₂⟩ := hend
    have hW' : U.WarmedH s₂.vm := hW₂
    have hcc : c₂ = c := by
      have h1 : s₂.code? g.method = U.code? g.method := by
        rw [State.code?_eq, State.code?_eq, hW'.alike.method?]
      exact Option.some.inj (hc₂.symm.trans (h1.trans h.code))
    subst hcc
    have hlen : len₂ = len := by rw [hdg] at hd₂; cases hd₂; rfl
    subst hlen
    have hs₂ : s₂ = (({ U with heap := s₂.heap, slotsUsed := s₂.slotsUsed } : State).setVm s₂.vm).setTop { g with pc := g.pc + len₂, stack := v.toList ++ g.stack } := by
      refine e3.trans ?_
      rw [hf₂, State.calling_eq h.top, State.setFrames_setFrames, State.setTop_of_frames _ hr', hr]
      rfl
    have hsame : U.sameButNew ({ U with heap := s₂.heap, slotsUsed := s₂.slotsUsed } : State) L mc ms := by
      refine ⟨?_, q2, q3, q4, q5, q6⟩
      obtain ⟨t, ht, -⟩ := State.frames_cons hr
      show ({ U with heap := s₂.heap, slotsUsed := s₂.slotsUsed } : State) = { U.setFrames U.frames with heap := s₂.heap, slotsUsed := s₂.slotsUsed }
      rw [State.setFrames_self ht]
    subst hg
    refine Or.inl ⟨v, ⟨(({ U with heap := s₂.heap, slotsUsed := s₂.slotsUsed } : State).setVm s₂.vm), Ls ++ L, c0 + mc, s0 + ms⟩,
      ⟨X.admits, X.cas, X.clock, X.frames, X.room, X.hears, X.method, X.code, (X.here.setHeapUsed s₂.heap s₂.slotsUsed).setVm hW'.alike, X.tail, State.WarmedH.trans X.warmed hW', X.limits, X.bytes, X.same.trans (hsame.setVm s.vm)⟩,
      ⟨g, mk, s₂, L, rfl, rfl, hqc, rfl, hL, rfl, rfl⟩, ?_⟩
    show Steps p.tables e below _ ((({ U with heap := s₂.heap, slotsUsed := s₂.slotsUsed } : State).setVm s₂.vm).setTop { g with pc := g.pc + len₂, stack := v.toList ++ g.stack })
    rw [← hs₂]
    exact hsteps
  · obtain ⟨e2, q2, q3, q4, q5, q6⟩ := id hsm
    have e3 : s₂ = ({ (U.calling g mk a).setFrames s₂.frames with heap := s₂.heap, slotsUsed := s₂.slotsUsed } : State).setVm s₂.vm := by
      have : s₂ = ({ s₂ with vm := (U.calling g mk a).vm } : State).setVm s₂.vm := rfl
      rw [e2] at this
      exact this
    have hf₂ : s₂.frames = .throwing q :: .java g :: U.frames.tail := hend
    have hW' : U.WarmedH s₂.vm := hW₂
    have hs₂ : s₂ = ((({ U with heap := s₂.heap, slotsUsed := s₂.slotsUsed } : State).setVm s₂.vm).setTop g).pushFrame (.throwing q) := by
      refine e3.trans ?_
      rw [hf₂, State.calling_eq h.top, State.setFrames_setFrames, State.pushFrame, State.frames_setTop _ hr', State.setTop_of_frames _ hr', State.setFrames_setFrames, hr]
      rfl
    have hsame : U.sameButNew ({ U with heap := s₂.heap, slotsUsed := s₂.slotsUsed } : State) L mc ms := by
      refine ⟨?_, q2, q3, q4, q5, q6⟩
      obtain ⟨t, ht, -⟩ := State.frames_cons hr
      show ({ U with heap := s₂.heap, slotsUsed := s₂.slotsUsed } : State) = { U.setFrames U.frames with heap := s₂.heap, slotsUsed := s₂.slotsUsed }
      rw [State.setFrames_self ht]
    subst hg
    refine Or.inr ⟨q, ⟨(({ U with heap := s₂.heap, slotsUsed := s₂.slotsUsed } : State).setVm s₂.vm), Ls ++ L, c0 + mc, s0 + ms⟩,
      ⟨X.admits, X.cas, X.clock, X.frames, X.room, X.hears, X.method, X.code, (X.here.setHeapUsed s₂.heap s₂.slotsUsed).setVm hW'.alike, X.tail, State.WarmedH.trans X.warmed hW', X.limits, X.bytes, X.same.trans (hsame.setVm s.vm)⟩,
      ⟨g, mk, s₂, L, E, ce, rfl, rfl, hx, hce, hcv, hcl, rfl, hL, rfl, rfl⟩, ?_⟩
    show Steps p.tables e below _ (((({ U with heap := s₂.heap, slotsUsed := s₂.slotsUsed } : State).setVm s₂.vm).setTop g).pushFrame (.throwing q))
    rw [← hs₂]
    exact hsteps
end
variable {p : Program} {l : Launch} {e : Env} {R : Room} {s : State} {m : MethodId} {args : Array Value} {below : List Frame} {meth : Method} {c : Code} {T : State} {H : Heap} {locs : List Loc} {cells slots : Nat}
theorem vx_callVX (X : Stand p l e R s m args below meth c T locs cells slots) (hexec : p.tables.exec = Jvm.exec) {own C : String} {index : Nat} {y : MethodName} {bytes : ByteArray} {maxL : Nat} {ret : Option FieldType} {hh : List (Nat × Nat × Nat × Nat)}
    (hown : s.vm.findClass own = some m.cls) (hlink : (Cond.methodLink own index y).before args s = true) (hinst : (Cond.instanceMethod y).before args s = true) (hsel : (Cond.selects C y y).before args s = true)
    (hcode : (Cond.codeWith y bytes maxL ret hh).before args s = true) (hy : y.cls ≠ "java/lang/invoke/MethodHandle" ∧ y.cls ≠ "java/lang/invoke/VarHandle")
    {W9 : Nat} {Pre : Pt → Array Value → Prop} {Post : Pt → Array Value → Option Value → Pt → Prop} {PostX : Pt → Array Value → Addr → Pt → Prop} (hK : vx_Back l R p e below s args y 3 W9 Pre Post PostX)
    {b : Addr} {cellB : Cell} (hcell : T.heap[b]? = some cellB) (hobj : cellB.vm.isStatics = false) (hcls : s.vm.findClass C = some cellB.cls)
    {g : JFrame} (hg : g.method = m) (hsize : g.locals.size = c.maxLocals) {argsL rest : List Value} (hlen : ∀ sig, parseMethodDescriptor y.desc = some sig → argsL.length = sig.parameters.length)
    (hstack : g.stack = argsL.reverse ++ .ref b :: rest) (hW : 2 * g.monitorRoom + (rest.map fun v => v.category).sum ≤ W9) (hdg : decode c.code g.pc = .ok (.invokevirtual index, 3))
    (hpre : ∀ vm₁, s.WarmedH vm₁ → Pre ⟨T.setVm vm₁, locs, cells, slots⟩ (Value.ref b :: argsL).toArray) :
    (∃ (v : Option Value) (vm₁ : Vm) (B : Pt), s.WarmedH vm₁ ∧ Stand p l e R s m args below meth c B.U B.locs B.cells B.slots ∧ Post ⟨T.setVm vm₁, locs, cells, slots⟩ (Value.ref b :: argsL).toArray v B ∧
      ∀ target, Steps p.tables e below (B.U.setTop { g with pc := g.pc + 3, stack := v.toList ++ rest }) target → Steps p.tables e below (T.setTop g) target) ∨
    (∃ (q : Addr) (vm₁ : Vm) (B : Pt), s.WarmedH vm₁ ∧ Stand p l e R s m args below meth c B.U B.locs B.cells B.slots ∧ PostX ⟨T.setVm vm₁, locs, cells, slots⟩ (Value.ref b :: argsL).toArray q B ∧
      Steps p.tables e below (T.setTop g) ((B.U.setTop { g with stack := rest }).pushFrame (.throwing q))) := by
  obtain ⟨mk, methM, hnamed, hmethM, hstM, habM⟩ := Cond.instanceMethod_spec hinst
  obtain ⟨m8, methM', cM, hn8, hmethM', -, -, -, -, -, -, hsigM⟩ := Cond.codeWith_spec hcode
  cases Option.some.inj (hn8.symm.trans hnamed)
  cases hmethM.symm.trans hmethM'
  obtain ⟨c2, r2, m2, q1, q2, q3, q4, kP, hkP, hkPi⟩ := Cond.selects_spec hsel
  cases hcls.symm.trans q1
  cases (State.methodFound?_of_named hnamed hy).symm.trans q2
  cases hnamed.symm.trans q3
  have hselP : selectMethod e.platform s.vm cellB.cls mk = .method mk := by rw [Launch.admits_selectMethod X.admits]; exact q4
  obtain ⟨vm₁, X₁, hstep₁⟩ := X.invokevirtual hexec hown hlink hnamed hmethM hstM hkP hkPi hy (a := b) (cell := cellB) hcell
    (fun z h => by rw [h] at hobj; cases hobj) hselP hmethM habM hkP hkPi (g := g) hg (argsL := argsL) (rest := rest) (hlen _ hsigM) hstack hdg
  rcases hK m meth c ⟨T.setVm vm₁, locs, cells, slots⟩ { g with stack := rest } (.invokevirtual index) mk (Value.ref b :: argsL).toArray X₁ hg hsize hdg hW (X₁.named hnamed) (hpre vm₁ X₁.warmed) with ⟨v, B, X', hpost, hsteps⟩ | ⟨q, B, X', hpost, hsteps⟩
  · exact Or.inl ⟨v, vm₁, B, X₁.warmed, X', hpost, fun target h => hstep₁ _ fun acts => by rw [doInvoke_state]; exact hsteps.trans h⟩
  · exact Or.inr ⟨q, vm₁, B, X₁.warmed, X', hpost, hstep₁ _ fun acts => by rw [doInvoke_state]; exact hsteps⟩
theorem vx_callSX (X : Stand p l e R s m args below meth c T locs cells slots) (hexec : p.tables.exec = Jvm.exec) {own : String} {index : Nat} {y : MethodName} {bytes : ByteArray} {maxL : Nat} {ret : Option FieldType} {hh : List (Nat × Nat × Nat × Nat)}
    (hown : s.vm.findClass own = some m.cls) (hlink : (Cond.methodLink own index y).before args s = true) (hstat : (Cond.static y).before args s = true) (hinit : (Cond.initialized y.cls).before args s = true)
    (hcode : (Cond.codeWith y bytes maxL ret hh).before args s = true) (hy : y.cls ≠ "java/lang/invoke/MethodHandle" ∧ y.cls ≠ "java/lang/invoke/VarHandle")
    {W9 : Nat} {Pre : Pt → Array Value → Prop} {Post : Pt → Array Value → Option Value → Pt → Prop} {PostX : Pt → Array Value → Addr → Pt → Prop} (hK : vx_Back l R p e below s args y 3 W9 Pre Post PostX)
    {g : JFrame} (hg : g.method = m) (hsize : g.locals.size = c.maxLocals) {argsL rest : List Value} (hlen : ∀ sig, parseMethodDescriptor y.desc = some sig → argsL.length = sig.parameters.length)
    (hstack : g.stack = argsL.reverse ++ rest) (hW : 2 * g.monitorRoom + (rest.map fun v => v.category).sum ≤ W9) (hdg : decode c.code g.pc = .ok (.invokestatic index, 3))
    (hpre : ∀ vm₁, s.WarmedH vm₁ → Pre ⟨T.setVm vm₁, locs, cells, slots⟩ argsL.toArray) :
    (∃ (v : Option Value) (vm₁ : Vm) (B : Pt), s.WarmedH vm₁ ∧ Stand p l e R s m args below meth c B.U B.locs B.cells B.slots ∧ Post ⟨T.setVm vm₁, locs, cells, slots⟩ argsL.toArray v B ∧
      ∀ target, Steps p.tables e below (B.U.setTop { g with pc := g.pc + 3, stack := v.toList ++ rest }) target → Steps p.tables e below (T.setTop g) target) ∨
    (∃ (q : Addr) (vm₁ : Vm) (B : Pt), s.WarmedH vm₁ ∧ Stand p l e R s m args below meth c B.U B.locs B.cells B.slots ∧ PostX ⟨T.setVm vm₁, locs, cells, slots⟩ argsL.toArray q B ∧
      Steps p.tables e below (T.setTop g) ((B.U.setTop { g with stack := rest }).pushFrame (.throwing q))) := by
  obtain ⟨mk, methM, cM, hnamed, hmethM, -, -, -, -, -, -, hsigM⟩ := Cond.codeWith_spec hcode
  have hstatic : methM.isStatic = true := Cond.static_spec hnamed hmethM hstat
  obtain ⟨kP, hkP, -⟩ := className_of_methodNamed hnamed
  have hinitP : kP.init = .initialized := Cond.initialized_spec (findClass_of_methodNamed hnamed) hkP hinit
  obtain ⟨vm₁, X₁, hstep₁⟩ := X.invokestatic hexec hown hlink hnamed hmethM hstatic hkP hinitP hy (g := g) hg (argsL := argsL) (rest := rest) (hlen _ hsigM) hstack hdg
  rcases hK m meth c ⟨T.setVm vm₁, locs, cells, slots⟩ { g with stack := rest } (.invokestatic index) mk argsL.toArray X₁ hg hsize hdg hW (X₁.named hnamed) (hpre vm₁ X₁.warmed) with ⟨v, B, X', hpost, hsteps⟩ | ⟨q, B, X', hpost, hsteps⟩
  · exact Or.inl ⟨v, vm₁, B, X₁.warmed, X', hpost, fun target h => hstep₁ _ fun acts => by rw [doInvoke_state]; exact hsteps.trans h⟩
  · exact Or.inr ⟨q, vm₁, B, X₁.warmed, X', hpost, hstep₁ _ fun acts => by rw [doInvoke_state]; exact hsteps⟩
theorem vx_callVW (X : Stand p l e R s m args below meth c T locs cells slots) (hexec : p.tables.exec = Jvm.exec) {own C : String} {index : Nat} {y : MethodName} {bytes : ByteArray} {maxL : Nat} {ret : Option FieldType} {hh : List (Nat × Nat × Nat × Nat)}
    (hown : s.vm.findClass own = some m.cls) (hlink : (Cond.methodLink own index y).before args s = true) (hinst : (Cond.instanceMethod y).before args s = true) (hsel : (Cond.selects C y y).before args s = true)
    (hcode : (Cond.codeWith y bytes maxL ret hh).before args s = true) (hy : y.cls ≠ "java/lang/invoke/MethodHandle" ∧ y.cls ≠ "java/lang/invoke/VarHandle")
    {W9 : Nat} {Pre : Pt → Array Value → Prop} {Post : Pt → Array Value → Option Value → Pt → Prop} (hK : Back l R p e below s args y 3 W9 Pre Post)
    {b : Addr} {cellB : Cell} (hcell : T.heap[b]? = some cellB) (hobj : cellB.vm.isStatics = false) (hcls : s.vm.findClass C = some cellB.cls)
    {g : JFrame} (hg : g.method = m) (hsize : g.locals.size = c.maxLocals) {argsL rest : List Value} (hlen : ∀ sig, parseMethodDescriptor y.desc = some sig → argsL.length = sig.parameters.length)
    (hstack : g.stack = argsL.reverse ++ .ref b :: rest) (hW : 2 * g.monitorRoom + (rest.map fun v => v.category).sum ≤ W9) (hdg : decode c.code g.pc = .ok (.invokevirtual index, 3))
    (hpre : ∀ vm₁, s.WarmedH vm₁ → Pre ⟨T.setVm vm₁, locs, cells, slots⟩ (Value.ref b :: argsL).toArray) :
    ∃ (v : Option Value) (vm₁ : Vm) (B : Pt), s.WarmedH vm₁ ∧ Stand p l e R s m args below meth c B.U B.locs B.cells B.slots ∧ Post ⟨T.setVm vm₁, locs, cells, slots⟩ (Value.ref b :: argsL).toArray v B ∧
      ∀ target, Steps p.tables e below (B.U.setTop { g with pc := g.pc + 3, stack := v.toList ++ rest }) target → Steps p.tables e below (T.setTop g) target := by
  obtain ⟨mk, methM, hnamed, hmethM, hstM, habM⟩ := Cond.instanceMethod_spec hinst
  obtain ⟨m8, methM', cM, hn8, hmethM', -, -, -, -, -, -, hsigM⟩ := Cond.codeWith_spec hcode
  cases Option.some.inj (hn8.symm.trans hnamed)
  cases hmethM.symm.trans hmethM'
  obtain ⟨c2, r2, m2, q1, q2, q3, q4, kP, hkP, hkPi⟩ := Cond.selects_spec hsel
  cases hcls.symm.trans q1
  cases (State.methodFound?_of_named hnamed hy).symm.trans q2
  cases hnamed.symm.trans q3
  have hselP : selectMethod e.platform s.vm cellB.cls mk = .method mk := by rw [Launch.admits_selectMethod X.admits]; exact q4
  obtain ⟨vm₁, X₁, hstep₁⟩ := X.invokevirtual hexec hown hlink hnamed hmethM hstM hkP hkPi hy (a := b) (cell := cellB) hcell
    (fun z h => by rw [h] at hobj; cases hobj) hselP hmethM habM hkP hkPi (g := g) hg (argsL := argsL) (rest := rest) (hlen _ hsigM) hstack hdg
  obtain ⟨v, B, X', hpost, hsteps⟩ := hK m meth c ⟨T.setVm vm₁, locs, cells, slots⟩ { g with stack := rest } (.invokevirtual index) mk (Value.ref b :: argsL).toArray X₁ hg hsize hdg hW (X₁.named hnamed) (hpre vm₁ X₁.warmed)
  exact ⟨v, vm₁, B, X₁.warmed, X', hpost, fun target h => hstep₁ _ fun acts => by rw [doInvoke_state]; exact hsteps.trans h⟩
abbrev vx_CVW (R : Room) (s : State) (args : Array Value) (own C : String) (index : Nat) (y : MethodName) (bytes : ByteArray) (maxL : Nat) (ret : Option FieldType) (hh : List (Nat × Nat × Nat × Nat)) (ws : List Cond) (rm : Room) (mc ms n : Nat) : Prop :=
  (rm.cells = mc ∧ rm.slots = ms ∧ rm.frames + 1 ≤ R.frames ∧ 8 + (maxL + 11) + rm.locals ≤ R.locals ∧ (∀ w ∈ ws, ∀ (a' : Array Value) (U : State), s.WarmedH U.vm → w.before a' U = true) ∧ Cond.codeWith y bytes maxL ret hh ∈ ws) ∧
  (Cond.codeWith y bytes maxL ret hh).before args s = true ∧ (Cond.initialized y.cls).before args s = true ∧ (y.cls ≠ "java/lang/invoke/MethodHandle" ∧ y.cls ≠ "java/lang/invoke/VarHandle") ∧
  (∀ sig, parseMethodDescriptor y.desc = some sig → n = sig.parameters.length) ∧ (Cond.methodLink own index y).before args s = true ∧ (Cond.instanceMethod y).before args s = true ∧ (Cond.selects C y y).before args s = true
theorem vx_cwVW {own C : String} {index maxL mc ms : Nat} {y : MethodName} {bytes : ByteArray} {ret : Option FieldType} {hh : List (Nat × Nat × Nat × Nat)} {Ts ws ws' : List Cond} {rm : Room} (n : Nat) (ht : ∀ w ∈ Ts, w.before args s = true) (hT : GoodIn Ts (wsV own index C y ws)) (hw : ws = Cond.codeWith y bytes maxL ret hh :: ws') (hrc : rm.cells = mc) (hrs : rm.slots = ms)
    (hd : y.cls = C ∧ y.cls ≠ "java/lang/invoke/MethodHandle" ∧ y.cls ≠ "java/lang/invoke/VarHandle" ∧ (parseMethodDescriptor y.desc).map (fun d => d.parameters.length) = some n) (hR : rm.frames + 1 ≤ R.frames ∧ 8 + (maxL + 11) + rm.locals ≤ R.locals) :
    vx_CVW R s args own C index y bytes maxL ret hh ws rm mc ms n := by
  obtain ⟨hC, hd⟩ := hd
  subst hC
  have ok : ∀ w ∈ wsV own index y.cls y ws, w.before args s = true := fun w h => ht w (hT w h).1
  have hG : GoodIn Ts ws := fun w h => hT w (by unfold wsV; exact List.mem_append_right _ h)
  have hc : Cond.codeWith y bytes maxL ret hh ∈ ws := by rw [hw]; exact List.mem_cons_self
  refine ⟨⟨hrc, hrs, hR.1, hR.2, pay_in ht hG, hc⟩, ht _ (hG _ hc).1, ok _ (by simp [wsV]), ⟨hd.1, hd.2.1⟩, fun sig h => ?_, ok _ (by simp [wsV]), ok _ (by simp [wsV]), ok _ (by simp [wsV])⟩
  have h2 := hd.2.2
  rw [h] at h2
  exact (Option.some.inj h2).symm
theorem vx_runVW {y : MethodName} {bytes cc : ByteArray} {maxL nL mc ms n index : Nat} {ret : Option FieldType} {hh : List (Nat × Nat × Nat × Nat)} {ws : List Cond} {rm : Room} {Pc : Array Value → State → Prop} {Qc : Array Value → State → Outcome → State → Prop} {free : Addr → Prop} {Ts : List Cond} {own C : String} {b : Addr} {As rest : List Value} {g : JFrame}
    (S : CallFix p m c cc nL s args Ts own) (hM : Met l y ws rm Pc Qc mc ms free) (cw : vx_CVW R s args own C index y bytes maxL ret hh ws rm mc ms n) (hp : PreV s H C b Pc As)
    (hg : g.method = m) (hn : As.length = n) (hsize : g.locals.size = nL) (hstack : g.stack = As.reverse ++ .ref b :: rest) (hW : 2 * g.monitorRoom + (rest.map fun v => v.category).sum ≤ 8) (hdg : decode cc g.pc = .ok (.invokevirtual index, 3)) (hf : cells + mc ≤ R.cells ∧ slots + ms ≤ R.slots) :
    va_Run p l e R s m args below meth c H locs cells slots mc ms g rest (Qc (Value.ref b :: As).toArray) free := by
  obtain ⟨⟨hrc, hrs, hfr, hlo, hws, hcw⟩, hcode, hini, hy, hlen, hl, hin, hse⟩ := cw
  have hK : Back l R p e below s args y 3 8 (PreOf R mc ms Pc) (PostOf Qc mc ms free) := va_backW (hh := hh) (bytes := bytes) (maxL := maxL) (ret := ret) hM hp.1 hrc hrs hfr hlo hws hcw (fun a' U hW => word_at hW (Or.inl (by first | rfl | simp [Cond.onTables, Cond.keeps, Cond.steady])) hini)
  obtain ⟨hx, hb, hml, ho, -⟩ := S
  obtain ⟨-, ⟨cellB, hcB, hoB, hclB⟩, hPc⟩ := hp
  intro T hT X
  obtain ⟨v, vm₁, ⟨U', l2, c2, s2⟩, hW₁, X', ⟨g', mk, t, L, e1, e2, hq, h1, hL, h2, h3⟩, st⟩ := vx_callVW X hx (C := C) (hh := hh) (bytes := bytes) (maxL := maxL) (ret := ret) ho hl hin hse hcode hy hK (by rw [hT]; exact hcB) hoB hclB hg (hsize.trans hml.symm) (argsL := As) (rest := rest) (fun sig h => hn.trans (hlen sig h)) hstack hW (by rw [hb]; exact hdg)
    (fun vm₁ hW₁ => ⟨hf.1, hf.2, hPc (T.setVm vm₁) hT hW₁⟩)
  dsimp only [Pt.U, Pt.locs, Pt.cells, Pt.slots] at X' e1 e2 h1 h2 h3 st
  subst h1; subst h2; subst h3
  exact ⟨v, (T.setVm vm₁).calling g' mk (Value.ref b :: As).toArray, t, U', L, hT, X', hL, e1, e2, hq, st⟩
section
variable {y : MethodName} {bytes cc : ByteArray} {maxL nL mc ms n index : Nat} {ret : Option FieldType} {ws : List Cond} {rm : Room} {Pc : Array Value → State → Prop} {Qc : Array Value → State → Outcome → State → Prop} {XC : String → State → State → Prop} {free : Addr → Prop} {Ts : List Cond} {own C : String} {b : Addr} {As rest : List Value} {g : JFrame}
theorem vx_runVX {hh : List (Nat × Nat × Nat × Nat)} (S : CallFix p m c cc nL s args Ts own) (hM : vx_Met l y ws rm Pc Qc XC mc ms free) (cw : vx_CVW R s args own C index y bytes maxL ret hh ws rm mc ms n) (hp : PreV s H C b Pc As)
    (hg : g.method = m) (hn : As.length = n) (hsize : g.locals.size = nL) (hstack : g.stack = As.reverse ++ .ref b :: rest) (hW : 2 * g.monitorRoom + (rest.map fun v => v.category).sum ≤ 8) (hdg : decode cc g.pc = .ok (.invokevirtual index, 3)) (hf : cells + mc ≤ R.cells ∧ slots + ms ≤ R.slots) :
    vx_Run p l e R s m args below meth c H locs cells slots mc ms g rest (Qc (Value.ref b :: As).toArray) XC free := by
  obtain ⟨⟨hrc, hrs, hfr, hlo, hws, hcw⟩, hcode, hini, hy, hlen, hl, hin, hse⟩ := cw
  have hK : vx_Back l R p e below s args y 3 8 (PreOf R mc ms Pc) (PostOf Qc mc ms free) (vx_Post XC mc ms free) := vx_backW (hh := hh) (bytes := bytes) (maxL := maxL) (ret := ret) hM hp.1 hrc hrs hfr hlo hws hcw (fun a' U hW => word_at hW (Or.inl (by first | rfl | simp [Cond.onTables, Cond.keeps, Cond.steady])) hini)
  obtain ⟨hx, hb, hml, ho, -⟩ := S
  obtain ⟨-, ⟨cellB, hcB, hoB, hclB⟩, hPc⟩ := hp
  intro T hT X
  rcases vx_callVX X hx (C := C) (hh := hh) (bytes := bytes) (maxL := maxL) (ret := ret) ho hl hin hse hcode hy hK (by rw [hT]; exact hcB) hoB hclB hg (hsize.trans hml.symm) (argsL := As) (rest := rest) (fun sig h => hn.trans (hlen sig h)) hstack hW (by rw [hb]; exact hdg)
    (fun vm₁ hW₁ => ⟨hf.1, hf.2, hPc (T.setVm vm₁) hT hW₁⟩) with ⟨v, vm₁, ⟨U', l2, c2, s2⟩, hW₁, X', ⟨g', mk, t, L, e1, e2, hq, h1, hL, h2, h3⟩, st⟩ | ⟨q, vm₁, ⟨U', l2, c2, s2⟩, hW₁, X', ⟨g', mk, t, L, E, ce, e1, e2, hq, hce, hcv, hcl, h1, hL, h2, h3⟩, st⟩
  · dsimp only [Pt.U, Pt.locs, Pt.cells, Pt.slots] at X' e1 e2 h1 h2 h3 st
    subst h1; subst h2; subst h3
    exact Or.inl ⟨v, (T.setVm vm₁).calling g' mk (Value.ref b :: As).toArray, t, U', L, hT, X', hL, e1, e2, hq, st⟩
  · dsimp only [Pt.U, Pt.locs, Pt.cells, Pt.slots] at X' e1 e2 h1 h2 h3 st hcl
    subst h1; subst h2; subst h3
    exact Or.inr ⟨q, (T.setVm vm₁).calling g' mk (Value.ref b :: As).toArray, t, U', L, E, ce, hT, X', hL, e1, e2, hq, hce, hcv, vx_cls hW₁ hcl, st⟩
theorem vx_runSX {hh : List (Nat × Nat × Nat × Nat)} (S : CallFix p m c cc nL s args Ts own) (hM : vx_Met l y ws rm Pc Qc XC mc ms free) (cw : vx_CSW R s args own index y bytes maxL ret hh ws rm mc ms n) (hp : PreS s H Pc As)
    (hg : g.method = m) (hn : As.length = n) (hsize : g.locals.size = nL) (hstack : g.stack = As.reverse ++ rest) (hW : 2 * g.monitorRoom + (rest.map fun v => v.category).sum ≤ 8) (hdg : decode cc g.pc = .ok (.invokestatic index, 3)) (hf : cells + mc ≤ R.cells ∧ slots + ms ≤ R.slots) :
    vx_Run p l e R s m args below meth c H locs cells slots mc ms g rest (Qc As.toArray) XC free := by
  obtain ⟨⟨hrc, hrs, hfr, hlo, hws, hcw⟩, hcode, hini, hy, hlen, hl, hstt⟩ := cw
  have hK : vx_Back l R p e below s args y 3 8 (PreOf R mc ms Pc) (PostOf Qc mc ms free) (vx_Post XC mc ms free) := vx_backW (hh := hh) (bytes := bytes) (maxL := maxL) (ret := ret) hM hp.1 hrc hrs hfr hlo hws hcw (fun a' U hW => word_at hW (Or.inl (by first | rfl | simp [Cond.onTables, Cond.keeps, Cond.steady])) hini)
  obtain ⟨hx, hb, hml, ho, -⟩ := S
  intro T hT X
  rcases vx_callSX X hx (hh := hh) (bytes := bytes) (maxL := maxL) (ret := ret) ho hl hstt hini hcode hy hK hg (hsize.trans hml.symm) (argsL := As) (rest := rest) (fun sig h => hn.trans (hlen sig h)) hstack hW (by rw [hb]; exact hdg)
    (fun vm₁ hW₁ => ⟨hf.1, hf.2, hp.2 (T.setVm vm₁) hT hW₁⟩) with ⟨v, vm₁, ⟨U', l2, c2, s2⟩, hW₁, X', ⟨g', mk, t, L, e1, e2, hq, h1, hL, h2, h3⟩, st⟩ | ⟨q, vm₁, ⟨U', l2, c2, s2⟩, hW₁, X', ⟨g', mk, t, L, E, ce, e1, e2, hq, hce, hcv, hcl, h1, hL, h2, h3⟩, st⟩
  · dsimp only [Pt.U, Pt.locs, Pt.cells, Pt.slots] at X' e1 e2 h1 h2 h3 st
    subst h1; subst h2; subst h3
    exact Or.inl ⟨v, (T.setVm vm₁).calling g' mk As.toArray, t, U', L, hT, X', hL, e1, e2, hq, st⟩
  · dsimp only [Pt.U, Pt.locs, Pt.cells, Pt.slots] at X' e1 e2 h1 h2 h3 st hcl
    subst h1; subst h2; subst h3
    exact Or.inr ⟨q, (T.setVm vm₁).calling g' mk As.toArray, t, U', L, E, ce, hT, X', hL, e1, e2, hq, hce, hcv, vx_cls hW₁ hcl, st⟩
end
end VXH
theorem vx_ofWH {l : Launch} {y : MethodName} {ws ws' : List Cond} {rm : Room} {Pc : Array Value → State → Prop} {Qc : Array Value → State → Outcome → State → Prop} {XC : String → State → State → Prop} {mc ms : Nat} {free : Addr → Prop} {cc : ByteArray} {maxL : Nat} {ret : Option FieldType} {hh : List (Nat × Nat × Nat × Nat)}
    (hy : plainName y.cls = true) (hw : ws = Cond.codeWith y cc maxL ret hh :: ws')
    (body : ∀ p e s m args below meth c s₁, BodyLoose p l y (headSpec ws rm) cc maxL ret e s m args below meth c s₁ → c.maxLocals = maxL → Pc args s →
      W p l e (headSpec ws rm).room s m args below meth c s.heap [] 0 0 (vx_MQ below Qc XC args s mc ms free) (entryFrame m args maxL)) : vx_Met l y ws rm Pc Qc XC mc ms free := by
  refine MetFree.of_bodyS (code := cc) (maxLocals := maxL) (ret := ret) hy ?_ ?_
  · intro args s m h hn
    obtain ⟨m9, meth, c, hn9, h1, h2, h3, h4, -, h5, h6, -⟩ := Cond.codeWith_spec (atoms_spec (ws := ws) h _ (by rw [hw]; exact List.mem_cons_self))
    cases hn.symm.trans hn9
    exact ⟨meth, c, h1, h2, h3, h4, h5, h6⟩
  · intro p e s m args below meth c s₁ B hml hP _
    have hh0 : s₁.heap = s.heap := by rw [B.state]; rfl
    obtain ⟨t, a1, o, b1, b2, b3⟩ := body p e s m args below meth c s₁ B hml hP s₁ hh0 (Stand.of_body B)
    exact ⟨t, o, a1, b1, b2, b3⟩
/-! ===== END ===== -/
end
section
def RX0 : String := "TelemetryLink$DeliveredList"
def TX0 : u_T := fun k => match k with
  | 0 => ("TelemetryLink$DeliveredList", "size", "I", false)
  | _ => ("TelemetryLink$DeliveredList", "kept", "[LTelemetryLink$DeliveredPacket;", true)
def tyX0 : Nat → FieldType := fun k => match k with
  | 0 => .int
  | _ => .array (.object "TelemetryLink$DeliveredPacket")
abbrev wsX00 : List Cond := u_ws RX0 TX0 2
theorem nmX0 : ∀ a, a < 2 → ∀ b, b < 2 → a ≠ b → (TX0 a).2.1 ≠ (TX0 b).2.1 := by decide +kernel
theorem tyX0_ok : ∀ k, k < 2 → parseFieldDescriptor (TX0 k).2.2.1 = some (tyX0 k) := by decide +kernel
abbrev cX0_init : ByteArray := prog_2_method_1_code
def yX0_init : MethodName := ⟨RX0, "<init>", "()V"⟩
abbrev cX0_copyFrom : ByteArray := prog_2_method_2_code
def yX0_copyFrom : MethodName := ⟨RX0, "copyFrom", "(LTelemetryLink$DeliveredList;)V"⟩
abbrev cX0_append : ByteArray := prog_2_method_3_code
def yX0_append : MethodName := ⟨RX0, "append", "()LTelemetryLink$DeliveredPacket;"⟩
def RX1 : String := "TelemetryLink$DeliveredPacket"
def TX1 : u_T := fun k => match k with
  | 0 => ("TelemetryLink$DeliveredPacket", "channel", "I", false)
  | 1 => ("TelemetryLink$DeliveredPacket", "application", "I", false)
  | 2 => ("TelemetryLink$DeliveredPacket", "sequence", "I", false)
  | 3 => ("TelemetryLink$DeliveredPacket", "length", "I", false)
  | _ => ("TelemetryLink$DeliveredPacket", "data", "[I", true)
def tyX1 : Nat → FieldType := fun k => match k with
  | 0 => .int
  | 1 => .int
  | 2 => .int
  | 3 => .int
  | _ => .array .int
abbrev wsX10 : List Cond := u_ws RX1 TX1 5
theorem nmX1 : ∀ a, a < 5 → ∀ b, b < 5 → a ≠ b → (TX1 a).2.1 ≠ (TX1 b).2.1 := by decide +kernel
theorem tyX1_ok : ∀ k, k < 5 → parseFieldDescriptor (TX1 k).2.2.1 = some (tyX1 k) := by decide +kernel
abbrev cX1_init : ByteArray := prog_3_method_1_code
def yX1_init : MethodName := ⟨RX1, "<init>", "()V"⟩
abbrev cX1_copyFrom : ByteArray := prog_3_method_2_code
def yX1_copyFrom : MethodName := ⟨RX1, "copyFrom", "(LTelemetryLink$DeliveredPacket;)V"⟩
abbrev cX1_fill : ByteArray := prog_3_method_3_code
def yX1_fill : MethodName := ⟨RX1, "fill", "(LTelemetryLink$ReceiveChannel;I)V"⟩
abbrev cX1_sum : ByteArray := prog_3_method_4_code
def yX1_sum : MethodName := ⟨RX1, "sum", "()I"⟩
def RX2 : String := "TelemetryLink$Frame"
def TX2 : u_T := fun k => match k with
  | 0 => ("TelemetryLink$Frame", "length", "I", false)
  | 1 => ("TelemetryLink$Frame", "lost", "Z", false)
  | 2 => ("TelemetryLink$Frame", "boardTime", "J", false)
  | 3 => ("TelemetryLink$Frame", "groundTime", "J", false)
  | _ => ("TelemetryLink$Frame", "bytes", "[I", true)
def tyX2 : Nat → FieldType := fun k => match k with
  | 0 => .int
  | 1 => .boolean
  | 2 => .long
  | 3 => .long
  | _ => .array .int
abbrev wsX20 : List Cond := u_ws RX2 TX2 5
theorem nmX2 : ∀ a, a < 5 → ∀ b, b < 5 → a ≠ b → (TX2 a).2.1 ≠ (TX2 b).2.1 := by decide +kernel
theorem tyX2_ok : ∀ k, k < 5 → parseFieldDescriptor (TX2 k).2.2.1 = some (tyX2 k) := by decide +kernel
abbrev cX2_init : ByteArray := prog_4_method_1_code
def yX2_init : MethodName := ⟨RX2, "<init>", "()V"⟩
abbrev cX2_copyFrom : ByteArray := prog_4_method_2_code
def yX2_copyFrom : MethodName := ⟨RX2, "copyFrom", "(LTelemetryLink$Frame;)V"⟩
abbrev cX2_begin : ByteArray := prog_4_method_3_code
def yX2_begin : MethodName := ⟨RX2, "begin", "(IJJ)V"⟩
abbrev cX2_size : ByteArray := prog_4_method_4_code
def yX2_size : MethodName := ⟨RX2, "size", "()I"⟩
abbrev cX2_headerPointer : ByteArray := prog_4_method_5_code
def yX2_headerPointer : MethodName := ⟨RX2, "headerPointer", "()I"⟩
abbrev cX2_fillIdle : ByteArray := prog_4_method_6_code
def yX2_fillIdle : MethodName := ⟨RX2, "fillIdle", "()V"⟩
abbrev cX2_checkPlace : ByteArray := prog_4_method_7_code
def yX2_checkPlace : MethodName := ⟨RX2, "checkPlace", "()I"⟩
abbrev cX2_checkValue : ByteArray := prog_4_method_8_code
def yX2_checkValue : MethodName := ⟨RX2, "checkValue", "()I"⟩
abbrev cX2_rightCheck : ByteArray := prog_4_method_9_code
def yX2_rightCheck : MethodName := ⟨RX2, "rightCheck", "()I"⟩
abbrev cX2_setRightCheck : ByteArray := prog_4_method_10_code
def yX2_setRightCheck : MethodName := ⟨RX2, "setRightCheck", "()I"⟩
def RX3 : String := "TelemetryLink$QueuedPacket"
def TX3 : u_T := fun k => match k with
  | 0 => ("TelemetryLink$QueuedPacket", "application", "I", false)
  | 1 => ("TelemetryLink$QueuedPacket", "sequence", "I", false)
  | 2 => ("TelemetryLink$QueuedPacket", "length", "I", false)
  | 3 => ("TelemetryLink$QueuedPacket", "seed", "I", false)
  | _ => ("TelemetryLink$QueuedPacket", "addedSlot", "I", false)
def tyX3 : Nat → FieldType := fun k => match k with
  | 0 => .int
  | 1 => .int
  | 2 => .int
  | 3 => .int
  | _ => .int
abbrev wsX30 : List Cond := u_ws RX3 TX3 5
theorem nmX3 : ∀ a, a < 5 → ∀ b, b < 5 → a ≠ b → (TX3 a).2.1 ≠ (TX3 b).2.1 := by decide +kernel
theorem tyX3_ok : ∀ k, k < 5 → parseFieldDescriptor (TX3 k).2.2.1 = some (tyX3 k) := by decide +kernel
abbrev cX3_init : ByteArray := prog_5_method_1_code
def yX3_init : MethodName := ⟨RX3, "<init>", "()V"⟩
abbrev cX3_copyFrom : ByteArray := prog_5_method_2_code
def yX3_copyFrom : MethodName := ⟨RX3, "copyFrom", "(LTelemetryLink$QueuedPacket;)V"⟩
abbrev cX3_size : ByteArray := prog_5_method_3_code
def yX3_size : MethodName := ⟨RX3, "size", "()I"⟩
abbrev cX3_byteAt : ByteArray := prog_5_method_4_code
def yX3_byteAt : MethodName := ⟨RX3, "byteAt", "(I)I"⟩
def RX4 : String := "TelemetryLink$ReceiveChannel"
def TX4 : u_T := fun k => match k with
  | 0 => ("TelemetryLink$ReceiveChannel", "frames", "I", false)
  | 1 => ("TelemetryLink$ReceiveChannel", "missing", "I", false)
  | 2 => ("TelemetryLink$ReceiveChannel", "lastCount", "I", false)
  | 3 => ("TelemetryLink$ReceiveChannel", "inStep", "Z", false)
  | 4 => ("TelemetryLink$ReceiveChannel", "partialSize", "I", false)
  | _ => ("TelemetryLink$ReceiveChannel", "partial", "[I", true)
def tyX4 : Nat → FieldType := fun k => match k with
  | 0 => .int
  | 1 => .int
  | 2 => .int
  | 3 => .boolean
  | 4 => .int
  | _ => .array .int
abbrev wsX40 : List Cond := u_ws RX4 TX4 6
theorem nmX4 : ∀ a, a < 6 → ∀ b, b < 6 → a ≠ b → (TX4 a).2.1 ≠ (TX4 b).2.1 := by decide +kernel
theorem tyX4_ok : ∀ k, k < 6 → parseFieldDescriptor (TX4 k).2.2.1 = some (tyX4 k) := by decide +kernel
abbrev cX4_init : ByteArray := prog_6_method_1_code
def yX4_init : MethodName := ⟨RX4, "<init>", "()V"⟩
abbrev cX4_copyFrom : ByteArray := prog_6_method_2_code
def yX4_copyFrom : MethodName := ⟨RX4, "copyFrom", "(LTelemetryLink$ReceiveChannel;)V"⟩
abbrev cX4_countFrame : ByteArray := prog_6_method_3_code
def yX4_countFrame : MethodName := ⟨RX4, "countFrame", "(I)Z"⟩
abbrev cX4_firstPlace : ByteArray := prog_6_method_4_code
def yX4_firstPlace : MethodName := ⟨RX4, "firstPlace", "(LTelemetryLink$Frame;)I"⟩
abbrev cX4_append : ByteArray := prog_6_method_5_code
def yX4_append : MethodName := ⟨RX4, "append", "(I)V"⟩
abbrev cX4_isComplete : ByteArray := prog_6_method_6_code
def yX4_isComplete : MethodName := ⟨RX4, "isComplete", "()Z"⟩
def RX5 : String := "TelemetryLink$Receiver"
def TX5 : u_T := fun k => match k with
  | 0 => ("TelemetryLink$Receiver", "lastMaster", "I", false)
  | 1 => ("TelemetryLink$Receiver", "counts", "[I", true)
  | 2 => ("TelemetryLink$Receiver", "appPackets", "[I", true)
  | 3 => ("TelemetryLink$Receiver", "appMissing", "[I", true)
  | 4 => ("TelemetryLink$Receiver", "appBytes", "[I", true)
  | 5 => ("TelemetryLink$Receiver", "appLast", "[I", true)
  | 6 => ("TelemetryLink$Receiver", "channels", "[LTelemetryLink$ReceiveChannel;", true)
  | 7 => ("TelemetryLink$Receiver", "delivered", "LTelemetryLink$DeliveredList;", true)
  | _ => ("TelemetryLink$Receiver", "times", "LTelemetryLink$TimePairs;", true)
def tyX5 : Nat → FieldType := fun k => match k with
  | 0 => .int
  | 1 => .array .int
  | 2 => .array .int
  | 3 => .array .int
  | 4 => .array .int
  | 5 => .array .int
  | 6 => .array (.object "TelemetryLink$ReceiveChannel")
  | 7 => .object "TelemetryLink$DeliveredList"
  | _ => .object "TelemetryLink$TimePairs"
abbrev wsX50 : List Cond := u_ws RX5 TX5 9
theorem nmX5 : ∀ a, a < 9 → ∀ b, b < 9 → a ≠ b → (TX5 a).2.1 ≠ (TX5 b).2.1 := by decide +kernel
theorem tyX5_ok : ∀ k, k < 9 → parseFieldDescriptor (TX5 k).2.2.1 = some (tyX5 k) := by decide +kernel
abbrev cX5_init : ByteArray := prog_7_method_1_code
def yX5_init : MethodName := ⟨RX5, "<init>", "()V"⟩
abbrev cX5_copyFrom : ByteArray := prog_7_method_2_code
def yX5_copyFrom : MethodName := ⟨RX5, "copyFrom", "(LTelemetryLink$Receiver;)V"⟩
abbrev cX5_take : ByteArray := prog_7_method_3_code
def yX5_take : MethodName := ⟨RX5, "take", "(LTelemetryLink$Frame;)I"⟩
abbrev cX5_countMaster : ByteArray := prog_7_method_4_code
def yX5_countMaster : MethodName := ⟨RX5, "countMaster", "(I)V"⟩
abbrev cX5_takeData : ByteArray := prog_7_method_5_code
def yX5_takeData : MethodName := ⟨RX5, "takeData", "(LTelemetryLink$Frame;I)I"⟩
abbrev cX5_deliver : ByteArray := prog_7_method_6_code
def yX5_deliver : MethodName := ⟨RX5, "deliver", "(LTelemetryLink$ReceiveChannel;I)I"⟩
def RX6 : String := "TelemetryLink$SendChannel"
def TX6 : u_T := fun k => match k with
  | 0 => ("TelemetryLink$SendChannel", "priority", "I", false)
  | 1 => ("TelemetryLink$SendChannel", "bound", "I", false)
  | 2 => ("TelemetryLink$SendChannel", "hold", "I", false)
  | 3 => ("TelemetryLink$SendChannel", "wait", "I", false)
  | 4 => ("TelemetryLink$SendChannel", "pending", "I", false)
  | 5 => ("TelemetryLink$SendChannel", "frames", "I", false)
  | 6 => ("TelemetryLink$SendChannel", "idleBytes", "I", false)
  | 7 => ("TelemetryLink$SendChannel", "latency", "I", false)
  | 8 => ("TelemetryLink$SendChannel", "size", "I", false)
  | 9 => ("TelemetryLink$SendChannel", "sentOfHead", "I", false)
  | _ => ("TelemetryLink$SendChannel", "packets", "[LTelemetryLink$QueuedPacket;", true)
def tyX6 : Nat → FieldType := fun k => match k with
  | 0 => .int
  | 1 => .int
  | 2 => .int
  | 3 => .int
  | 4 => .int
  | 5 => .int
  | 6 => .int
  | 7 => .int
  | 8 => .int
  | 9 => .int
  | _ => .array (.object "TelemetryLink$QueuedPacket")
abbrev wsX60 : List Cond := u_ws RX6 TX6 11
theorem nmX6 : ∀ a, a < 11 → ∀ b, b < 11 → a ≠ b → (TX6 a).2.1 ≠ (TX6 b).2.1 := by decide +kernel
theorem tyX6_ok : ∀ k, k < 11 → parseFieldDescriptor (TX6 k).2.2.1 = some (tyX6 k) := by decide +kernel
abbrev cX6_init : ByteArray := prog_8_method_1_code
def yX6_init : MethodName := ⟨RX6, "<init>", "()V"⟩
abbrev cX6_copyFrom : ByteArray := prog_8_method_2_code
def yX6_copyFrom : MethodName := ⟨RX6, "copyFrom", "(LTelemetryLink$SendChannel;)V"⟩
abbrev cX6_waitingPackets : ByteArray := prog_8_method_3_code
def yX6_waitingPackets : MethodName := ⟨RX6, "waitingPackets", "()I"⟩
abbrev cX6_isOverdue : ByteArray := prog_8_method_4_code
def yX6_isOverdue : MethodName := ⟨RX6, "isOverdue", "()Z"⟩
abbrev cX6_isReady : ByteArray := prog_8_method_5_code
def yX6_isReady : MethodName := ⟨RX6, "isReady", "(I)Z"⟩
abbrev cX6_isMoreOverdueThan : ByteArray := prog_8_method_6_code
def yX6_isMoreOverdueThan : MethodName := ⟨RX6, "isMoreOverdueThan", "(LTelemetryLink$SendChannel;)Z"⟩
abbrev cX6_precedes : ByteArray := prog_8_method_7_code
def yX6_precedes : MethodName := ⟨RX6, "precedes", "(LTelemetryLink$SendChannel;)Z"⟩
abbrev cX6_passSlot : ByteArray := prog_8_method_8_code
def yX6_passSlot : MethodName := ⟨RX6, "passSlot", "(Z)V"⟩
abbrev cX6_append : ByteArray := prog_8_method_9_code
def yX6_append : MethodName := ⟨RX6, "append", "(IIIII)V"⟩
abbrev cX6_fill : ByteArray := prog_8_method_10_code
def yX6_fill : MethodName := ⟨RX6, "fill", "(LTelemetryLink$Frame;I)V"⟩
abbrev cX6_takeByte : ByteArray := prog_8_method_11_code
def yX6_takeByte : MethodName := ⟨RX6, "takeByte", "(I)I"⟩
abbrev cX6_removeHead : ByteArray := prog_8_method_12_code
def yX6_removeHead : MethodName := ⟨RX6, "removeHead", "()V"⟩
def RX7 : String := "TelemetryLink$State"
def TX7 : u_T := fun k => match k with
  | 0 => ("TelemetryLink$State", "frameLength", "I", false)
  | 1 => ("TelemetryLink$State", "drift", "I", false)
  | 2 => ("TelemetryLink$State", "delay", "I", false)
  | 3 => ("TelemetryLink$State", "slot", "I", false)
  | 4 => ("TelemetryLink$State", "idleFrames", "I", false)
  | 5 => ("TelemetryLink$State", "sequences", "[I", true)
  | 6 => ("TelemetryLink$State", "senders", "[LTelemetryLink$SendChannel;", true)
  | 7 => ("TelemetryLink$State", "wire", "LTelemetryLink$Wire;", true)
  | _ => ("TelemetryLink$State", "receiver", "LTelemetryLink$Receiver;", true)
def tyX7 : Nat → FieldType := fun k => match k with
  | 0 => .int
  | 1 => .int
  | 2 => .int
  | 3 => .int
  | 4 => .int
  | 5 => .array .int
  | 6 => .array (.object "TelemetryLink$SendChannel")
  | 7 => .object "TelemetryLink$Wire"
  | _ => .object "TelemetryLink$Receiver"
abbrev wsX70 : List Cond := u_ws RX7 TX7 9
theorem nmX7 : ∀ a, a < 9 → ∀ b, b < 9 → a ≠ b → (TX7 a).2.1 ≠ (TX7 b).2.1 := by decide +kernel
theorem tyX7_ok : ∀ k, k < 9 → parseFieldDescriptor (TX7 k).2.2.1 = some (tyX7 k) := by decide +kernel
abbrev cX7_init : ByteArray := prog_9_method_1_code
def yX7_init : MethodName := ⟨RX7, "<init>", "()V"⟩
abbrev cX7_copyFrom : ByteArray := prog_9_method_2_code
def yX7_copyFrom : MethodName := ⟨RX7, "copyFrom", "(LTelemetryLink$State;)V"⟩
abbrev cX7_hasPendingBytes : ByteArray := prog_9_method_3_code
def yX7_hasPendingBytes : MethodName := ⟨RX7, "hasPendingBytes", "()Z"⟩
abbrev cX7_enqueue : ByteArray := prog_9_method_4_code
def yX7_enqueue : MethodName := ⟨RX7, "enqueue", "(IIII)I"⟩
abbrev cX7_boardTime : ByteArray := prog_9_method_5_code
def yX7_boardTime : MethodName := ⟨RX7, "boardTime", "()J"⟩
abbrev cX7_groundArrival : ByteArray := prog_9_method_6_code
def yX7_groundArrival : MethodName := ⟨RX7, "groundArrival", "()J"⟩
abbrev cX7_chosenChannel : ByteArray := prog_9_method_7_code
def yX7_chosenChannel : MethodName := ⟨RX7, "chosenChannel", "()I"⟩
abbrev cX7_readyChannel : ByteArray := prog_9_method_8_code
def yX7_readyChannel : MethodName := ⟨RX7, "readyChannel", "()I"⟩
abbrev cX7_sendSlot : ByteArray := prog_9_method_9_code
def yX7_sendSlot : MethodName := ⟨RX7, "sendSlot", "()I"⟩
def RX8 : String := "TelemetryLink$TimePairs"
def TX8 : u_T := fun k => match k with
  | 0 => ("TelemetryLink$TimePairs", "size", "I", false)
  | 1 => ("TelemetryLink$TimePairs", "boardTimes", "[J", true)
  | _ => ("TelemetryLink$TimePairs", "groundTimes", "[J", true)
def tyX8 : Nat → FieldType := fun k => match k with
  | 0 => .int
  | 1 => .array .long
  | _ => .array .long
abbrev wsX80 : List Cond := u_ws RX8 TX8 3
theorem nmX8 : ∀ a, a < 3 → ∀ b, b < 3 → a ≠ b → (TX8 a).2.1 ≠ (TX8 b).2.1 := by decide +kernel
theorem tyX8_ok : ∀ k, k < 3 → parseFieldDescriptor (TX8 k).2.2.1 = some (tyX8 k) := by decide +kernel
abbrev cX8_init : ByteArray := prog_10_method_1_code
def yX8_init : MethodName := ⟨RX8, "<init>", "()V"⟩
abbrev cX8_copyFrom : ByteArray := prog_10_method_2_code
def yX8_copyFrom : MethodName := ⟨RX8, "copyFrom", "(LTelemetryLink$TimePairs;)V"⟩
abbrev cX8_note : ByteArray := prog_10_method_3_code
def yX8_note : MethodName := ⟨RX8, "note", "(JJ)V"⟩
def RX9 : String := "TelemetryLink$Wire"
def TX9 : u_T := fun k => match k with
  | 0 => ("TelemetryLink$Wire", "size", "I", false)
  | _ => ("TelemetryLink$Wire", "frames", "[LTelemetryLink$Frame;", true)
def tyX9 : Nat → FieldType := fun k => match k with
  | 0 => .int
  | _ => .array (.object "TelemetryLink$Frame")
abbrev wsX90 : List Cond := u_ws RX9 TX9 2
theorem nmX9 : ∀ a, a < 2 → ∀ b, b < 2 → a ≠ b → (TX9 a).2.1 ≠ (TX9 b).2.1 := by decide +kernel
theorem tyX9_ok : ∀ k, k < 2 → parseFieldDescriptor (TX9 k).2.2.1 = some (tyX9 k) := by decide +kernel
abbrev cX9_init : ByteArray := prog_11_method_1_code
def yX9_init : MethodName := ⟨RX9, "<init>", "()V"⟩
abbrev cX9_copyFrom : ByteArray := prog_11_method_2_code
def yX9_copyFrom : MethodName := ⟨RX9, "copyFrom", "(LTelemetryLink$Wire;)V"⟩
abbrev cX9_append : ByteArray := prog_11_method_3_code
def yX9_append : MethodName := ⟨RX9, "append", "()LTelemetryLink$Frame;"⟩
abbrev cX9_lostFrames : ByteArray := prog_11_method_4_code
def yX9_lostFrames : MethodName := ⟨RX9, "lostFrames", "()I"⟩
abbrev cX9_removeFirst : ByteArray := prog_11_method_5_code
def yX9_removeFirst : MethodName := ⟨RX9, "removeFirst", "(I)V"⟩
def RX10 : String := "TelemetryLink"
def TX10 : u_T := fun k => match k with
  | 0 => ("TelemetryLink", "now", "LTelemetryLink$State;", false)
  | 1 => ("TelemetryLink", "saved", "[LTelemetryLink$State;", true)
  | _ => ("TelemetryLink", "savedStates", "I", false)
def tyX10 : Nat → FieldType := fun k => match k with
  | 0 => .object "TelemetryLink$State"
  | 1 => .array (.object "TelemetryLink$State")
  | _ => .int
abbrev wsX100 : List Cond := u_ws RX10 TX10 3
theorem nmX10 : ∀ a, a < 3 → ∀ b, b < 3 → a ≠ b → (TX10 a).2.1 ≠ (TX10 b).2.1 := by decide +kernel
theorem tyX10_ok : ∀ k, k < 3 → parseFieldDescriptor (TX10 k).2.2.1 = some (tyX10 k) := by decide +kernel
abbrev cX10_init : ByteArray := prog_1_method_1_code
def yX10_init : MethodName := ⟨RX10, "<init>", "()V"⟩
abbrev cX10_setFrameLength : ByteArray := prog_1_method_2_code
def yX10_setFrameLength : MethodName := ⟨RX10, "setFrameLength", "(I)I"⟩
abbrev cX10_setChannel : ByteArray := prog_1_method_3_code
def yX10_setChannel : MethodName := ⟨RX10, "setChannel", "(IIII)I"⟩
abbrev cX10_setClock : ByteArray := prog_1_method_4_code
def yX10_setClock : MethodName := ⟨RX10, "setClock", "(II)I"⟩
abbrev cX10_addPacket : ByteArray := prog_1_method_5_code
def yX10_addPacket : MethodName := ⟨RX10, "addPacket", "(IIII)I"⟩
abbrev cX10_queue : ByteArray := prog_1_method_6_code
def yX10_queue : MethodName := ⟨RX10, "queue", "(II)I"⟩
abbrev cX10_nextChannel : ByteArray := prog_1_method_7_code
def yX10_nextChannel : MethodName := ⟨RX10, "nextChannel", "()I"⟩
abbrev cX10_send : ByteArray := prog_1_method_8_code
def yX10_send : MethodName := ⟨RX10, "send", "(I)I"⟩
abbrev cX10_slot : ByteArray := prog_1_method_9_code
def yX10_slot : MethodName := ⟨RX10, "slot", "()I"⟩
abbrev cX10_sent : ByteArray := prog_1_method_10_code
def yX10_sent : MethodName := ⟨RX10, "sent", "(II)I"⟩
abbrev cX10_sentIdle : ByteArray := prog_1_method_11_code
def yX10_sentIdle : MethodName := ⟨RX10, "sentIdle", "(I)I"⟩
abbrev cX10_wire : ByteArray := prog_1_method_12_code
def yX10_wire : MethodName := ⟨RX10, "wire", "()I"⟩
abbrev cX10_frameByte : ByteArray := prog_1_method_13_code
def yX10_frameByte : MethodName := ⟨RX10, "frameByte", "(II)I"⟩
abbrev cX10_corrupt : ByteArray := prog_1_method_14_code
def yX10_corrupt : MethodName := ⟨RX10, "corrupt", "(III)I"⟩
abbrev cX10_repair : ByteArray := prog_1_method_15_code
def yX10_repair : MethodName := ⟨RX10, "repair", "(I)I"⟩
abbrev cX10_lose : ByteArray := prog_1_method_16_code
def yX10_lose : MethodName := ⟨RX10, "lose", "(I)I"⟩
abbrev cX10_receive : ByteArray := prog_1_method_17_code
def yX10_receive : MethodName := ⟨RX10, "receive", "(I)I"⟩
abbrev cX10_count : ByteArray := prog_1_method_18_code
def yX10_count : MethodName := ⟨RX10, "count", "(I)I"⟩
abbrev cX10_received : ByteArray := prog_1_method_19_code
def yX10_received : MethodName := ⟨RX10, "received", "(II)I"⟩
abbrev cX10_application : ByteArray := prog_1_method_20_code
def yX10_application : MethodName := ⟨RX10, "application", "(II)I"⟩
abbrev cX10_packets : ByteArray := prog_1_method_21_code
def yX10_packets : MethodName := ⟨RX10, "packets", "()I"⟩
abbrev cX10_packet : ByteArray := prog_1_method_22_code
def yX10_packet : MethodName := ⟨RX10, "packet", "(II)I"⟩
abbrev cX10_packetByte : ByteArray := prog_1_method_23_code
def yX10_packetByte : MethodName := ⟨RX10, "packetByte", "(II)I"⟩
abbrev cX10_clock : ByteArray := prog_1_method_24_code
def yX10_clock : MethodName := ⟨RX10, "clock", "()J"⟩
abbrev cX10_timePairs : ByteArray := prog_1_method_25_code
def yX10_timePairs : MethodName := ⟨RX10, "timePairs", "()I"⟩
abbrev cX10_groundTime : ByteArray := prog_1_method_26_code
def yX10_groundTime : MethodName := ⟨RX10, "groundTime", "(J)J"⟩
abbrev cX10_undo : ByteArray := prog_1_method_27_code
def yX10_undo : MethodName := ⟨RX10, "undo", "()I"⟩
abbrev cX10_digest : ByteArray := prog_1_method_28_code
def yX10_digest : MethodName := ⟨RX10, "digest", "()J"⟩
abbrev cX10_mixChannels : ByteArray := prog_1_method_29_code
def yX10_mixChannels : MethodName := ⟨RX10, "mixChannels", "(J)J"⟩
abbrev cX10_mixWire : ByteArray := prog_1_method_30_code
def yX10_mixWire : MethodName := ⟨RX10, "mixWire", "(J)J"⟩
abbrev cX10_mixCounts : ByteArray := prog_1_method_31_code
def yX10_mixCounts : MethodName := ⟨RX10, "mixCounts", "(J)J"⟩
abbrev cX10_mixPackets : ByteArray := prog_1_method_32_code
def yX10_mixPackets : MethodName := ⟨RX10, "mixPackets", "(J)J"⟩
abbrev cX10_mixTimes : ByteArray := prog_1_method_33_code
def yX10_mixTimes : MethodName := ⟨RX10, "mixTimes", "(J)J"⟩
abbrev cX10_mix : ByteArray := prog_1_method_34_code
def yX10_mix : MethodName := ⟨RX10, "mix", "(JJ)J"⟩
abbrev cX10_outside : ByteArray := prog_1_method_35_code
def yX10_outside : MethodName := ⟨RX10, "outside", "(III)Z"⟩
abbrev cX10_saveState : ByteArray := prog_1_method_36_code
def yX10_saveState : MethodName := ⟨RX10, "saveState", "()V"⟩
def RX11 : String := "TelemetryLinkModel"
def TX11 : u_T := fun k => match k with
  | 0 => ("TelemetryLinkModel", "now", "[I", true)
  | 1 => ("TelemetryLinkModel", "past", "[I", true)
  | 2 => ("TelemetryLinkModel", "saved", "I", false)
  | 3 => ("TelemetryLinkModel", "refusal", "I", false)
  | _ => ("TelemetryLinkModel", "hash", "J", false)
def tyX11 : Nat → FieldType := fun k => match k with
  | 0 => .array .int
  | 1 => .array .int
  | 2 => .int
  | 3 => .int
  | _ => .long
abbrev wsX110 : List Cond := u_ws RX11 TX11 5
theorem nmX11 : ∀ a, a < 5 → ∀ b, b < 5 → a ≠ b → (TX11 a).2.1 ≠ (TX11 b).2.1 := by decide +kernel
theorem tyX11_ok : ∀ k, k < 5 → parseFieldDescriptor (TX11 k).2.2.1 = some (tyX11 k) := by decide +kernel
abbrev cX11_init : ByteArray := prog_13_method_1_code
def yX11_init : MethodName := ⟨RX11, "<init>", "()V"⟩
abbrev cX11_thrown : ByteArray := prog_13_method_2_code
def yX11_thrown : MethodName := ⟨RX11, "thrown", "()I"⟩
abbrev cX11_refused : ByteArray := prog_13_method_3_code
def yX11_refused : MethodName := ⟨RX11, "refused", "(I)Z"⟩
abbrev cX11_within : ByteArray := prog_13_method_4_code
def yX11_within : MethodName := ⟨RX11, "within", "(JJJ)Z"⟩
abbrev cX11_isChannel : ByteArray := prog_13_method_5_code
def yX11_isChannel : MethodName := ⟨RX11, "isChannel", "(I)Z"⟩
abbrev cX11_floor : ByteArray := prog_13_method_6_code
def yX11_floor : MethodName := ⟨RX11, "floor", "(JJ)J"⟩
abbrev cX11_saves : ByteArray := prog_13_method_7_code
def yX11_saves : MethodName := ⟨RX11, "saves", "()V"⟩
abbrev cX11_undo : ByteArray := prog_13_method_8_code
def yX11_undo : MethodName := ⟨RX11, "undo", "()I"⟩
abbrev cX11_at : ByteArray := prog_13_method_9_code
def yX11_at : MethodName := ⟨RX11, "at", "(II)I"⟩
abbrev cX11_pending : ByteArray := prog_13_method_10_code
def yX11_pending : MethodName := ⟨RX11, "pending", "(I)I"⟩
abbrev cX11_packetsIn : ByteArray := prog_13_method_11_code
def yX11_packetsIn : MethodName := ⟨RX11, "packetsIn", "(I)I"⟩
abbrev cX11_puts : ByteArray := prog_13_method_12_code
def yX11_puts : MethodName := ⟨RX11, "puts", "(IIIII)V"⟩
abbrev cX11_byteOf : ByteArray := prog_13_method_13_code
def yX11_byteOf : MethodName := ⟨RX11, "byteOf", "(II)I"⟩
abbrev cX11_takes : ByteArray := prog_13_method_14_code
def yX11_takes : MethodName := ⟨RX11, "takes", "(I)I"⟩
abbrev cX11_setFrameLength : ByteArray := prog_13_method_15_code
def yX11_setFrameLength : MethodName := ⟨RX11, "setFrameLength", "(I)I"⟩
abbrev cX11_setChannel : ByteArray := prog_13_method_16_code
def yX11_setChannel : MethodName := ⟨RX11, "setChannel", "(IIII)I"⟩
abbrev cX11_setClock : ByteArray := prog_13_method_17_code
def yX11_setClock : MethodName := ⟨RX11, "setClock", "(II)I"⟩
abbrev cX11_addPacket : ByteArray := prog_13_method_18_code
def yX11_addPacket : MethodName := ⟨RX11, "addPacket", "(IIII)I"⟩
abbrev cX11_queueOf : ByteArray := prog_13_method_19_code
def yX11_queueOf : MethodName := ⟨RX11, "queueOf", "(II)I"⟩
abbrev cX11_queue : ByteArray := prog_13_method_20_code
def yX11_queue : MethodName := ⟨RX11, "queue", "(II)I"⟩
abbrev cX11_isOverdue : ByteArray := prog_13_method_21_code
def yX11_isOverdue : MethodName := ⟨RX11, "isOverdue", "(I)Z"⟩
abbrev cX11_isReady : ByteArray := prog_13_method_22_code
def yX11_isReady : MethodName := ⟨RX11, "isReady", "(I)Z"⟩
abbrev cX11_isAhead : ByteArray := prog_13_method_23_code
def yX11_isAhead : MethodName := ⟨RX11, "isAhead", "(IIZ)Z"⟩
abbrev cX11_best : ByteArray := prog_13_method_24_code
def yX11_best : MethodName := ⟨RX11, "best", "(Z)I"⟩
abbrev cX11_chosen : ByteArray := prog_13_method_25_code
def yX11_chosen : MethodName := ⟨RX11, "chosen", "()I"⟩
abbrev cX11_nextChannel : ByteArray := prog_13_method_26_code
def yX11_nextChannel : MethodName := ⟨RX11, "nextChannel", "()I"⟩
abbrev cX11_frameAt : ByteArray := prog_13_method_27_code
def yX11_frameAt : MethodName := ⟨RX11, "frameAt", "(I)I"⟩
abbrev cX11_checked : ByteArray := prog_13_method_28_code
def yX11_checked : MethodName := ⟨RX11, "checked", "(I)I"⟩
abbrev cX11_laysCheck : ByteArray := prog_13_method_29_code
def yX11_laysCheck : MethodName := ⟨RX11, "laysCheck", "(I)V"⟩
abbrev cX11_checkAt : ByteArray := prog_13_method_30_code
def yX11_checkAt : MethodName := ⟨RX11, "checkAt", "(I)I"⟩
abbrev cX11_clockNow : ByteArray := prog_13_method_31_code
def yX11_clockNow : MethodName := ⟨RX11, "clockNow", "()J"⟩
abbrev cX11_sendsOne : ByteArray := prog_13_method_32_code
def yX11_sendsOne : MethodName := ⟨RX11, "sendsOne", "()Z"⟩
abbrev cX11_send : ByteArray := prog_13_method_33_code
def yX11_send : MethodName := ⟨RX11, "send", "(I)I"⟩
abbrev cX11_slot : ByteArray := prog_13_method_34_code
def yX11_slot : MethodName := ⟨RX11, "slot", "()I"⟩
abbrev cX11_sentOf : ByteArray := prog_13_method_35_code
def yX11_sentOf : MethodName := ⟨RX11, "sentOf", "(II)I"⟩
abbrev cX11_sent : ByteArray := prog_13_method_36_code
def yX11_sent : MethodName := ⟨RX11, "sent", "(II)I"⟩
abbrev cX11_wire : ByteArray := prog_13_method_37_code
def yX11_wire : MethodName := ⟨RX11, "wire", "()I"⟩
abbrev cX11_isFrame : ByteArray := prog_13_method_38_code
def yX11_isFrame : MethodName := ⟨RX11, "isFrame", "(I)Z"⟩
abbrev cX11_isByte : ByteArray := prog_13_method_39_code
def yX11_isByte : MethodName := ⟨RX11, "isByte", "(II)Z"⟩
abbrev cX11_frameByte : ByteArray := prog_13_method_40_code
def yX11_frameByte : MethodName := ⟨RX11, "frameByte", "(II)I"⟩
abbrev cX11_corrupt : ByteArray := prog_13_method_41_code
def yX11_corrupt : MethodName := ⟨RX11, "corrupt", "(III)I"⟩
abbrev cX11_repair : ByteArray := prog_13_method_42_code
def yX11_repair : MethodName := ⟨RX11, "repair", "(I)I"⟩
abbrev cX11_lose : ByteArray := prog_13_method_43_code
def yX11_lose : MethodName := ⟨RX11, "lose", "(I)I"⟩
abbrev cX11_counts : ByteArray := prog_13_method_44_code
def yX11_counts : MethodName := ⟨RX11, "counts", "(II)V"⟩
abbrev cX11_delivers : ByteArray := prog_13_method_45_code
def yX11_delivers : MethodName := ⟨RX11, "delivers", "(I)Z"⟩
abbrev cX11_appends : ByteArray := prog_13_method_46_code
def yX11_appends : MethodName := ⟨RX11, "appends", "(II)Z"⟩
abbrev cX11_notes : ByteArray := prog_13_method_47_code
def yX11_notes : MethodName := ⟨RX11, "notes", "(II)V"⟩
abbrev cX11_gapOf : ByteArray := prog_13_method_48_code
def yX11_gapOf : MethodName := ⟨RX11, "gapOf", "(II)I"⟩
abbrev cX11_takesData : ByteArray := prog_13_method_49_code
def yX11_takesData : MethodName := ⟨RX11, "takesData", "(II)I"⟩
abbrev cX11_receives : ByteArray := prog_13_method_50_code
def yX11_receives : MethodName := ⟨RX11, "receives", "(I)I"⟩
abbrev cX11_receive : ByteArray := prog_13_method_51_code
def yX11_receive : MethodName := ⟨RX11, "receive", "(I)I"⟩
abbrev cX11_count : ByteArray := prog_13_method_52_code
def yX11_count : MethodName := ⟨RX11, "count", "(I)I"⟩
abbrev cX11_receivedOf : ByteArray := prog_13_method_53_code
def yX11_receivedOf : MethodName := ⟨RX11, "receivedOf", "(II)I"⟩
abbrev cX11_received : ByteArray := prog_13_method_54_code
def yX11_received : MethodName := ⟨RX11, "received", "(II)I"⟩
abbrev cX11_application : ByteArray := prog_13_method_55_code
def yX11_application : MethodName := ⟨RX11, "application", "(II)I"⟩
abbrev cX11_packets : ByteArray := prog_13_method_56_code
def yX11_packets : MethodName := ⟨RX11, "packets", "()I"⟩
abbrev cX11_isPacket : ByteArray := prog_13_method_57_code
def yX11_isPacket : MethodName := ⟨RX11, "isPacket", "(I)Z"⟩
abbrev cX11_packet : ByteArray := prog_13_method_58_code
def yX11_packet : MethodName := ⟨RX11, "packet", "(II)I"⟩
abbrev cX11_packetByte : ByteArray := prog_13_method_59_code
def yX11_packetByte : MethodName := ⟨RX11, "packetByte", "(II)I"⟩
abbrev cX11_clock : ByteArray := prog_13_method_60_code
def yX11_clock : MethodName := ⟨RX11, "clock", "()J"⟩
abbrev cX11_timePairs : ByteArray := prog_13_method_61_code
def yX11_timePairs : MethodName := ⟨RX11, "timePairs", "()I"⟩
abbrev cX11_groundTime : ByteArray := prog_13_method_62_code
def yX11_groundTime : MethodName := ⟨RX11, "groundTime", "(J)J"⟩
abbrev cX11_mix : ByteArray := prog_13_method_63_code
def yX11_mix : MethodName := ⟨RX11, "mix", "(J)V"⟩
abbrev cX11_mixAll : ByteArray := prog_13_method_64_code
def yX11_mixAll : MethodName := ⟨RX11, "mixAll", "(II)V"⟩
abbrev cX11_mixChannel : ByteArray := prog_13_method_65_code
def yX11_mixChannel : MethodName := ⟨RX11, "mixChannel", "(I)V"⟩
abbrev cX11_digest : ByteArray := prog_13_method_66_code
def yX11_digest : MethodName := ⟨RX11, "digest", "()J"⟩
def RJ9 : String := "java/lang/Math"
def TJ9 : u_T := fun k => match k with
  | _ => ("", "", "", false)
def tyJ9 : Nat → FieldType := fun k => match k with
  | _ => .int
abbrev wsJ90 : List Cond := u_ws RJ9 TJ9 0
theorem nmJ9 : ∀ a, a < 0 → ∀ b, b < 0 → a ≠ b → (TJ9 a).2.1 ≠ (TJ9 b).2.1 := by decide +kernel
theorem tyJ9_ok : ∀ k, k < 0 → parseFieldDescriptor (TJ9 k).2.2.1 = some (tyJ9 k) := by decide +kernel
abbrev cJ9_floorDiv_f86c9 : ByteArray := prog_18_method_49_code
def yJ9_floorDiv_f86c9 : MethodName := ⟨RJ9, "floorDiv", "(JJ)J"⟩
abbrev cJ9_max_7cf53 : ByteArray := prog_18_method_65_code
def yJ9_max_7cf53 : MethodName := ⟨RJ9, "max", "(II)I"⟩
abbrev cJ9_min_7cf53 : ByteArray := prog_18_method_69_code
def yJ9_min_7cf53 : MethodName := ⟨RJ9, "min", "(II)I"⟩
def RJ0 : String := "java/lang/String"
def TJ0 : u_T := fun k => match k with
  | _ => ("", "", "", false)
def tyJ0 : Nat → FieldType := fun k => match k with
  | _ => .int
abbrev wsJ00 : List Cond := u_ws RJ0 TJ0 0
theorem nmJ0 : ∀ a, a < 0 → ∀ b, b < 0 → a ≠ b → (TJ0 a).2.1 ≠ (TJ0 b).2.1 := by decide +kernel
theorem tyJ0_ok : ∀ k, k < 0 → parseFieldDescriptor (TJ0 k).2.2.1 = some (tyJ0 k) := by decide +kernel
def RJ10 : String := "java/lang/System"
def TJ10 : u_T := fun k => match k with
  | _ => ("", "", "", false)
def tyJ10 : Nat → FieldType := fun k => match k with
  | _ => .int
abbrev wsJ100 : List Cond := u_ws RJ10 TJ10 0
theorem nmJ10 : ∀ a, a < 0 → ∀ b, b < 0 → a ≠ b → (TJ10 a).2.1 ≠ (TJ10 b).2.1 := by decide +kernel
theorem tyJ10_ok : ∀ k, k < 0 → parseFieldDescriptor (TJ10 k).2.2.1 = some (tyJ10 k) := by decide +kernel
def RL : String := "TelemetryLinkLaw"
abbrev cL_setFrameLength : ByteArray := method_3_code
def yL_setFrameLength : MethodName := ⟨RL, "setFrameLength", "(LTelemetryLink;I[J)I"⟩
abbrev cL_setChannel : ByteArray := method_4_code
def yL_setChannel : MethodName := ⟨RL, "setChannel", "(LTelemetryLink;IIII[J)I"⟩
abbrev cL_setClock : ByteArray := method_5_code
def yL_setClock : MethodName := ⟨RL, "setClock", "(LTelemetryLink;II[J)I"⟩
abbrev cL_addPacket : ByteArray := method_6_code
def yL_addPacket : MethodName := ⟨RL, "addPacket", "(LTelemetryLink;IIII[J)I"⟩
abbrev cL_queue : ByteArray := method_7_code
def yL_queue : MethodName := ⟨RL, "queue", "(LTelemetryLink;II[J)I"⟩
abbrev cL_send : ByteArray := method_8_code
def yL_send : MethodName := ⟨RL, "send", "(LTelemetryLink;I[J)I"⟩
abbrev cL_sent : ByteArray := method_9_code
def yL_sent : MethodName := ⟨RL, "sent", "(LTelemetryLink;II[J)I"⟩
abbrev cL_frameByte : ByteArray := method_10_code
def yL_frameByte : MethodName := ⟨RL, "frameByte", "(LTelemetryLink;II[J)I"⟩
abbrev cL_corrupt : ByteArray := method_11_code
def yL_corrupt : MethodName := ⟨RL, "corrupt", "(LTelemetryLink;III[J)I"⟩
abbrev cL_repair : ByteArray := method_12_code
def yL_repair : MethodName := ⟨RL, "repair", "(LTelemetryLink;I[J)I"⟩
abbrev cL_lose : ByteArray := method_13_code
def yL_lose : MethodName := ⟨RL, "lose", "(LTelemetryLink;I[J)I"⟩
abbrev cL_receive : ByteArray := method_14_code
def yL_receive : MethodName := ⟨RL, "receive", "(LTelemetryLink;I[J)I"⟩
abbrev cL_count : ByteArray := method_15_code
def yL_count : MethodName := ⟨RL, "count", "(LTelemetryLink;I[J)I"⟩
abbrev cL_received : ByteArray := method_16_code
def yL_received : MethodName := ⟨RL, "received", "(LTelemetryLink;II[J)I"⟩
abbrev cL_application : ByteArray := method_17_code
def yL_application : MethodName := ⟨RL, "application", "(LTelemetryLink;II[J)I"⟩
abbrev cL_packet : ByteArray := method_18_code
def yL_packet : MethodName := ⟨RL, "packet", "(LTelemetryLink;II[J)I"⟩
abbrev cL_packetByte : ByteArray := method_19_code
def yL_packetByte : MethodName := ⟨RL, "packetByte", "(LTelemetryLink;II[J)I"⟩
abbrev cL_groundTime : ByteArray := method_20_code
def yL_groundTime : MethodName := ⟨RL, "groundTime", "(LTelemetryLink;J[J)I"⟩
abbrev cL_undo : ByteArray := method_21_code
def yL_undo : MethodName := ⟨RL, "undo", "(LTelemetryLink;[J)I"⟩
abbrev cL_law : ByteArray := code
def yL_law : MethodName := ⟨RL, "law", "([I)Z"⟩
abbrev vwCl : List vw_C := [(RX0, TX0, 2), (RX1, TX1, 5), (RX2, TX2, 5), (RX3, TX3, 5), (RX4, TX4, 6), (RX5, TX5, 9), (RX6, TX6, 11), (RX7, TX7, 9), (RX8, TX8, 3), (RX9, TX9, 2), (RX10, TX10, 3), (RX11, TX11, 5)]
end
section
theorem dX0_init_0 : decode cX0_init 0 = .ok (.aload_n 0, 1) := by decide +kernel
theorem dX0_init_1 : decode cX0_init 1 = .ok (.invokespecial 3, 3) := by decide +kernel
theorem dX0_init_4 : decode cX0_init 4 = .ok (.aload_n 0, 1) := by decide +kernel
theorem dX0_init_5 : decode cX0_init 5 = .ok (.iconst 0, 1) := by decide +kernel
theorem dX0_init_6 : decode cX0_init 6 = .ok (.putfield 9, 3) := by decide +kernel
theorem dX0_init_9 : decode cX0_init 9 = .ok (.aload_n 0, 1) := by decide +kernel
theorem dX0_init_10 : decode cX0_init 10 = .ok (.bipush 30, 2) := by decide +kernel
theorem dX0_init_12 : decode cX0_init 12 = .ok (.anewarray 15, 3) := by decide +kernel
theorem dX0_init_15 : decode cX0_init 15 = .ok (.putfield 17, 3) := by decide +kernel
theorem dX0_init_18 : decode cX0_init 18 = .ok (.iconst 0, 1) := by decide +kernel
theorem dX0_init_19 : decode cX0_init 19 = .ok (.istore_n 1, 1) := by decide +kernel
theorem dX0_init_20 : decode cX0_init 20 = .ok (.iload_n 1, 1) := by decide +kernel
theorem dX0_init_21 : decode cX0_init 21 = .ok (.bipush 30, 2) := by decide +kernel
theorem dX0_init_23 : decode cX0_init 23 = .ok (.if_icmp .ge 22, 3) := by decide +kernel
theorem dX0_init_26 : decode cX0_init 26 = .ok (.aload_n 0, 1) := by decide +kernel
theorem dX0_init_27 : decode cX0_init 27 = .ok (.getfield 17, 3) := by decide +kernel
theorem dX0_init_30 : decode cX0_init 30 = .ok (.iload_n 1, 1) := by decide +kernel
theorem dX0_init_31 : decode cX0_init 31 = .ok (.new 15, 3) := by decide +kernel
theorem dX0_init_34 : decode cX0_init 34 = .ok (.dup, 1) := by decide +kernel
theorem dX0_init_35 : decode cX0_init 35 = .ok (.invokespecial 21, 3) := by decide +kernel
theorem dX0_init_38 : decode cX0_init 38 = .ok (.aastore, 1) := by decide +kernel
theorem dX0_init_39 : decode cX0_init 39 = .ok (.iinc 1 1, 3) := by decide +kernel
theorem dX0_init_42 : decode cX0_init 42 = .ok (.goto (-22), 3) := by decide +kernel
theorem dX0_init_45 : decode cX0_init 45 = .ok (.return_, 1) := by decide +kernel
theorem dX0_copyFrom_0 : decode cX0_copyFrom 0 = .ok (.aload_n 0, 1) := by decide +kernel
theorem dX0_copyFrom_1 : decode cX0_copyFrom 1 = .ok (.aload_n 1, 1) := by decide +kernel
theorem dX0_copyFrom_2 : decode cX0_copyFrom 2 = .ok (.getfield 9, 3) := by decide +kernel
theorem dX0_copyFrom_5 : decode cX0_copyFrom 5 = .ok (.putfield 9, 3) := by decide +kernel
theorem dX0_copyFrom_8 : decode cX0_copyFrom 8 = .ok (.iconst 0, 1) := by decide +kernel
theorem dX0_copyFrom_9 : decode cX0_copyFrom 9 = .ok (.istore_n 2, 1) := by decide +kernel
theorem dX0_copyFrom_10 : decode cX0_copyFrom 10 = .ok (.iload_n 2, 1) := by decide +kernel
theorem dX0_copyFrom_11 : decode cX0_copyFrom 11 = .ok (.aload_n 0, 1) := by decide +kernel
theorem dX0_copyFrom_12 : decode cX0_copyFrom 12 = .ok (.getfield 9, 3) := by decide +kernel
theorem dX0_copyFrom_15 : decode cX0_copyFrom 15 = .ok (.if_icmp .ge 30, 3) := by decide +kernel
theorem dX0_copyFrom_18 : decode cX0_copyFrom 18 = .ok (.iload_n 2, 1) := by decide +kernel
theorem dX0_copyFrom_19 : decode cX0_copyFrom 19 = .ok (.bipush 30, 2) := by decide +kernel
theorem dX0_copyFrom_21 : decode cX0_copyFrom 21 = .ok (.if_icmp .ge 24, 3) := by decide +kernel
theorem dX0_copyFrom_24 : decode cX0_copyFrom 24 = .ok (.aload_n 0, 1) := by decide +kernel
theorem dX0_copyFrom_25 : decode cX0_copyFrom 25 = .ok (.getfield 17, 3) := by decide +kernel
theorem dX0_copyFrom_28 : decode cX0_copyFrom 28 = .ok (.iload_n 2, 1) := by decide +kernel
theorem dX0_copyFrom_29 : decode cX0_copyFrom 29 = .ok (.aaload, 1) := by decide +kernel
theorem dX0_copyFrom_30 : decode cX0_copyFrom 30 = .ok (.aload_n 1, 1) := by decide +kernel
theorem dX0_copyFrom_31 : decode cX0_copyFrom 31 = .ok (.getfield 17, 3) := by decide +kernel
theorem dX0_copyFrom_34 : decode cX0_copyFrom 34 = .ok (.iload_n 2, 1) := by decide +kernel
theorem dX0_copyFrom_35 : decode cX0_copyFrom 35 = .ok (.aaload, 1) := by decide +kernel
theorem dX0_copyFrom_36 : decode cX0_copyFrom 36 = .ok (.invokevirtual 22, 3) := by decide +kernel
theorem dX0_copyFrom_39 : decode cX0_copyFrom 39 = .ok (.iinc 2 1, 3) := by decide +kernel
theorem dX0_copyFrom_42 : decode cX0_copyFrom 42 = .ok (.goto (-32), 3) := by decide +kernel
theorem dX0_copyFrom_45 : decode cX0_copyFrom 45 = .ok (.return_, 1) := by decide +kernel
theorem dX0_append_0 : decode cX0_append 0 = .ok (.aload_n 0, 1) := by decide +kernel
theorem dX0_append_1 : decode cX0_append 1 = .ok (.getfield 9, 3) := by decide +kernel
theorem dX0_append_4 : decode cX0_append 4 = .ok (.bipush 30, 2) := by decide +kernel
theorem dX0_append_6 : decode cX0_append 6 = .ok (.if_icmp .ge 25, 3) := by decide +kernel
theorem dX0_append_9 : decode cX0_append 9 = .ok (.aload_n 0, 1) := by decide +kernel
theorem dX0_append_10 : decode cX0_append 10 = .ok (.dup, 1) := by decide +kernel
theorem dX0_append_11 : decode cX0_append 11 = .ok (.getfield 9, 3) := by decide +kernel
theorem dX0_append_14 : decode cX0_append 14 = .ok (.iconst 1, 1) := by decide +kernel
theorem dX0_append_15 : decode cX0_append 15 = .ok (.iadd, 1) := by decide +kernel
theorem dX0_append_16 : decode cX0_append 16 = .ok (.putfield 9, 3) := by decide +kernel
theorem dX0_append_19 : decode cX0_append 19 = .ok (.aload_n 0, 1) := by decide +kernel
theorem dX0_append_20 : decode cX0_append 20 = .ok (.getfield 17, 3) := by decide +kernel
theorem dX0_append_23 : decode cX0_append 23 = .ok (.aload_n 0, 1) := by decide +kernel
theorem dX0_append_24 : decode cX0_append 24 = .ok (.getfield 9, 3) := by decide +kernel
theorem dX0_append_27 : decode cX0_append 27 = .ok (.iconst 1, 1) := by decide +kernel
theorem dX0_append_28 : decode cX0_append 28 = .ok (.isub, 1) := by decide +kernel
theorem dX0_append_29 : decode cX0_append 29 = .ok (.aaload, 1) := by decide +kernel
theorem dX0_append_30 : decode cX0_append 30 = .ok (.areturn, 1) := by decide +kernel
theorem dX0_append_31 : decode cX0_append 31 = .ok (.aload_n 0, 1) := by decide +kernel
theorem dX0_append_32 : decode cX0_append 32 = .ok (.getfield 17, 3) := by decide +kernel
theorem dX0_append_35 : decode cX0_append 35 = .ok (.iconst 0, 1) := by decide +kernel
theorem dX0_append_36 : decode cX0_append 36 = .ok (.aaload, 1) := by decide +kernel
theorem dX0_append_37 : decode cX0_append 37 = .ok (.astore_n 1, 1) := by decide +kernel
theorem dX0_append_38 : decode cX0_append 38 = .ok (.iconst 1, 1) := by decide +kernel
theorem dX0_append_39 : decode cX0_append 39 = .ok (.istore_n 2, 1) := by decide +kernel
theorem dX0_append_40 : decode cX0_append 40 = .ok (.iload_n 2, 1) := by decide +kernel
theorem dX0_append_41 : decode cX0_append 41 = .ok (.bipush 30, 2) := by decide +kernel
theorem dX0_append_43 : decode cX0_append 43 = .ok (.if_icmp .ge 23, 3) := by decide +kernel
theorem dX0_append_46 : decode cX0_append 46 = .ok (.aload_n 0, 1) := by decide +kernel
theorem dX0_append_47 : decode cX0_append 47 = .ok (.getfield 17, 3) := by decide +kernel
theorem dX0_append_50 : decode cX0_append 50 = .ok (.iload_n 2, 1) := by decide +kernel
theorem dX0_append_51 : decode cX0_append 51 = .ok (.iconst 1, 1) := by decide +kernel
theorem dX0_append_52 : decode cX0_append 52 = .ok (.isub, 1) := by decide +kernel
theorem dX0_append_53 : decode cX0_append 53 = .ok (.aload_n 0, 1) := by decide +kernel
theorem dX0_append_54 : decode cX0_append 54 = .ok (.getfield 17, 3) := by decide +kernel
theorem dX0_append_57 : decode cX0_append 57 = .ok (.iload_n 2, 1) := by decide +kernel
theorem dX0_append_58 : decode cX0_append 58 = .ok (.aaload, 1) := by decide +kernel
theorem dX0_append_59 : decode cX0_append 59 = .ok (.aastore, 1) := by decide +kernel
theorem dX0_append_60 : decode cX0_append 60 = .ok (.iinc 2 1, 3) := by decide +kernel
theorem dX0_append_63 : decode cX0_append 63 = .ok (.goto (-23), 3) := by decide +kernel
theorem dX0_append_66 : decode cX0_append 66 = .ok (.aload_n 0, 1) := by decide +kernel
theorem dX0_append_67 : decode cX0_append 67 = .ok (.getfield 17, 3) := by decide +kernel
theorem dX0_append_70 : decode cX0_append 70 = .ok (.bipush 29, 2) := by decide +kernel
theorem dX0_append_72 : decode cX0_append 72 = .ok (.aload_n 1, 1) := by decide +kernel
theorem dX0_append_73 : decode cX0_append 73 = .ok (.aastore, 1) := by decide +kernel
theorem dX0_append_74 : decode cX0_append 74 = .ok (.aload_n 1, 1) := by decide +kernel
theorem dX0_append_75 : decode cX0_append 75 = .ok (.areturn, 1) := by decide +kernel
theorem dX1_init_0 : decode cX1_init 0 = .ok (.aload_n 0, 1) := by decide +kernel
theorem dX1_init_1 : decode cX1_init 1 = .ok (.invokespecial 3, 3) := by decide +kernel
theorem dX1_init_4 : decode cX1_init 4 = .ok (.aload_n 0, 1) := by decide +kernel
theorem dX1_init_5 : decode cX1_init 5 = .ok (.sipush 255, 3) := by decide +kernel
theorem dX1_init_8 : decode cX1_init 8 = .ok (.newarray .int, 2) := by decide +kernel
theorem dX1_init_10 : decode cX1_init 10 = .ok (.putfield 9, 3) := by decide +kernel
theorem dX1_init_13 : decode cX1_init 13 = .ok (.return_, 1) := by decide +kernel
theorem dX1_copyFrom_0 : decode cX1_copyFrom 0 = .ok (.aload_n 0, 1) := by decide +kernel
theorem dX1_copyFrom_1 : decode cX1_copyFrom 1 = .ok (.aload_n 1, 1) := by decide +kernel
theorem dX1_copyFrom_2 : decode cX1_copyFrom 2 = .ok (.getfield 15, 3) := by decide +kernel
theorem dX1_copyFrom_5 : decode cX1_copyFrom 5 = .ok (.putfield 15, 3) := by decide +kernel
theorem dX1_copyFrom_8 : decode cX1_copyFrom 8 = .ok (.aload_n 0, 1) := by decide +kernel
theorem dX1_copyFrom_9 : decode cX1_copyFrom 9 = .ok (.aload_n 1, 1) := by decide +kernel
theorem dX1_copyFrom_10 : decode cX1_copyFrom 10 = .ok (.getfield 19, 3) := by decide +kernel
theorem dX1_copyFrom_13 : decode cX1_copyFrom 13 = .ok (.putfield 19, 3) := by decide +kernel
theorem dX1_copyFrom_16 : decode cX1_copyFrom 16 = .ok (.aload_n 0, 1) := by decide +kernel
theorem dX1_copyFrom_17 : decode cX1_copyFrom 17 = .ok (.aload_n 1, 1) := by decide +kernel
theorem dX1_copyFrom_18 : decode cX1_copyFrom 18 = .ok (.getfield 22, 3) := by decide +kernel
theorem dX1_copyFrom_21 : decode cX1_copyFrom 21 = .ok (.putfield 22, 3) := by decide +kernel
theorem dX1_copyFrom_24 : decode cX1_copyFrom 24 = .ok (.aload_n 0, 1) := by decide +kernel
theorem dX1_copyFrom_25 : decode cX1_copyFrom 25 = .ok (.aload_n 1, 1) := by decide +kernel
theorem dX1_copyFrom_26 : decode cX1_copyFrom 26 = .ok (.getfield 25, 3) := by decide +kernel
theorem dX1_copyFrom_29 : decode cX1_copyFrom 29 = .ok (.putfield 25, 3) := by decide +kernel
theorem dX1_copyFrom_32 : decode cX1_copyFrom 32 = .ok (.aload_n 1, 1) := by decide +kernel
theorem dX1_copyFrom_33 : decode cX1_copyFrom 33 = .ok (.getfield 9, 3) := by decide +kernel
theorem dX1_copyFrom_36 : decode cX1_copyFrom 36 = .ok (.iconst 0, 1) := by decide +kernel
theorem dX1_copyFrom_37 : decode cX1_copyFrom 37 = .ok (.aload_n 0, 1) := by decide +kernel
theorem dX1_copyFrom_38 : decode cX1_copyFrom 38 = .ok (.getfield 9, 3) := by decide +kernel
theorem dX1_copyFrom_41 : decode cX1_copyFrom 41 = .ok (.iconst 0, 1) := by decide +kernel
theorem dX1_copyFrom_42 : decode cX1_copyFrom 42 = .ok (.sipush 255, 3) := by decide +kernel
theorem dX1_copyFrom_45 : decode cX1_copyFrom 45 = .ok (.invokestatic 28, 3) := by decide +kernel
theorem dX1_copyFrom_48 : decode cX1_copyFrom 48 = .ok (.return_, 1) := by decide +kernel
theorem dX1_fill_0 : decode cX1_fill 0 = .ok (.aload_n 0, 1) := by decide +kernel
theorem dX1_fill_1 : decode cX1_fill 1 = .ok (.iload_n 2, 1) := by decide +kernel
theorem dX1_fill_2 : decode cX1_fill 2 = .ok (.putfield 15, 3) := by decide +kernel
theorem dX1_fill_5 : decode cX1_fill 5 = .ok (.aload_n 0, 1) := by decide +kernel
theorem dX1_fill_6 : decode cX1_fill 6 = .ok (.aload_n 1, 1) := by decide +kernel
theorem dX1_fill_7 : decode cX1_fill 7 = .ok (.getfield 34, 3) := by decide +kernel
theorem dX1_fill_10 : decode cX1_fill 10 = .ok (.iconst 0, 1) := by decide +kernel
theorem dX1_fill_11 : decode cX1_fill 11 = .ok (.iaload, 1) := by decide +kernel
theorem dX1_fill_12 : decode cX1_fill 12 = .ok (.putfield 19, 3) := by decide +kernel
theorem dX1_fill_15 : decode cX1_fill 15 = .ok (.aload_n 0, 1) := by decide +kernel
theorem dX1_fill_16 : decode cX1_fill 16 = .ok (.aload_n 1, 1) := by decide +kernel
theorem dX1_fill_17 : decode cX1_fill 17 = .ok (.getfield 34, 3) := by decide +kernel
theorem dX1_fill_20 : decode cX1_fill 20 = .ok (.iconst 1, 1) := by decide +kernel
theorem dX1_fill_21 : decode cX1_fill 21 = .ok (.iaload, 1) := by decide +kernel
theorem dX1_fill_22 : decode cX1_fill 22 = .ok (.putfield 22, 3) := by decide +kernel
theorem dX1_fill_25 : decode cX1_fill 25 = .ok (.aload_n 0, 1) := by decide +kernel
theorem dX1_fill_26 : decode cX1_fill 26 = .ok (.aload_n 1, 1) := by decide +kernel
theorem dX1_fill_27 : decode cX1_fill 27 = .ok (.getfield 34, 3) := by decide +kernel
theorem dX1_fill_30 : decode cX1_fill 30 = .ok (.iconst 2, 1) := by decide +kernel
theorem dX1_fill_31 : decode cX1_fill 31 = .ok (.iaload, 1) := by decide +kernel
theorem dX1_fill_32 : decode cX1_fill 32 = .ok (.sipush 255, 3) := by decide +kernel
theorem dX1_fill_35 : decode cX1_fill 35 = .ok (.invokestatic 39, 3) := by decide +kernel
theorem dX1_fill_38 : decode cX1_fill 38 = .ok (.putfield 25, 3) := by decide +kernel
theorem dX1_fill_41 : decode cX1_fill 41 = .ok (.aload_n 1, 1) := by decide +kernel
theorem dX1_fill_42 : decode cX1_fill 42 = .ok (.getfield 34, 3) := by decide +kernel
theorem dX1_fill_45 : decode cX1_fill 45 = .ok (.iconst 3, 1) := by decide +kernel
theorem dX1_fill_46 : decode cX1_fill 46 = .ok (.aload_n 0, 1) := by decide +kernel
theorem dX1_fill_47 : decode cX1_fill 47 = .ok (.getfield 9, 3) := by decide +kernel
theorem dX1_fill_50 : decode cX1_fill 50 = .ok (.iconst 0, 1) := by decide +kernel
theorem dX1_fill_51 : decode cX1_fill 51 = .ok (.sipush 255, 3) := by decide +kernel
theorem dX1_fill_54 : decode cX1_fill 54 = .ok (.invokestatic 28, 3) := by decide +kernel
theorem dX1_fill_57 : decode cX1_fill 57 = .ok (.return_, 1) := by decide +kernel
theorem dX1_sum_0 : decode cX1_sum 0 = .ok (.iconst 0, 1) := by decide +kernel
theorem dX1_sum_1 : decode cX1_sum 1 = .ok (.istore_n 1, 1) := by decide +kernel
theorem dX1_sum_2 : decode cX1_sum 2 = .ok (.iconst 0, 1) := by decide +kernel
theorem dX1_sum_3 : decode cX1_sum 3 = .ok (.istore_n 2, 1) := by decide +kernel
theorem dX1_sum_4 : decode cX1_sum 4 = .ok (.iload_n 2, 1) := by decide +kernel
theorem dX1_sum_5 : decode cX1_sum 5 = .ok (.aload_n 0, 1) := by decide +kernel
theorem dX1_sum_6 : decode cX1_sum 6 = .ok (.getfield 25, 3) := by decide +kernel
theorem dX1_sum_9 : decode cX1_sum 9 = .ok (.if_icmp .ge 25, 3) := by decide +kernel
theorem dX1_sum_12 : decode cX1_sum 12 = .ok (.iload_n 2, 1) := by decide +kernel
theorem dX1_sum_13 : decode cX1_sum 13 = .ok (.sipush 255, 3) := by decide +kernel
theorem dX1_sum_16 : decode cX1_sum 16 = .ok (.if_icmp .ge 18, 3) := by decide +kernel
theorem dX1_sum_19 : decode cX1_sum 19 = .ok (.iload_n 1, 1) := by decide +kernel
theorem dX1_sum_20 : decode cX1_sum 20 = .ok (.aload_n 0, 1) := by decide +kernel
theorem dX1_sum_21 : decode cX1_sum 21 = .ok (.getfield 9, 3) := by decide +kernel
theorem dX1_sum_24 : decode cX1_sum 24 = .ok (.iload_n 2, 1) := by decide +kernel
theorem dX1_sum_25 : decode cX1_sum 25 = .ok (.iaload, 1) := by decide +kernel
theorem dX1_sum_26 : decode cX1_sum 26 = .ok (.iadd, 1) := by decide +kernel
theorem dX1_sum_27 : decode cX1_sum 27 = .ok (.istore_n 1, 1) := by decide +kernel
theorem dX1_sum_28 : decode cX1_sum 28 = .ok (.iinc 2 1, 3) := by decide +kernel
theorem dX1_sum_31 : decode cX1_sum 31 = .ok (.goto (-27), 3) := by decide +kernel
theorem dX1_sum_34 : decode cX1_sum 34 = .ok (.iload_n 1, 1) := by decide +kernel
theorem dX1_sum_35 : decode cX1_sum 35 = .ok (.ireturn, 1) := by decide +kernel
theorem dX2_init_0 : decode cX2_init 0 = .ok (.aload_n 0, 1) := by decide +kernel
theorem dX2_init_1 : decode cX2_init 1 = .ok (.invokespecial 3, 3) := by decide +kernel
theorem dX2_init_4 : decode cX2_init 4 = .ok (.aload_n 0, 1) := by decide +kernel
theorem dX2_init_5 : decode cX2_init 5 = .ok (.bipush 8, 2) := by decide +kernel
theorem dX2_init_7 : decode cX2_init 7 = .ok (.putfield 9, 3) := by decide +kernel
theorem dX2_init_10 : decode cX2_init 10 = .ok (.aload_n 0, 1) := by decide +kernel
theorem dX2_init_11 : decode cX2_init 11 = .ok (.iconst 0, 1) := by decide +kernel
theorem dX2_init_12 : decode cX2_init 12 = .ok (.putfield 15, 3) := by decide +kernel
theorem dX2_init_15 : decode cX2_init 15 = .ok (.aload_n 0, 1) := by decide +kernel
theorem dX2_init_16 : decode cX2_init 16 = .ok (.lconst 0, 1) := by decide +kernel
theorem dX2_init_17 : decode cX2_init 17 = .ok (.putfield 19, 3) := by decide +kernel
theorem dX2_init_20 : decode cX2_init 20 = .ok (.aload_n 0, 1) := by decide +kernel
theorem dX2_init_21 : decode cX2_init 21 = .ok (.lconst 0, 1) := by decide +kernel
theorem dX2_init_22 : decode cX2_init 22 = .ok (.putfield 23, 3) := by decide +kernel
theorem dX2_init_25 : decode cX2_init 25 = .ok (.aload_n 0, 1) := by decide +kernel
theorem dX2_init_26 : decode cX2_init 26 = .ok (.bipush 46, 2) := by decide +kernel
theorem dX2_init_28 : decode cX2_init 28 = .ok (.newarray .int, 2) := by decide +kernel
theorem dX2_init_30 : decode cX2_init 30 = .ok (.putfield 26, 3) := by decide +kernel
theorem dX2_init_33 : decode cX2_init 33 = .ok (.return_, 1) := by decide +kernel
theorem dX2_copyFrom_0 : decode cX2_copyFrom 0 = .ok (.aload_n 0, 1) := by decide +kernel
theorem dX2_copyFrom_1 : decode cX2_copyFrom 1 = .ok (.aload_n 1, 1) := by decide +kernel
theorem dX2_copyFrom_2 : decode cX2_copyFrom 2 = .ok (.getfield 9, 3) := by decide +kernel
theorem dX2_copyFrom_5 : decode cX2_copyFrom 5 = .ok (.putfield 9, 3) := by decide +kernel
theorem dX2_copyFrom_8 : decode cX2_copyFrom 8 = .ok (.aload_n 0, 1) := by decide +kernel
theorem dX2_copyFrom_9 : decode cX2_copyFrom 9 = .ok (.aload_n 1, 1) := by decide +kernel
theorem dX2_copyFrom_10 : decode cX2_copyFrom 10 = .ok (.getfield 15, 3) := by decide +kernel
theorem dX2_copyFrom_13 : decode cX2_copyFrom 13 = .ok (.putfield 15, 3) := by decide +kernel
theorem dX2_copyFrom_16 : decode cX2_copyFrom 16 = .ok (.aload_n 0, 1) := by decide +kernel
theorem dX2_copyFrom_17 : decode cX2_copyFrom 17 = .ok (.aload_n 1, 1) := by decide +kernel
theorem dX2_copyFrom_18 : decode cX2_copyFrom 18 = .ok (.getfield 19, 3) := by decide +kernel
theorem dX2_copyFrom_21 : decode cX2_copyFrom 21 = .ok (.putfield 19, 3) := by decide +kernel
theorem dX2_copyFrom_24 : decode cX2_copyFrom 24 = .ok (.aload_n 0, 1) := by decide +kernel
theorem dX2_copyFrom_25 : decode cX2_copyFrom 25 = .ok (.aload_n 1, 1) := by decide +kernel
theorem dX2_copyFrom_26 : decode cX2_copyFrom 26 = .ok (.getfield 23, 3) := by decide +kernel
theorem dX2_copyFrom_29 : decode cX2_copyFrom 29 = .ok (.putfield 23, 3) := by decide +kernel
theorem dX2_copyFrom_32 : decode cX2_copyFrom 32 = .ok (.aload_n 1, 1) := by decide +kernel
theorem dX2_copyFrom_33 : decode cX2_copyFrom 33 = .ok (.getfield 26, 3) := by decide +kernel
theorem dX2_copyFrom_36 : decode cX2_copyFrom 36 = .ok (.iconst 0, 1) := by decide +kernel
theorem dX2_copyFrom_37 : decode cX2_copyFrom 37 = .ok (.aload_n 0, 1) := by decide +kernel
theorem dX2_copyFrom_38 : decode cX2_copyFrom 38 = .ok (.getfield 26, 3) := by decide +kernel
theorem dX2_copyFrom_41 : decode cX2_copyFrom 41 = .ok (.iconst 0, 1) := by decide +kernel
theorem dX2_copyFrom_42 : decode cX2_copyFrom 42 = .ok (.bipush 46, 2) := by decide +kernel
theorem dX2_copyFrom_44 : decode cX2_copyFrom 44 = .ok (.invokestatic 30, 3) := by decide +kernel
theorem dX2_copyFrom_47 : decode cX2_copyFrom 47 = .ok (.return_, 1) := by decide +kernel
theorem dX2_begin_0 : decode cX2_begin 0 = .ok (.aload_n 0, 1) := by decide +kernel
theorem dX2_begin_1 : decode cX2_begin 1 = .ok (.iload_n 1, 1) := by decide +kernel
theorem dX2_begin_2 : decode cX2_begin 2 = .ok (.putfield 9, 3) := by decide +kernel
theorem dX2_begin_5 : decode cX2_begin 5 = .ok (.aload_n 0, 1) := by decide +kernel
theorem dX2_begin_6 : decode cX2_begin 6 = .ok (.iconst 0, 1) := by decide +kernel
theorem dX2_begin_7 : decode cX2_begin 7 = .ok (.putfield 15, 3) := by decide +kernel
theorem dX2_begin_10 : decode cX2_begin 10 = .ok (.aload_n 0, 1) := by decide +kernel
theorem dX2_begin_11 : decode cX2_begin 11 = .ok (.lload_n 2, 1) := by decide +kernel
theorem dX2_begin_12 : decode cX2_begin 12 = .ok (.putfield 19, 3) := by decide +kernel
theorem dX2_begin_15 : decode cX2_begin 15 = .ok (.aload_n 0, 1) := by decide +kernel
theorem dX2_begin_16 : decode cX2_begin 16 = .ok (.lload 4, 2) := by decide +kernel
theorem dX2_begin_18 : decode cX2_begin 18 = .ok (.putfield 23, 3) := by decide +kernel
theorem dX2_begin_21 : decode cX2_begin 21 = .ok (.return_, 1) := by decide +kernel
theorem dX2_size_0 : decode cX2_size 0 = .ok (.iconst 4, 1) := by decide +kernel
theorem dX2_size_1 : decode cX2_size 1 = .ok (.aload_n 0, 1) := by decide +kernel
theorem dX2_size_2 : decode cX2_size 2 = .ok (.getfield 9, 3) := by decide +kernel
theorem dX2_size_5 : decode cX2_size 5 = .ok (.iadd, 1) := by decide +kernel
theorem dX2_size_6 : decode cX2_size 6 = .ok (.iconst 2, 1) := by decide +kernel
theorem dX2_size_7 : decode cX2_size 7 = .ok (.iadd, 1) := by decide +kernel
theorem dX2_size_8 : decode cX2_size 8 = .ok (.ireturn, 1) := by decide +kernel
theorem dX2_headerPointer_0 : decode cX2_headerPointer 0 = .ok (.aload_n 0, 1) := by decide +kernel
theorem dX2_headerPointer_1 : decode cX2_headerPointer 1 = .ok (.getfield 26, 3) := by decide +kernel
theorem dX2_headerPointer_4 : decode cX2_headerPointer 4 = .ok (.iconst 3, 1) := by decide +kernel
theorem dX2_headerPointer_5 : decode cX2_headerPointer 5 = .ok (.iaload, 1) := by decide +kernel
theorem dX2_headerPointer_6 : decode cX2_headerPointer 6 = .ok (.ireturn, 1) := by decide +kernel
theorem dX2_fillIdle_0 : decode cX2_fillIdle 0 = .ok (.aload_n 0, 1) := by decide +kernel
theorem dX2_fillIdle_1 : decode cX2_fillIdle 1 = .ok (.getfield 26, 3) := by decide +kernel
theorem dX2_fillIdle_4 : decode cX2_fillIdle 4 = .ok (.iconst 3, 1) := by decide +kernel
theorem dX2_fillIdle_5 : decode cX2_fillIdle 5 = .ok (.sipush 254, 3) := by decide +kernel
theorem dX2_fillIdle_8 : decode cX2_fillIdle 8 = .ok (.iastore, 1) := by decide +kernel
theorem dX2_fillIdle_9 : decode cX2_fillIdle 9 = .ok (.iconst 0, 1) := by decide +kernel
theorem dX2_fillIdle_10 : decode cX2_fillIdle 10 = .ok (.istore_n 1, 1) := by decide +kernel
theorem dX2_fillIdle_11 : decode cX2_fillIdle 11 = .ok (.iload_n 1, 1) := by decide +kernel
theorem dX2_fillIdle_12 : decode cX2_fillIdle 12 = .ok (.aload_n 0, 1) := by decide +kernel
theorem dX2_fillIdle_13 : decode cX2_fillIdle 13 = .ok (.getfield 9, 3) := by decide +kernel
theorem dX2_fillIdle_16 : decode cX2_fillIdle 16 = .ok (.if_icmp .ge 25, 3) := by decide +kernel
theorem dX2_fillIdle_19 : decode cX2_fillIdle 19 = .ok (.iload_n 1, 1) := by decide +kernel
theorem dX2_fillIdle_20 : decode cX2_fillIdle 20 = .ok (.bipush 40, 2) := by decide +kernel
theorem dX2_fillIdle_22 : decode cX2_fillIdle 22 = .ok (.if_icmp .ge 19, 3) := by decide +kernel
theorem dX2_fillIdle_25 : decode cX2_fillIdle 25 = .ok (.aload_n 0, 1) := by decide +kernel
theorem dX2_fillIdle_26 : decode cX2_fillIdle 26 = .ok (.getfield 26, 3) := by decide +kernel
theorem dX2_fillIdle_29 : decode cX2_fillIdle 29 = .ok (.iconst 4, 1) := by decide +kernel
theorem dX2_fillIdle_30 : decode cX2_fillIdle 30 = .ok (.iload_n 1, 1) := by decide +kernel
theorem dX2_fillIdle_31 : decode cX2_fillIdle 31 = .ok (.iadd, 1) := by decide +kernel
theorem dX2_fillIdle_32 : decode cX2_fillIdle 32 = .ok (.bipush 85, 2) := by decide +kernel
theorem dX2_fillIdle_34 : decode cX2_fillIdle 34 = .ok (.iastore, 1) := by decide +kernel
theorem dX2_fillIdle_35 : decode cX2_fillIdle 35 = .ok (.iinc 1 1, 3) := by decide +kernel
theorem dX2_fillIdle_38 : decode cX2_fillIdle 38 = .ok (.goto (-27), 3) := by decide +kernel
theorem dX2_fillIdle_41 : decode cX2_fillIdle 41 = .ok (.return_, 1) := by decide +kernel
theorem dX2_checkPlace_0 : decode cX2_checkPlace 0 = .ok (.iconst 4, 1) := by decide +kernel
theorem dX2_checkPlace_1 : decode cX2_checkPlace 1 = .ok (.aload_n 0, 1) := by decide +kernel
theorem dX2_checkPlace_2 : decode cX2_checkPlace 2 = .ok (.getfield 9, 3) := by decide +kernel
theorem dX2_checkPlace_5 : decode cX2_checkPlace 5 = .ok (.iadd, 1) := by decide +kernel
theorem dX2_checkPlace_6 : decode cX2_checkPlace 6 = .ok (.bipush 44, 2) := by decide +kernel
theorem dX2_checkPlace_8 : decode cX2_checkPlace 8 = .ok (.invokestatic 36, 3) := by decide +kernel
theorem dX2_checkPlace_11 : decode cX2_checkPlace 11 = .ok (.ireturn, 1) := by decide +kernel
theorem dX2_checkValue_0 : decode cX2_checkValue 0 = .ok (.aload_n 0, 1) := by decide +kernel
theorem dX2_checkValue_1 : decode cX2_checkValue 1 = .ok (.invokevirtual 42, 3) := by decide +kernel
theorem dX2_checkValue_4 : decode cX2_checkValue 4 = .ok (.istore_n 1, 1) := by decide +kernel
theorem dX2_checkValue_5 : decode cX2_checkValue 5 = .ok (.aload_n 0, 1) := by decide +kernel
theorem dX2_checkValue_6 : decode cX2_checkValue 6 = .ok (.getfield 26, 3) := by decide +kernel
theorem dX2_checkValue_9 : decode cX2_checkValue 9 = .ok (.iload_n 1, 1) := by decide +kernel
theorem dX2_checkValue_10 : decode cX2_checkValue 10 = .ok (.iaload, 1) := by decide +kernel
theorem dX2_checkValue_11 : decode cX2_checkValue 11 = .ok (.sipush 256, 3) := by decide +kernel
theorem dX2_checkValue_14 : decode cX2_checkValue 14 = .ok (.imul, 1) := by decide +kernel
theorem dX2_checkValue_15 : decode cX2_checkValue 15 = .ok (.aload_n 0, 1) := by decide +kernel
theorem dX2_checkValue_16 : decode cX2_checkValue 16 = .ok (.getfield 26, 3) := by decide +kernel
theorem dX2_checkValue_19 : decode cX2_checkValue 19 = .ok (.iload_n 1, 1) := by decide +kernel
theorem dX2_checkValue_20 : decode cX2_checkValue 20 = .ok (.iconst 1, 1) := by decide +kernel
theorem dX2_checkValue_21 : decode cX2_checkValue 21 = .ok (.iadd, 1) := by decide +kernel
theorem dX2_checkValue_22 : decode cX2_checkValue 22 = .ok (.iaload, 1) := by decide +kernel
theorem dX2_checkValue_23 : decode cX2_checkValue 23 = .ok (.iadd, 1) := by decide +kernel
theorem dX2_checkValue_24 : decode cX2_checkValue 24 = .ok (.ireturn, 1) := by decide +kernel
theorem dX2_rightCheck_0 : decode cX2_rightCheck 0 = .ok (.aload_n 0, 1) := by decide +kernel
theorem dX2_rightCheck_1 : decode cX2_rightCheck 1 = .ok (.invokevirtual 42, 3) := by decide +kernel
theorem dX2_rightCheck_4 : decode cX2_rightCheck 4 = .ok (.istore_n 1, 1) := by decide +kernel
theorem dX2_rightCheck_5 : decode cX2_rightCheck 5 = .ok (.ldc 46, 2) := by decide +kernel
theorem dX2_rightCheck_7 : decode cX2_rightCheck 7 = .ok (.istore_n 2, 1) := by decide +kernel
theorem dX2_rightCheck_8 : decode cX2_rightCheck 8 = .ok (.iconst 0, 1) := by decide +kernel
theorem dX2_rightCheck_9 : decode cX2_rightCheck 9 = .ok (.istore_n 3, 1) := by decide +kernel
theorem dX2_rightCheck_10 : decode cX2_rightCheck 10 = .ok (.iload_n 3, 1) := by decide +kernel
theorem dX2_rightCheck_11 : decode cX2_rightCheck 11 = .ok (.iload_n 1, 1) := by decide +kernel
theorem dX2_rightCheck_12 : decode cX2_rightCheck 12 = .ok (.if_icmp .ge 61, 3) := by decide +kernel
theorem dX2_rightCheck_15 : decode cX2_rightCheck 15 = .ok (.iload_n 2, 1) := by decide +kernel
theorem dX2_rightCheck_16 : decode cX2_rightCheck 16 = .ok (.aload_n 0, 1) := by decide +kernel
theorem dX2_rightCheck_17 : decode cX2_rightCheck 17 = .ok (.getfield 26, 3) := by decide +kernel
theorem dX2_rightCheck_20 : decode cX2_rightCheck 20 = .ok (.iload_n 3, 1) := by decide +kernel
theorem dX2_rightCheck_21 : decode cX2_rightCheck 21 = .ok (.iaload, 1) := by decide +kernel
theorem dX2_rightCheck_22 : decode cX2_rightCheck 22 = .ok (.sipush 256, 3) := by decide +kernel
theorem dX2_rightCheck_25 : decode cX2_rightCheck 25 = .ok (.imul, 1) := by decide +kernel
theorem dX2_rightCheck_26 : decode cX2_rightCheck 26 = .ok (.ixor, 1) := by decide +kernel
theorem dX2_rightCheck_27 : decode cX2_rightCheck 27 = .ok (.istore_n 2, 1) := by decide +kernel
theorem dX2_rightCheck_28 : decode cX2_rightCheck 28 = .ok (.iconst 0, 1) := by decide +kernel
theorem dX2_rightCheck_29 : decode cX2_rightCheck 29 = .ok (.istore 4, 2) := by decide +kernel
theorem dX2_rightCheck_31 : decode cX2_rightCheck 31 = .ok (.iload 4, 2) := by decide +kernel
theorem dX2_rightCheck_33 : decode cX2_rightCheck 33 = .ok (.bipush 8, 2) := by decide +kernel
theorem dX2_rightCheck_35 : decode cX2_rightCheck 35 = .ok (.if_icmp .ge 32, 3) := by decide +kernel
theorem dX2_rightCheck_38 : decode cX2_rightCheck 38 = .ok (.iload_n 2, 1) := by decide +kernel
theorem dX2_rightCheck_39 : decode cX2_rightCheck 39 = .ok (.ldc 47, 2) := by decide +kernel
theorem dX2_rightCheck_41 : decode cX2_rightCheck 41 = .ok (.if_icmp .lt 16, 3) := by decide +kernel
theorem dX2_rightCheck_44 : decode cX2_rightCheck 44 = .ok (.iconst 2, 1) := by decide +kernel
theorem dX2_rightCheck_45 : decode cX2_rightCheck 45 = .ok (.iload_n 2, 1) := by decide +kernel
theorem dX2_rightCheck_46 : decode cX2_rightCheck 46 = .ok (.imul, 1) := by decide +kernel
theorem dX2_rightCheck_47 : decode cX2_rightCheck 47 = .ok (.sipush 4129, 3) := by decide +kernel
theorem dX2_rightCheck_50 : decode cX2_rightCheck 50 = .ok (.ixor, 1) := by decide +kernel
theorem dX2_rightCheck_51 : decode cX2_rightCheck 51 = .ok (.ldc 46, 2) := by decide +kernel
theorem dX2_rightCheck_53 : decode cX2_rightCheck 53 = .ok (.iand, 1) := by decide +kernel
theorem dX2_rightCheck_54 : decode cX2_rightCheck 54 = .ok (.goto 6, 3) := by decide +kernel
theorem dX2_rightCheck_57 : decode cX2_rightCheck 57 = .ok (.iconst 2, 1) := by decide +kernel
theorem dX2_rightCheck_58 : decode cX2_rightCheck 58 = .ok (.iload_n 2, 1) := by decide +kernel
theorem dX2_rightCheck_59 : decode cX2_rightCheck 59 = .ok (.imul, 1) := by decide +kernel
theorem dX2_rightCheck_60 : decode cX2_rightCheck 60 = .ok (.istore_n 2, 1) := by decide +kernel
theorem dX2_rightCheck_61 : decode cX2_rightCheck 61 = .ok (.iinc 4 1, 3) := by decide +kernel
theorem dX2_rightCheck_64 : decode cX2_rightCheck 64 = .ok (.goto (-33), 3) := by decide +kernel
theorem dX2_rightCheck_67 : decode cX2_rightCheck 67 = .ok (.iinc 3 1, 3) := by decide +kernel
theorem dX2_rightCheck_70 : decode cX2_rightCheck 70 = .ok (.goto (-60), 3) := by decide +kernel
theorem dX2_rightCheck_73 : decode cX2_rightCheck 73 = .ok (.iload_n 2, 1) := by decide +kernel
theorem dX2_rightCheck_74 : decode cX2_rightCheck 74 = .ok (.ireturn, 1) := by decide +kernel
theorem dX2_setRightCheck_0 : decode cX2_setRightCheck 0 = .ok (.aload_n 0, 1) := by decide +kernel
theorem dX2_setRightCheck_1 : decode cX2_setRightCheck 1 = .ok (.invokevirtual 48, 3) := by decide +kernel
theorem dX2_setRightCheck_4 : decode cX2_setRightCheck 4 = .ok (.istore_n 1, 1) := by decide +kernel
theorem dX2_setRightCheck_5 : decode cX2_setRightCheck 5 = .ok (.aload_n 0, 1) := by decide +kernel
theorem dX2_setRightCheck_6 : decode cX2_setRightCheck 6 = .ok (.invokevirtual 42, 3) := by decide +kernel
theorem dX2_setRightCheck_9 : decode cX2_setRightCheck 9 = .ok (.istore_n 2, 1) := by decide +kernel
theorem dX2_setRightCheck_10 : decode cX2_setRightCheck 10 = .ok (.aload_n 0, 1) := by decide +kernel
theorem dX2_setRightCheck_11 : decode cX2_setRightCheck 11 = .ok (.getfield 26, 3) := by decide +kernel
theorem dX2_setRightCheck_14 : decode cX2_setRightCheck 14 = .ok (.iload_n 2, 1) := by decide +kernel
theorem dX2_setRightCheck_15 : decode cX2_setRightCheck 15 = .ok (.iload_n 1, 1) := by decide +kernel
theorem dX2_setRightCheck_16 : decode cX2_setRightCheck 16 = .ok (.sipush 256, 3) := by decide +kernel
theorem dX2_setRightCheck_19 : decode cX2_setRightCheck 19 = .ok (.idiv, 1) := by decide +kernel
theorem dX2_setRightCheck_20 : decode cX2_setRightCheck 20 = .ok (.iastore, 1) := by decide +kernel
theorem dX2_setRightCheck_21 : decode cX2_setRightCheck 21 = .ok (.aload_n 0, 1) := by decide +kernel
theorem dX2_setRightCheck_22 : decode cX2_setRightCheck 22 = .ok (.getfield 26, 3) := by decide +kernel
theorem dX2_setRightCheck_25 : decode cX2_setRightCheck 25 = .ok (.iload_n 2, 1) := by decide +kernel
theorem dX2_setRightCheck_26 : decode cX2_setRightCheck 26 = .ok (.iconst 1, 1) := by decide +kernel
theorem dX2_setRightCheck_27 : decode cX2_setRightCheck 27 = .ok (.iadd, 1) := by decide +kernel
theorem dX2_setRightCheck_28 : decode cX2_setRightCheck 28 = .ok (.iload_n 1, 1) := by decide +kernel
theorem dX2_setRightCheck_29 : decode cX2_setRightCheck 29 = .ok (.sipush 256, 3) := by decide +kernel
theorem dX2_setRightCheck_32 : decode cX2_setRightCheck 32 = .ok (.irem, 1) := by decide +kernel
theorem dX2_setRightCheck_33 : decode cX2_setRightCheck 33 = .ok (.iastore, 1) := by decide +kernel
theorem dX2_setRightCheck_34 : decode cX2_setRightCheck 34 = .ok (.iload_n 1, 1) := by decide +kernel
theorem dX2_setRightCheck_35 : decode cX2_setRightCheck 35 = .ok (.ireturn, 1) := by decide +kernel
theorem dX3_init_0 : decode cX3_init 0 = .ok (.aload_n 0, 1) := by decide +kernel
theorem dX3_init_1 : decode cX3_init 1 = .ok (.invokespecial 3, 3) := by decide +kernel
theorem dX3_init_4 : decode cX3_init 4 = .ok (.return_, 1) := by decide +kernel
theorem dX3_copyFrom_0 : decode cX3_copyFrom 0 = .ok (.aload_n 0, 1) := by decide +kernel
theorem dX3_copyFrom_1 : decode cX3_copyFrom 1 = .ok (.aload_n 1, 1) := by decide +kernel
theorem dX3_copyFrom_2 : decode cX3_copyFrom 2 = .ok (.getfield 9, 3) := by decide +kernel
theorem dX3_copyFrom_5 : decode cX3_copyFrom 5 = .ok (.putfield 9, 3) := by decide +kernel
theorem dX3_copyFrom_8 : decode cX3_copyFrom 8 = .ok (.aload_n 0, 1) := by decide +kernel
theorem dX3_copyFrom_9 : decode cX3_copyFrom 9 = .ok (.aload_n 1, 1) := by decide +kernel
theorem dX3_copyFrom_10 : decode cX3_copyFrom 10 = .ok (.getfield 15, 3) := by decide +kernel
theorem dX3_copyFrom_13 : decode cX3_copyFrom 13 = .ok (.putfield 15, 3) := by decide +kernel
theorem dX3_copyFrom_16 : decode cX3_copyFrom 16 = .ok (.aload_n 0, 1) := by decide +kernel
theorem dX3_copyFrom_17 : decode cX3_copyFrom 17 = .ok (.aload_n 1, 1) := by decide +kernel
theorem dX3_copyFrom_18 : decode cX3_copyFrom 18 = .ok (.getfield 18, 3) := by decide +kernel
theorem dX3_copyFrom_21 : decode cX3_copyFrom 21 = .ok (.putfield 18, 3) := by decide +kernel
theorem dX3_copyFrom_24 : decode cX3_copyFrom 24 = .ok (.aload_n 0, 1) := by decide +kernel
theorem dX3_copyFrom_25 : decode cX3_copyFrom 25 = .ok (.aload_n 1, 1) := by decide +kernel
theorem dX3_copyFrom_26 : decode cX3_copyFrom 26 = .ok (.getfield 21, 3) := by decide +kernel
theorem dX3_copyFrom_29 : decode cX3_copyFrom 29 = .ok (.putfield 21, 3) := by decide +kernel
theorem dX3_copyFrom_32 : decode cX3_copyFrom 32 = .ok (.aload_n 0, 1) := by decide +kernel
theorem dX3_copyFrom_33 : decode cX3_copyFrom 33 = .ok (.aload_n 1, 1) := by decide +kernel
theorem dX3_copyFrom_34 : decode cX3_copyFrom 34 = .ok (.getfield 24, 3) := by decide +kernel
theorem dX3_copyFrom_37 : decode cX3_copyFrom 37 = .ok (.putfield 24, 3) := by decide +kernel
theorem dX3_copyFrom_40 : decode cX3_copyFrom 40 = .ok (.return_, 1) := by decide +kernel
theorem dX3_size_0 : decode cX3_size 0 = .ok (.iconst 3, 1) := by decide +kernel
theorem dX3_size_1 : decode cX3_size 1 = .ok (.aload_n 0, 1) := by decide +kernel
theorem dX3_size_2 : decode cX3_size 2 = .ok (.getfield 18, 3) := by decide +kernel
theorem dX3_size_5 : decode cX3_size 5 = .ok (.iadd, 1) := by decide +kernel
theorem dX3_size_6 : decode cX3_size 6 = .ok (.ireturn, 1) := by decide +kernel
theorem dX3_byteAt_0 : decode cX3_byteAt 0 = .ok (.iload_n 1, 1) := by decide +kernel
theorem dX3_byteAt_1 : decode cX3_byteAt 1 = .ok (.tableswitch 42 0 2 #[27, 32, 37], 27) := by decide +kernel
theorem dX3_byteAt_28 : decode cX3_byteAt 28 = .ok (.aload_n 0, 1) := by decide +kernel
theorem dX3_byteAt_29 : decode cX3_byteAt 29 = .ok (.getfield 9, 3) := by decide +kernel
theorem dX3_byteAt_32 : decode cX3_byteAt 32 = .ok (.ireturn, 1) := by decide +kernel
theorem dX3_byteAt_33 : decode cX3_byteAt 33 = .ok (.aload_n 0, 1) := by decide +kernel
theorem dX3_byteAt_34 : decode cX3_byteAt 34 = .ok (.getfield 15, 3) := by decide +kernel
theorem dX3_byteAt_37 : decode cX3_byteAt 37 = .ok (.ireturn, 1) := by decide +kernel
theorem dX3_byteAt_38 : decode cX3_byteAt 38 = .ok (.aload_n 0, 1) := by decide +kernel
theorem dX3_byteAt_39 : decode cX3_byteAt 39 = .ok (.getfield 18, 3) := by decide +kernel
theorem dX3_byteAt_42 : decode cX3_byteAt 42 = .ok (.ireturn, 1) := by decide +kernel
theorem dX3_byteAt_43 : decode cX3_byteAt 43 = .ok (.aload_n 0, 1) := by decide +kernel
theorem dX3_byteAt_44 : decode cX3_byteAt 44 = .ok (.getfield 9, 3) := by decide +kernel
theorem dX3_byteAt_47 : decode cX3_byteAt 47 = .ok (.bipush 15, 2) := by decide +kernel
theorem dX3_byteAt_49 : decode cX3_byteAt 49 = .ok (.if_icmp .ne 9, 3) := by decide +kernel
theorem dX3_byteAt_52 : decode cX3_byteAt 52 = .ok (.sipush 170, 3) := by decide +kernel
theorem dX3_byteAt_55 : decode cX3_byteAt 55 = .ok (.goto 18, 3) := by decide +kernel
theorem dX3_byteAt_58 : decode cX3_byteAt 58 = .ok (.aload_n 0, 1) := by decide +kernel
theorem dX3_byteAt_59 : decode cX3_byteAt 59 = .ok (.getfield 21, 3) := by decide +kernel
theorem dX3_byteAt_62 : decode cX3_byteAt 62 = .ok (.bipush 7, 2) := by decide +kernel
theorem dX3_byteAt_64 : decode cX3_byteAt 64 = .ok (.iload_n 1, 1) := by decide +kernel
theorem dX3_byteAt_65 : decode cX3_byteAt 65 = .ok (.iconst 3, 1) := by decide +kernel
theorem dX3_byteAt_66 : decode cX3_byteAt 66 = .ok (.isub, 1) := by decide +kernel
theorem dX3_byteAt_67 : decode cX3_byteAt 67 = .ok (.imul, 1) := by decide +kernel
theorem dX3_byteAt_68 : decode cX3_byteAt 68 = .ok (.iadd, 1) := by decide +kernel
theorem dX3_byteAt_69 : decode cX3_byteAt 69 = .ok (.sipush 255, 3) := by decide +kernel
theorem dX3_byteAt_72 : decode cX3_byteAt 72 = .ok (.iand, 1) := by decide +kernel
theorem dX3_byteAt_73 : decode cX3_byteAt 73 = .ok (.ireturn, 1) := by decide +kernel
theorem dX4_init_0 : decode cX4_init 0 = .ok (.aload_n 0, 1) := by decide +kernel
theorem dX4_init_1 : decode cX4_init 1 = .ok (.invokespecial 3, 3) := by decide +kernel
theorem dX4_init_4 : decode cX4_init 4 = .ok (.aload_n 0, 1) := by decide +kernel
theorem dX4_init_5 : decode cX4_init 5 = .ok (.iconst 0, 1) := by decide +kernel
theorem dX4_init_6 : decode cX4_init 6 = .ok (.putfield 9, 3) := by decide +kernel
theorem dX4_init_9 : decode cX4_init 9 = .ok (.aload_n 0, 1) := by decide +kernel
theorem dX4_init_10 : decode cX4_init 10 = .ok (.iconst 0, 1) := by decide +kernel
theorem dX4_init_11 : decode cX4_init 11 = .ok (.putfield 15, 3) := by decide +kernel
theorem dX4_init_14 : decode cX4_init 14 = .ok (.aload_n 0, 1) := by decide +kernel
theorem dX4_init_15 : decode cX4_init 15 = .ok (.iconst 0, 1) := by decide +kernel
theorem dX4_init_16 : decode cX4_init 16 = .ok (.putfield 18, 3) := by decide +kernel
theorem dX4_init_19 : decode cX4_init 19 = .ok (.aload_n 0, 1) := by decide +kernel
theorem dX4_init_20 : decode cX4_init 20 = .ok (.iconst 0, 1) := by decide +kernel
theorem dX4_init_21 : decode cX4_init 21 = .ok (.putfield 21, 3) := by decide +kernel
theorem dX4_init_24 : decode cX4_init 24 = .ok (.aload_n 0, 1) := by decide +kernel
theorem dX4_init_25 : decode cX4_init 25 = .ok (.iconst 0, 1) := by decide +kernel
theorem dX4_init_26 : decode cX4_init 26 = .ok (.putfield 25, 3) := by decide +kernel
theorem dX4_init_29 : decode cX4_init 29 = .ok (.aload_n 0, 1) := by decide +kernel
theorem dX4_init_30 : decode cX4_init 30 = .ok (.sipush 258, 3) := by decide +kernel
theorem dX4_init_33 : decode cX4_init 33 = .ok (.newarray .int, 2) := by decide +kernel
theorem dX4_init_35 : decode cX4_init 35 = .ok (.putfield 28, 3) := by decide +kernel
theorem dX4_init_38 : decode cX4_init 38 = .ok (.return_, 1) := by decide +kernel
theorem dX4_copyFrom_0 : decode cX4_copyFrom 0 = .ok (.aload_n 0, 1) := by decide +kernel
theorem dX4_copyFrom_1 : decode cX4_copyFrom 1 = .ok (.aload_n 1, 1) := by decide +kernel
theorem dX4_copyFrom_2 : decode cX4_copyFrom 2 = .ok (.getfield 9, 3) := by decide +kernel
theorem dX4_copyFrom_5 : decode cX4_copyFrom 5 = .ok (.putfield 9, 3) := by decide +kernel
theorem dX4_copyFrom_8 : decode cX4_copyFrom 8 = .ok (.aload_n 0, 1) := by decide +kernel
theorem dX4_copyFrom_9 : decode cX4_copyFrom 9 = .ok (.aload_n 1, 1) := by decide +kernel
theorem dX4_copyFrom_10 : decode cX4_copyFrom 10 = .ok (.getfield 15, 3) := by decide +kernel
theorem dX4_copyFrom_13 : decode cX4_copyFrom 13 = .ok (.putfield 15, 3) := by decide +kernel
theorem dX4_copyFrom_16 : decode cX4_copyFrom 16 = .ok (.aload_n 0, 1) := by decide +kernel
theorem dX4_copyFrom_17 : decode cX4_copyFrom 17 = .ok (.aload_n 1, 1) := by decide +kernel
theorem dX4_copyFrom_18 : decode cX4_copyFrom 18 = .ok (.getfield 18, 3) := by decide +kernel
theorem dX4_copyFrom_21 : decode cX4_copyFrom 21 = .ok (.putfield 18, 3) := by decide +kernel
theorem dX4_copyFrom_24 : decode cX4_copyFrom 24 = .ok (.aload_n 0, 1) := by decide +kernel
theorem dX4_copyFrom_25 : decode cX4_copyFrom 25 = .ok (.aload_n 1, 1) := by decide +kernel
theorem dX4_copyFrom_26 : decode cX4_copyFrom 26 = .ok (.getfield 21, 3) := by decide +kernel
theorem dX4_copyFrom_29 : decode cX4_copyFrom 29 = .ok (.putfield 21, 3) := by decide +kernel
theorem dX4_copyFrom_32 : decode cX4_copyFrom 32 = .ok (.aload_n 0, 1) := by decide +kernel
theorem dX4_copyFrom_33 : decode cX4_copyFrom 33 = .ok (.aload_n 1, 1) := by decide +kernel
theorem dX4_copyFrom_34 : decode cX4_copyFrom 34 = .ok (.getfield 25, 3) := by decide +kernel
theorem dX4_copyFrom_37 : decode cX4_copyFrom 37 = .ok (.putfield 25, 3) := by decide +kernel
theorem dX4_copyFrom_40 : decode cX4_copyFrom 40 = .ok (.aload_n 1, 1) := by decide +kernel
theorem dX4_copyFrom_41 : decode cX4_copyFrom 41 = .ok (.getfield 28, 3) := by decide +kernel
theorem dX4_copyFrom_44 : decode cX4_copyFrom 44 = .ok (.iconst 0, 1) := by decide +kernel
theorem dX4_copyFrom_45 : decode cX4_copyFrom 45 = .ok (.aload_n 0, 1) := by decide +kernel
theorem dX4_copyFrom_46 : decode cX4_copyFrom 46 = .ok (.getfield 28, 3) := by decide +kernel
theorem dX4_copyFrom_49 : decode cX4_copyFrom 49 = .ok (.iconst 0, 1) := by decide +kernel
theorem dX4_copyFrom_50 : decode cX4_copyFrom 50 = .ok (.sipush 258, 3) := by decide +kernel
theorem dX4_copyFrom_53 : decode cX4_copyFrom 53 = .ok (.invokestatic 32, 3) := by decide +kernel
theorem dX4_copyFrom_56 : decode cX4_copyFrom 56 = .ok (.return_, 1) := by decide +kernel
theorem dX4_countFrame_0 : decode cX4_countFrame 0 = .ok (.iconst 1, 1) := by decide +kernel
theorem dX4_countFrame_1 : decode cX4_countFrame 1 = .ok (.istore_n 2, 1) := by decide +kernel
theorem dX4_countFrame_2 : decode cX4_countFrame 2 = .ok (.aload_n 0, 1) := by decide +kernel
theorem dX4_countFrame_3 : decode cX4_countFrame 3 = .ok (.getfield 9, 3) := by decide +kernel
theorem dX4_countFrame_6 : decode cX4_countFrame 6 = .ok (.ifCond .le 26, 3) := by decide +kernel
theorem dX4_countFrame_9 : decode cX4_countFrame 9 = .ok (.iload_n 1, 1) := by decide +kernel
theorem dX4_countFrame_10 : decode cX4_countFrame 10 = .ok (.aload_n 0, 1) := by decide +kernel
theorem dX4_countFrame_11 : decode cX4_countFrame 11 = .ok (.getfield 18, 3) := by decide +kernel
theorem dX4_countFrame_14 : decode cX4_countFrame 14 = .ok (.isub, 1) := by decide +kernel
theorem dX4_countFrame_15 : decode cX4_countFrame 15 = .ok (.iconst 1, 1) := by decide +kernel
theorem dX4_countFrame_16 : decode cX4_countFrame 16 = .ok (.isub, 1) := by decide +kernel
theorem dX4_countFrame_17 : decode cX4_countFrame 17 = .ok (.sipush 255, 3) := by decide +kernel
theorem dX4_countFrame_20 : decode cX4_countFrame 20 = .ok (.iand, 1) := by decide +kernel
theorem dX4_countFrame_21 : decode cX4_countFrame 21 = .ok (.istore_n 2, 1) := by decide +kernel
theorem dX4_countFrame_22 : decode cX4_countFrame 22 = .ok (.aload_n 0, 1) := by decide +kernel
theorem dX4_countFrame_23 : decode cX4_countFrame 23 = .ok (.dup, 1) := by decide +kernel
theorem dX4_countFrame_24 : decode cX4_countFrame 24 = .ok (.getfield 15, 3) := by decide +kernel
theorem dX4_countFrame_27 : decode cX4_countFrame 27 = .ok (.iload_n 2, 1) := by decide +kernel
theorem dX4_countFrame_28 : decode cX4_countFrame 28 = .ok (.iadd, 1) := by decide +kernel
theorem dX4_countFrame_29 : decode cX4_countFrame 29 = .ok (.putfield 15, 3) := by decide +kernel
theorem dX4_countFrame_32 : decode cX4_countFrame 32 = .ok (.aload_n 0, 1) := by decide +kernel
theorem dX4_countFrame_33 : decode cX4_countFrame 33 = .ok (.dup, 1) := by decide +kernel
theorem dX4_countFrame_34 : decode cX4_countFrame 34 = .ok (.getfield 9, 3) := by decide +kernel
theorem dX4_countFrame_37 : decode cX4_countFrame 37 = .ok (.iconst 1, 1) := by decide +kernel
theorem dX4_countFrame_38 : decode cX4_countFrame 38 = .ok (.iadd, 1) := by decide +kernel
theorem dX4_countFrame_39 : decode cX4_countFrame 39 = .ok (.putfield 9, 3) := by decide +kernel
theorem dX4_countFrame_42 : decode cX4_countFrame 42 = .ok (.aload_n 0, 1) := by decide +kernel
theorem dX4_countFrame_43 : decode cX4_countFrame 43 = .ok (.iload_n 1, 1) := by decide +kernel
theorem dX4_countFrame_44 : decode cX4_countFrame 44 = .ok (.putfield 18, 3) := by decide +kernel
theorem dX4_countFrame_47 : decode cX4_countFrame 47 = .ok (.iload_n 2, 1) := by decide +kernel
theorem dX4_countFrame_48 : decode cX4_countFrame 48 = .ok (.ifCond .ne 5, 3) := by decide +kernel
theorem dX4_countFrame_51 : decode cX4_countFrame 51 = .ok (.iconst 0, 1) := by decide +kernel
theorem dX4_countFrame_52 : decode cX4_countFrame 52 = .ok (.ireturn, 1) := by decide +kernel
theorem dX4_countFrame_53 : decode cX4_countFrame 53 = .ok (.aload_n 0, 1) := by decide +kernel
theorem dX4_countFrame_54 : decode cX4_countFrame 54 = .ok (.getfield 25, 3) := by decide +kernel
theorem dX4_countFrame_57 : decode cX4_countFrame 57 = .ok (.ifCond .le 7, 3) := by decide +kernel
theorem dX4_countFrame_60 : decode cX4_countFrame 60 = .ok (.iconst 1, 1) := by decide +kernel
theorem dX4_countFrame_61 : decode cX4_countFrame 61 = .ok (.goto 4, 3) := by decide +kernel
theorem dX4_countFrame_64 : decode cX4_countFrame 64 = .ok (.iconst 0, 1) := by decide +kernel
theorem dX4_countFrame_65 : decode cX4_countFrame 65 = .ok (.istore_n 3, 1) := by decide +kernel
theorem dX4_countFrame_66 : decode cX4_countFrame 66 = .ok (.aload_n 0, 1) := by decide +kernel
theorem dX4_countFrame_67 : decode cX4_countFrame 67 = .ok (.iconst 0, 1) := by decide +kernel
theorem dX4_countFrame_68 : decode cX4_countFrame 68 = .ok (.putfield 25, 3) := by decide +kernel
theorem dX4_countFrame_71 : decode cX4_countFrame 71 = .ok (.aload_n 0, 1) := by decide +kernel
theorem dX4_countFrame_72 : decode cX4_countFrame 72 = .ok (.iconst 0, 1) := by decide +kernel
theorem dX4_countFrame_73 : decode cX4_countFrame 73 = .ok (.putfield 21, 3) := by decide +kernel
theorem dX4_countFrame_76 : decode cX4_countFrame 76 = .ok (.iload_n 3, 1) := by decide +kernel
theorem dX4_countFrame_77 : decode cX4_countFrame 77 = .ok (.ireturn, 1) := by decide +kernel
theorem dX4_firstPlace_0 : decode cX4_firstPlace 0 = .ok (.aload_n 0, 1) := by decide +kernel
theorem dX4_firstPlace_1 : decode cX4_firstPlace 1 = .ok (.getfield 21, 3) := by decide +kernel
theorem dX4_firstPlace_4 : decode cX4_firstPlace 4 = .ok (.ifCond .eq 5, 3) := by decide +kernel
theorem dX4_firstPlace_7 : decode cX4_firstPlace 7 = .ok (.iconst 0, 1) := by decide +kernel
theorem dX4_firstPlace_8 : decode cX4_firstPlace 8 = .ok (.ireturn, 1) := by decide +kernel
theorem dX4_firstPlace_9 : decode cX4_firstPlace 9 = .ok (.aload_n 1, 1) := by decide +kernel
theorem dX4_firstPlace_10 : decode cX4_firstPlace 10 = .ok (.invokevirtual 38, 3) := by decide +kernel
theorem dX4_firstPlace_13 : decode cX4_firstPlace 13 = .ok (.istore_n 2, 1) := by decide +kernel
theorem dX4_firstPlace_14 : decode cX4_firstPlace 14 = .ok (.aload_n 0, 1) := by decide +kernel
theorem dX4_firstPlace_15 : decode cX4_firstPlace 15 = .ok (.iload_n 2, 1) := by decide +kernel
theorem dX4_firstPlace_16 : decode cX4_firstPlace 16 = .ok (.sipush 255, 3) := by decide +kernel
theorem dX4_firstPlace_19 : decode cX4_firstPlace 19 = .ok (.if_icmp .eq 7, 3) := by decide +kernel
theorem dX4_firstPlace_22 : decode cX4_firstPlace 22 = .ok (.iconst 1, 1) := by decide +kernel
theorem dX4_firstPlace_23 : decode cX4_firstPlace 23 = .ok (.goto 4, 3) := by decide +kernel
theorem dX4_firstPlace_26 : decode cX4_firstPlace 26 = .ok (.iconst 0, 1) := by decide +kernel
theorem dX4_firstPlace_27 : decode cX4_firstPlace 27 = .ok (.putfield 21, 3) := by decide +kernel
theorem dX4_firstPlace_30 : decode cX4_firstPlace 30 = .ok (.iload_n 2, 1) := by decide +kernel
theorem dX4_firstPlace_31 : decode cX4_firstPlace 31 = .ok (.aload_n 1, 1) := by decide +kernel
theorem dX4_firstPlace_32 : decode cX4_firstPlace 32 = .ok (.getfield 44, 3) := by decide +kernel
theorem dX4_firstPlace_35 : decode cX4_firstPlace 35 = .ok (.invokestatic 47, 3) := by decide +kernel
theorem dX4_firstPlace_38 : decode cX4_firstPlace 38 = .ok (.ireturn, 1) := by decide +kernel
theorem dX4_append_0 : decode cX4_append 0 = .ok (.aload_n 0, 1) := by decide +kernel
theorem dX4_append_1 : decode cX4_append 1 = .ok (.getfield 25, 3) := by decide +kernel
theorem dX4_append_4 : decode cX4_append 4 = .ok (.ifCond .lt 33, 3) := by decide +kernel
theorem dX4_append_7 : decode cX4_append 7 = .ok (.aload_n 0, 1) := by decide +kernel
theorem dX4_append_8 : decode cX4_append 8 = .ok (.getfield 25, 3) := by decide +kernel
theorem dX4_append_11 : decode cX4_append 11 = .ok (.sipush 258, 3) := by decide +kernel
theorem dX4_append_14 : decode cX4_append 14 = .ok (.if_icmp .ge 23, 3) := by decide +kernel
theorem dX4_append_17 : decode cX4_append 17 = .ok (.aload_n 0, 1) := by decide +kernel
theorem dX4_append_18 : decode cX4_append 18 = .ok (.getfield 28, 3) := by decide +kernel
theorem dX4_append_21 : decode cX4_append 21 = .ok (.aload_n 0, 1) := by decide +kernel
theorem dX4_append_22 : decode cX4_append 22 = .ok (.getfield 25, 3) := by decide +kernel
theorem dX4_append_25 : decode cX4_append 25 = .ok (.iload_n 1, 1) := by decide +kernel
theorem dX4_append_26 : decode cX4_append 26 = .ok (.iastore, 1) := by decide +kernel
theorem dX4_append_27 : decode cX4_append 27 = .ok (.aload_n 0, 1) := by decide +kernel
theorem dX4_append_28 : decode cX4_append 28 = .ok (.dup, 1) := by decide +kernel
theorem dX4_append_29 : decode cX4_append 29 = .ok (.getfield 25, 3) := by decide +kernel
theorem dX4_append_32 : decode cX4_append 32 = .ok (.iconst 1, 1) := by decide +kernel
theorem dX4_append_33 : decode cX4_append 33 = .ok (.iadd, 1) := by decide +kernel
theorem dX4_append_34 : decode cX4_append 34 = .ok (.putfield 25, 3) := by decide +kernel
theorem dX4_append_37 : decode cX4_append 37 = .ok (.return_, 1) := by decide +kernel
theorem dX4_isComplete_0 : decode cX4_isComplete 0 = .ok (.aload_n 0, 1) := by decide +kernel
theorem dX4_isComplete_1 : decode cX4_isComplete 1 = .ok (.getfield 25, 3) := by decide +kernel
theorem dX4_isComplete_4 : decode cX4_isComplete 4 = .ok (.iconst 3, 1) := by decide +kernel
theorem dX4_isComplete_5 : decode cX4_isComplete 5 = .ok (.if_icmp .lt 22, 3) := by decide +kernel
theorem dX4_isComplete_8 : decode cX4_isComplete 8 = .ok (.aload_n 0, 1) := by decide +kernel
theorem dX4_isComplete_9 : decode cX4_isComplete 9 = .ok (.getfield 25, 3) := by decide +kernel
theorem dX4_isComplete_12 : decode cX4_isComplete 12 = .ok (.iconst 3, 1) := by decide +kernel
theorem dX4_isComplete_13 : decode cX4_isComplete 13 = .ok (.aload_n 0, 1) := by decide +kernel
theorem dX4_isComplete_14 : decode cX4_isComplete 14 = .ok (.getfield 28, 3) := by decide +kernel
theorem dX4_isComplete_17 : decode cX4_isComplete 17 = .ok (.iconst 2, 1) := by decide +kernel
theorem dX4_isComplete_18 : decode cX4_isComplete 18 = .ok (.iaload, 1) := by decide +kernel
theorem dX4_isComplete_19 : decode cX4_isComplete 19 = .ok (.iadd, 1) := by decide +kernel
theorem dX4_isComplete_20 : decode cX4_isComplete 20 = .ok (.if_icmp .lt 7, 3) := by decide +kernel
theorem dX4_isComplete_23 : decode cX4_isComplete 23 = .ok (.iconst 1, 1) := by decide +kernel
theorem dX4_isComplete_24 : decode cX4_isComplete 24 = .ok (.goto 4, 3) := by decide +kernel
theorem dX4_isComplete_27 : decode cX4_isComplete 27 = .ok (.iconst 0, 1) := by decide +kernel
theorem dX4_isComplete_28 : decode cX4_isComplete 28 = .ok (.ireturn, 1) := by decide +kernel
theorem dX5_init_0 : decode cX5_init 0 = .ok (.aload_n 0, 1) := by decide +kernel
theorem dX5_init_1 : decode cX5_init 1 = .ok (.invokespecial 3, 3) := by decide +kernel
theorem dX5_init_4 : decode cX5_init 4 = .ok (.aload_n 0, 1) := by decide +kernel
theorem dX5_init_5 : decode cX5_init 5 = .ok (.iconst 0, 1) := by decide +kernel
theorem dX5_init_6 : decode cX5_init 6 = .ok (.putfield 9, 3) := by decide +kernel
theorem dX5_init_9 : decode cX5_init 9 = .ok (.aload_n 0, 1) := by decide +kernel
theorem dX5_init_10 : decode cX5_init 10 = .ok (.bipush 6, 2) := by decide +kernel
theorem dX5_init_12 : decode cX5_init 12 = .ok (.newarray .int, 2) := by decide +kernel
theorem dX5_init_14 : decode cX5_init 14 = .ok (.putfield 15, 3) := by decide +kernel
theorem dX5_init_17 : decode cX5_init 17 = .ok (.aload_n 0, 1) := by decide +kernel
theorem dX5_init_18 : decode cX5_init 18 = .ok (.bipush 15, 2) := by decide +kernel
theorem dX5_init_20 : decode cX5_init 20 = .ok (.newarray .int, 2) := by decide +kernel
theorem dX5_init_22 : decode cX5_init 22 = .ok (.putfield 19, 3) := by decide +kernel
theorem dX5_init_25 : decode cX5_init 25 = .ok (.aload_n 0, 1) := by decide +kernel
theorem dX5_init_26 : decode cX5_init 26 = .ok (.bipush 15, 2) := by decide +kernel
theorem dX5_init_28 : decode cX5_init 28 = .ok (.newarray .int, 2) := by decide +kernel
theorem dX5_init_30 : decode cX5_init 30 = .ok (.putfield 22, 3) := by decide +kernel
theorem dX5_init_33 : decode cX5_init 33 = .ok (.aload_n 0, 1) := by decide +kernel
theorem dX5_init_34 : decode cX5_init 34 = .ok (.bipush 15, 2) := by decide +kernel
theorem dX5_init_36 : decode cX5_init 36 = .ok (.newarray .int, 2) := by decide +kernel
theorem dX5_init_38 : decode cX5_init 38 = .ok (.putfield 25, 3) := by decide +kernel
theorem dX5_init_41 : decode cX5_init 41 = .ok (.aload_n 0, 1) := by decide +kernel
theorem dX5_init_42 : decode cX5_init 42 = .ok (.bipush 15, 2) := by decide +kernel
theorem dX5_init_44 : decode cX5_init 44 = .ok (.newarray .int, 2) := by decide +kernel
theorem dX5_init_46 : decode cX5_init 46 = .ok (.putfield 28, 3) := by decide +kernel
theorem dX5_init_49 : decode cX5_init 49 = .ok (.aload_n 0, 1) := by decide +kernel
theorem dX5_init_50 : decode cX5_init 50 = .ok (.iconst 4, 1) := by decide +kernel
theorem dX5_init_51 : decode cX5_init 51 = .ok (.anewarray 31, 3) := by decide +kernel
theorem dX5_init_54 : decode cX5_init 54 = .ok (.putfield 33, 3) := by decide +kernel
theorem dX5_init_57 : decode cX5_init 57 = .ok (.aload_n 0, 1) := by decide +kernel
theorem dX5_init_58 : decode cX5_init 58 = .ok (.new 37, 3) := by decide +kernel
theorem dX5_init_61 : decode cX5_init 61 = .ok (.dup, 1) := by decide +kernel
theorem dX5_init_62 : decode cX5_init 62 = .ok (.invokespecial 39, 3) := by decide +kernel
theorem dX5_init_65 : decode cX5_init 65 = .ok (.putfield 40, 3) := by decide +kernel
theorem dX5_init_68 : decode cX5_init 68 = .ok (.aload_n 0, 1) := by decide +kernel
theorem dX5_init_69 : decode cX5_init 69 = .ok (.new 44, 3) := by decide +kernel
theorem dX5_init_72 : decode cX5_init 72 = .ok (.dup, 1) := by decide +kernel
theorem dX5_init_73 : decode cX5_init 73 = .ok (.invokespecial 46, 3) := by decide +kernel
theorem dX5_init_76 : decode cX5_init 76 = .ok (.putfield 47, 3) := by decide +kernel
theorem dX5_init_79 : decode cX5_init 79 = .ok (.iconst 0, 1) := by decide +kernel
theorem dX5_init_80 : decode cX5_init 80 = .ok (.istore_n 1, 1) := by decide +kernel
theorem dX5_init_81 : decode cX5_init 81 = .ok (.iload_n 1, 1) := by decide +kernel
theorem dX5_init_82 : decode cX5_init 82 = .ok (.iconst 4, 1) := by decide +kernel
theorem dX5_init_83 : decode cX5_init 83 = .ok (.if_icmp .ge 22, 3) := by decide +kernel
theorem dX5_init_86 : decode cX5_init 86 = .ok (.aload_n 0, 1) := by decide +kernel
theorem dX5_init_87 : decode cX5_init 87 = .ok (.getfield 33, 3) := by decide +kernel
theorem dX5_init_90 : decode cX5_init 90 = .ok (.iload_n 1, 1) := by decide +kernel
theorem dX5_init_91 : decode cX5_init 91 = .ok (.new 31, 3) := by decide +kernel
theorem dX5_init_94 : decode cX5_init 94 = .ok (.dup, 1) := by decide +kernel
theorem dX5_init_95 : decode cX5_init 95 = .ok (.invokespecial 51, 3) := by decide +kernel
theorem dX5_init_98 : decode cX5_init 98 = .ok (.aastore, 1) := by decide +kernel
theorem dX5_init_99 : decode cX5_init 99 = .ok (.iinc 1 1, 3) := by decide +kernel
theorem dX5_init_102 : decode cX5_init 102 = .ok (.goto (-21), 3) := by decide +kernel
theorem dX5_init_105 : decode cX5_init 105 = .ok (.return_, 1) := by decide +kernel
theorem dX5_copyFrom_0 : decode cX5_copyFrom 0 = .ok (.aload_n 0, 1) := by decide +kernel
theorem dX5_copyFrom_1 : decode cX5_copyFrom 1 = .ok (.aload_n 1, 1) := by decide +kernel
theorem dX5_copyFrom_2 : decode cX5_copyFrom 2 = .ok (.getfield 9, 3) := by decide +kernel
theorem dX5_copyFrom_5 : decode cX5_copyFrom 5 = .ok (.putfield 9, 3) := by decide +kernel
theorem dX5_copyFrom_8 : decode cX5_copyFrom 8 = .ok (.aload_n 1, 1) := by decide +kernel
theorem dX5_copyFrom_9 : decode cX5_copyFrom 9 = .ok (.getfield 15, 3) := by decide +kernel
theorem dX5_copyFrom_12 : decode cX5_copyFrom 12 = .ok (.iconst 0, 1) := by decide +kernel
theorem dX5_copyFrom_13 : decode cX5_copyFrom 13 = .ok (.aload_n 0, 1) := by decide +kernel
theorem dX5_copyFrom_14 : decode cX5_copyFrom 14 = .ok (.getfield 15, 3) := by decide +kernel
theorem dX5_copyFrom_17 : decode cX5_copyFrom 17 = .ok (.iconst 0, 1) := by decide +kernel
theorem dX5_copyFrom_18 : decode cX5_copyFrom 18 = .ok (.bipush 6, 2) := by decide +kernel
theorem dX5_copyFrom_20 : decode cX5_copyFrom 20 = .ok (.invokestatic 52, 3) := by decide +kernel
theorem dX5_copyFrom_23 : decode cX5_copyFrom 23 = .ok (.aload_n 1, 1) := by decide +kernel
theorem dX5_copyFrom_24 : decode cX5_copyFrom 24 = .ok (.getfield 19, 3) := by decide +kernel
theorem dX5_copyFrom_27 : decode cX5_copyFrom 27 = .ok (.iconst 0, 1) := by decide +kernel
theorem dX5_copyFrom_28 : decode cX5_copyFrom 28 = .ok (.aload_n 0, 1) := by decide +kernel
theorem dX5_copyFrom_29 : decode cX5_copyFrom 29 = .ok (.getfield 19, 3) := by decide +kernel
theorem dX5_copyFrom_32 : decode cX5_copyFrom 32 = .ok (.iconst 0, 1) := by decide +kernel
theorem dX5_copyFrom_33 : decode cX5_copyFrom 33 = .ok (.bipush 15, 2) := by decide +kernel
theorem dX5_copyFrom_35 : decode cX5_copyFrom 35 = .ok (.invokestatic 52, 3) := by decide +kernel
theorem dX5_copyFrom_38 : decode cX5_copyFrom 38 = .ok (.aload_n 1, 1) := by decide +kernel
theorem dX5_copyFrom_39 : decode cX5_copyFrom 39 = .ok (.getfield 22, 3) := by decide +kernel
theorem dX5_copyFrom_42 : decode cX5_copyFrom 42 = .ok (.iconst 0, 1) := by decide +kernel
theorem dX5_copyFrom_43 : decode cX5_copyFrom 43 = .ok (.aload_n 0, 1) := by decide +kernel
theorem dX5_copyFrom_44 : decode cX5_copyFrom 44 = .ok (.getfield 22, 3) := by decide +kernel
theorem dX5_copyFrom_47 : decode cX5_copyFrom 47 = .ok (.iconst 0, 1) := by decide +kernel
theorem dX5_copyFrom_48 : decode cX5_copyFrom 48 = .ok (.bipush 15, 2) := by decide +kernel
theorem dX5_copyFrom_50 : decode cX5_copyFrom 50 = .ok (.invokestatic 52, 3) := by decide +kernel
theorem dX5_copyFrom_53 : decode cX5_copyFrom 53 = .ok (.aload_n 1, 1) := by decide +kernel
theorem dX5_copyFrom_54 : decode cX5_copyFrom 54 = .ok (.getfield 25, 3) := by decide +kernel
theorem dX5_copyFrom_57 : decode cX5_copyFrom 57 = .ok (.iconst 0, 1) := by decide +kernel
theorem dX5_copyFrom_58 : decode cX5_copyFrom 58 = .ok (.aload_n 0, 1) := by decide +kernel
theorem dX5_copyFrom_59 : decode cX5_copyFrom 59 = .ok (.getfield 25, 3) := by decide +kernel
theorem dX5_copyFrom_62 : decode cX5_copyFrom 62 = .ok (.iconst 0, 1) := by decide +kernel
theorem dX5_copyFrom_63 : decode cX5_copyFrom 63 = .ok (.bipush 15, 2) := by decide +kernel
theorem dX5_copyFrom_65 : decode cX5_copyFrom 65 = .ok (.invokestatic 52, 3) := by decide +kernel
theorem dX5_copyFrom_68 : decode cX5_copyFrom 68 = .ok (.aload_n 1, 1) := by decide +kernel
theorem dX5_copyFrom_69 : decode cX5_copyFrom 69 = .ok (.getfield 28, 3) := by decide +kernel
theorem dX5_copyFrom_72 : decode cX5_copyFrom 72 = .ok (.iconst 0, 1) := by decide +kernel
theorem dX5_copyFrom_73 : decode cX5_copyFrom 73 = .ok (.aload_n 0, 1) := by decide +kernel
theorem dX5_copyFrom_74 : decode cX5_copyFrom 74 = .ok (.getfield 28, 3) := by decide +kernel
theorem dX5_copyFrom_77 : decode cX5_copyFrom 77 = .ok (.iconst 0, 1) := by decide +kernel
theorem dX5_copyFrom_78 : decode cX5_copyFrom 78 = .ok (.bipush 15, 2) := by decide +kernel
theorem dX5_copyFrom_80 : decode cX5_copyFrom 80 = .ok (.invokestatic 52, 3) := by decide +kernel
theorem dX5_copyFrom_83 : decode cX5_copyFrom 83 = .ok (.iconst 0, 1) := by decide +kernel
theorem dX5_copyFrom_84 : decode cX5_copyFrom 84 = .ok (.istore_n 2, 1) := by decide +kernel
theorem dX5_copyFrom_85 : decode cX5_copyFrom 85 = .ok (.iload_n 2, 1) := by decide +kernel
theorem dX5_copyFrom_86 : decode cX5_copyFrom 86 = .ok (.iconst 4, 1) := by decide +kernel
theorem dX5_copyFrom_87 : decode cX5_copyFrom 87 = .ok (.if_icmp .ge 24, 3) := by decide +kernel
theorem dX5_copyFrom_90 : decode cX5_copyFrom 90 = .ok (.aload_n 0, 1) := by decide +kernel
theorem dX5_copyFrom_91 : decode cX5_copyFrom 91 = .ok (.getfield 33, 3) := by decide +kernel
theorem dX5_copyFrom_94 : decode cX5_copyFrom 94 = .ok (.iload_n 2, 1) := by decide +kernel
theorem dX5_copyFrom_95 : decode cX5_copyFrom 95 = .ok (.aaload, 1) := by decide +kernel
theorem dX5_copyFrom_96 : decode cX5_copyFrom 96 = .ok (.aload_n 1, 1) := by decide +kernel
theorem dX5_copyFrom_97 : decode cX5_copyFrom 97 = .ok (.getfield 33, 3) := by decide +kernel
theorem dX5_copyFrom_100 : decode cX5_copyFrom 100 = .ok (.iload_n 2, 1) := by decide +kernel
theorem dX5_copyFrom_101 : decode cX5_copyFrom 101 = .ok (.aaload, 1) := by decide +kernel
theorem dX5_copyFrom_102 : decode cX5_copyFrom 102 = .ok (.invokevirtual 58, 3) := by decide +kernel
theorem dX5_copyFrom_105 : decode cX5_copyFrom 105 = .ok (.iinc 2 1, 3) := by decide +kernel
theorem dX5_copyFrom_108 : decode cX5_copyFrom 108 = .ok (.goto (-23), 3) := by decide +kernel
theorem dX5_copyFrom_111 : decode cX5_copyFrom 111 = .ok (.aload_n 0, 1) := by decide +kernel
theorem dX5_copyFrom_112 : decode cX5_copyFrom 112 = .ok (.getfield 40, 3) := by decide +kernel
theorem dX5_copyFrom_115 : decode cX5_copyFrom 115 = .ok (.aload_n 1, 1) := by decide +kernel
theorem dX5_copyFrom_116 : decode cX5_copyFrom 116 = .ok (.getfield 40, 3) := by decide +kernel
theorem dX5_copyFrom_119 : decode cX5_copyFrom 119 = .ok (.invokevirtual 62, 3) := by decide +kernel
theorem dX5_copyFrom_122 : decode cX5_copyFrom 122 = .ok (.aload_n 0, 1) := by decide +kernel
theorem dX5_copyFrom_123 : decode cX5_copyFrom 123 = .ok (.getfield 47, 3) := by decide +kernel
theorem dX5_copyFrom_126 : decode cX5_copyFrom 126 = .ok (.aload_n 1, 1) := by decide +kernel
theorem dX5_copyFrom_127 : decode cX5_copyFrom 127 = .ok (.getfield 47, 3) := by decide +kernel
theorem dX5_copyFrom_130 : decode cX5_copyFrom 130 = .ok (.invokevirtual 65, 3) := by decide +kernel
theorem dX5_copyFrom_133 : decode cX5_copyFrom 133 = .ok (.return_, 1) := by decide +kernel
theorem dX5_take_0 : decode cX5_take 0 = .ok (.aload_n 1, 1) := by decide +kernel
theorem dX5_take_1 : decode cX5_take 1 = .ok (.getfield 68, 3) := by decide +kernel
theorem dX5_take_4 : decode cX5_take 4 = .ok (.ifCond .eq 5, 3) := by decide +kernel
theorem dX5_take_7 : decode cX5_take 7 = .ok (.iconst 0, 1) := by decide +kernel
theorem dX5_take_8 : decode cX5_take 8 = .ok (.ireturn, 1) := by decide +kernel
theorem dX5_take_9 : decode cX5_take 9 = .ok (.aload_n 1, 1) := by decide +kernel
theorem dX5_take_10 : decode cX5_take 10 = .ok (.getfield 74, 3) := by decide +kernel
theorem dX5_take_13 : decode cX5_take 13 = .ok (.iconst 1, 1) := by decide +kernel
theorem dX5_take_14 : decode cX5_take 14 = .ok (.iaload, 1) := by decide +kernel
theorem dX5_take_15 : decode cX5_take 15 = .ok (.istore_n 2, 1) := by decide +kernel
theorem dX5_take_16 : decode cX5_take 16 = .ok (.iload_n 2, 1) := by decide +kernel
theorem dX5_take_17 : decode cX5_take 17 = .ok (.iconst 0, 1) := by decide +kernel
theorem dX5_take_18 : decode cX5_take 18 = .ok (.iconst 3, 1) := by decide +kernel
theorem dX5_take_19 : decode cX5_take 19 = .ok (.invokestatic 77, 3) := by decide +kernel
theorem dX5_take_22 : decode cX5_take 22 = .ok (.ifCond .eq 9, 3) := by decide +kernel
theorem dX5_take_25 : decode cX5_take 25 = .ok (.iload_n 2, 1) := by decide +kernel
theorem dX5_take_26 : decode cX5_take 26 = .ok (.bipush 7, 2) := by decide +kernel
theorem dX5_take_28 : decode cX5_take 28 = .ok (.if_icmp .ne 7, 3) := by decide +kernel
theorem dX5_take_31 : decode cX5_take 31 = .ok (.iconst 1, 1) := by decide +kernel
theorem dX5_take_32 : decode cX5_take 32 = .ok (.goto 4, 3) := by decide +kernel
theorem dX5_take_35 : decode cX5_take 35 = .ok (.iconst 0, 1) := by decide +kernel
theorem dX5_take_36 : decode cX5_take 36 = .ok (.istore_n 3, 1) := by decide +kernel
theorem dX5_take_37 : decode cX5_take 37 = .ok (.iload_n 3, 1) := by decide +kernel
theorem dX5_take_38 : decode cX5_take 38 = .ok (.ifCond .eq 14, 3) := by decide +kernel
theorem dX5_take_41 : decode cX5_take 41 = .ok (.aload_n 1, 1) := by decide +kernel
theorem dX5_take_42 : decode cX5_take 42 = .ok (.invokevirtual 81, 3) := by decide +kernel
theorem dX5_take_45 : decode cX5_take 45 = .ok (.aload_n 1, 1) := by decide +kernel
theorem dX5_take_46 : decode cX5_take 46 = .ok (.invokevirtual 85, 3) := by decide +kernel
theorem dX5_take_49 : decode cX5_take 49 = .ok (.if_icmp .eq 15, 3) := by decide +kernel
theorem dX5_take_52 : decode cX5_take 52 = .ok (.aload_n 0, 1) := by decide +kernel
theorem dX5_take_53 : decode cX5_take 53 = .ok (.getfield 15, 3) := by decide +kernel
theorem dX5_take_56 : decode cX5_take 56 = .ok (.iconst 1, 1) := by decide +kernel
theorem dX5_take_57 : decode cX5_take 57 = .ok (.dup2, 1) := by decide +kernel
theorem dX5_take_58 : decode cX5_take 58 = .ok (.iaload, 1) := by decide +kernel
theorem dX5_take_59 : decode cX5_take 59 = .ok (.iconst 1, 1) := by decide +kernel
theorem dX5_take_60 : decode cX5_take 60 = .ok (.iadd, 1) := by decide +kernel
theorem dX5_take_61 : decode cX5_take 61 = .ok (.iastore, 1) := by decide +kernel
theorem dX5_take_62 : decode cX5_take 62 = .ok (.iconst 0, 1) := by decide +kernel
theorem dX5_take_63 : decode cX5_take 63 = .ok (.ireturn, 1) := by decide +kernel
theorem dX5_take_64 : decode cX5_take 64 = .ok (.aload_n 0, 1) := by decide +kernel
theorem dX5_take_65 : decode cX5_take 65 = .ok (.aload_n 1, 1) := by decide +kernel
theorem dX5_take_66 : decode cX5_take 66 = .ok (.getfield 74, 3) := by decide +kernel
theorem dX5_take_69 : decode cX5_take 69 = .ok (.iconst 0, 1) := by decide +kernel
theorem dX5_take_70 : decode cX5_take 70 = .ok (.iaload, 1) := by decide +kernel
theorem dX5_take_71 : decode cX5_take 71 = .ok (.invokevirtual 88, 3) := by decide +kernel
theorem dX5_take_74 : decode cX5_take 74 = .ok (.iload_n 2, 1) := by decide +kernel
theorem dX5_take_75 : decode cX5_take 75 = .ok (.bipush 7, 2) := by decide +kernel
theorem dX5_take_77 : decode cX5_take 77 = .ok (.if_icmp .ne 15, 3) := by decide +kernel
theorem dX5_take_80 : decode cX5_take 80 = .ok (.aload_n 0, 1) := by decide +kernel
theorem dX5_take_81 : decode cX5_take 81 = .ok (.getfield 15, 3) := by decide +kernel
theorem dX5_take_84 : decode cX5_take 84 = .ok (.iconst 5, 1) := by decide +kernel
theorem dX5_take_85 : decode cX5_take 85 = .ok (.dup2, 1) := by decide +kernel
theorem dX5_take_86 : decode cX5_take 86 = .ok (.iaload, 1) := by decide +kernel
theorem dX5_take_87 : decode cX5_take 87 = .ok (.iconst 1, 1) := by decide +kernel
theorem dX5_take_88 : decode cX5_take 88 = .ok (.iadd, 1) := by decide +kernel
theorem dX5_take_89 : decode cX5_take 89 = .ok (.iastore, 1) := by decide +kernel
theorem dX5_take_90 : decode cX5_take 90 = .ok (.iconst 0, 1) := by decide +kernel
theorem dX5_take_91 : decode cX5_take 91 = .ok (.ireturn, 1) := by decide +kernel
theorem dX5_take_92 : decode cX5_take 92 = .ok (.iload_n 2, 1) := by decide +kernel
theorem dX5_take_93 : decode cX5_take 93 = .ok (.ifCond .ne 30, 3) := by decide +kernel
theorem dX5_take_96 : decode cX5_take 96 = .ok (.aload_n 1, 1) := by decide +kernel
theorem dX5_take_97 : decode cX5_take 97 = .ok (.getfield 74, 3) := by decide +kernel
theorem dX5_take_100 : decode cX5_take 100 = .ok (.iconst 2, 1) := by decide +kernel
theorem dX5_take_101 : decode cX5_take 101 = .ok (.iaload, 1) := by decide +kernel
theorem dX5_take_102 : decode cX5_take 102 = .ok (.bipush 8, 2) := by decide +kernel
theorem dX5_take_104 : decode cX5_take 104 = .ok (.irem, 1) := by decide +kernel
theorem dX5_take_105 : decode cX5_take 105 = .ok (.ifCond .ne 18, 3) := by decide +kernel
theorem dX5_take_108 : decode cX5_take 108 = .ok (.aload_n 0, 1) := by decide +kernel
theorem dX5_take_109 : decode cX5_take 109 = .ok (.getfield 47, 3) := by decide +kernel
theorem dX5_take_112 : decode cX5_take 112 = .ok (.aload_n 1, 1) := by decide +kernel
theorem dX5_take_113 : decode cX5_take 113 = .ok (.getfield 92, 3) := by decide +kernel
theorem dX5_take_116 : decode cX5_take 116 = .ok (.aload_n 1, 1) := by decide +kernel
theorem dX5_take_117 : decode cX5_take 117 = .ok (.getfield 96, 3) := by decide +kernel
theorem dX5_take_120 : decode cX5_take 120 = .ok (.invokevirtual 99, 3) := by decide +kernel
theorem dX5_take_123 : decode cX5_take 123 = .ok (.aload_n 0, 1) := by decide +kernel
theorem dX5_take_124 : decode cX5_take 124 = .ok (.aload_n 1, 1) := by decide +kernel
theorem dX5_take_125 : decode cX5_take 125 = .ok (.iload_n 2, 1) := by decide +kernel
theorem dX5_take_126 : decode cX5_take 126 = .ok (.invokevirtual 103, 3) := by decide +kernel
theorem dX5_take_129 : decode cX5_take 129 = .ok (.ireturn, 1) := by decide +kernel
theorem dX5_countMaster_0 : decode cX5_countMaster 0 = .ok (.aload_n 0, 1) := by decide +kernel
theorem dX5_countMaster_1 : decode cX5_countMaster 1 = .ok (.getfield 15, 3) := by decide +kernel
theorem dX5_countMaster_4 : decode cX5_countMaster 4 = .ok (.iconst 0, 1) := by decide +kernel
theorem dX5_countMaster_5 : decode cX5_countMaster 5 = .ok (.iaload, 1) := by decide +kernel
theorem dX5_countMaster_6 : decode cX5_countMaster 6 = .ok (.ifCond .le 24, 3) := by decide +kernel
theorem dX5_countMaster_9 : decode cX5_countMaster 9 = .ok (.aload_n 0, 1) := by decide +kernel
theorem dX5_countMaster_10 : decode cX5_countMaster 10 = .ok (.getfield 15, 3) := by decide +kernel
theorem dX5_countMaster_13 : decode cX5_countMaster 13 = .ok (.iconst 2, 1) := by decide +kernel
theorem dX5_countMaster_14 : decode cX5_countMaster 14 = .ok (.dup2, 1) := by decide +kernel
theorem dX5_countMaster_15 : decode cX5_countMaster 15 = .ok (.iaload, 1) := by decide +kernel
theorem dX5_countMaster_16 : decode cX5_countMaster 16 = .ok (.iload_n 1, 1) := by decide +kernel
theorem dX5_countMaster_17 : decode cX5_countMaster 17 = .ok (.aload_n 0, 1) := by decide +kernel
theorem dX5_countMaster_18 : decode cX5_countMaster 18 = .ok (.getfield 9, 3) := by decide +kernel
theorem dX5_countMaster_21 : decode cX5_countMaster 21 = .ok (.isub, 1) := by decide +kernel
theorem dX5_countMaster_22 : decode cX5_countMaster 22 = .ok (.iconst 1, 1) := by decide +kernel
theorem dX5_countMaster_23 : decode cX5_countMaster 23 = .ok (.isub, 1) := by decide +kernel
theorem dX5_countMaster_24 : decode cX5_countMaster 24 = .ok (.sipush 255, 3) := by decide +kernel
theorem dX5_countMaster_27 : decode cX5_countMaster 27 = .ok (.iand, 1) := by decide +kernel
theorem dX5_countMaster_28 : decode cX5_countMaster 28 = .ok (.iadd, 1) := by decide +kernel
theorem dX5_countMaster_29 : decode cX5_countMaster 29 = .ok (.iastore, 1) := by decide +kernel
theorem dX5_countMaster_30 : decode cX5_countMaster 30 = .ok (.aload_n 0, 1) := by decide +kernel
theorem dX5_countMaster_31 : decode cX5_countMaster 31 = .ok (.iload_n 1, 1) := by decide +kernel
theorem dX5_countMaster_32 : decode cX5_countMaster 32 = .ok (.putfield 9, 3) := by decide +kernel
theorem dX5_countMaster_35 : decode cX5_countMaster 35 = .ok (.aload_n 0, 1) := by decide +kernel
theorem dX5_countMaster_36 : decode cX5_countMaster 36 = .ok (.getfield 15, 3) := by decide +kernel
theorem dX5_countMaster_39 : decode cX5_countMaster 39 = .ok (.iconst 0, 1) := by decide +kernel
theorem dX5_countMaster_40 : decode cX5_countMaster 40 = .ok (.dup2, 1) := by decide +kernel
theorem dX5_countMaster_41 : decode cX5_countMaster 41 = .ok (.iaload, 1) := by decide +kernel
theorem dX5_countMaster_42 : decode cX5_countMaster 42 = .ok (.iconst 1, 1) := by decide +kernel
theorem dX5_countMaster_43 : decode cX5_countMaster 43 = .ok (.iadd, 1) := by decide +kernel
theorem dX5_countMaster_44 : decode cX5_countMaster 44 = .ok (.iastore, 1) := by decide +kernel
theorem dX5_countMaster_45 : decode cX5_countMaster 45 = .ok (.return_, 1) := by decide +kernel
theorem dX5_takeData_0 : decode cX5_takeData 0 = .ok (.aload_n 0, 1) := by decide +kernel
theorem dX5_takeData_1 : decode cX5_takeData 1 = .ok (.getfield 33, 3) := by decide +kernel
theorem dX5_takeData_4 : decode cX5_takeData 4 = .ok (.iload_n 2, 1) := by decide +kernel
theorem dX5_takeData_5 : decode cX5_takeData 5 = .ok (.aaload, 1) := by decide +kernel
theorem dX5_takeData_6 : decode cX5_takeData 6 = .ok (.astore_n 3, 1) := by decide +kernel
theorem dX5_takeData_7 : decode cX5_takeData 7 = .ok (.aload_n 3, 1) := by decide +kernel
theorem dX5_takeData_8 : decode cX5_takeData 8 = .ok (.aload_n 1, 1) := by decide +kernel
theorem dX5_takeData_9 : decode cX5_takeData 9 = .ok (.getfield 74, 3) := by decide +kernel
theorem dX5_takeData_12 : decode cX5_takeData 12 = .ok (.iconst 2, 1) := by decide +kernel
theorem dX5_takeData_13 : decode cX5_takeData 13 = .ok (.iaload, 1) := by decide +kernel
theorem dX5_takeData_14 : decode cX5_takeData 14 = .ok (.invokevirtual 107, 3) := by decide +kernel
theorem dX5_takeData_17 : decode cX5_takeData 17 = .ok (.ifCond .eq 13, 3) := by decide +kernel
theorem dX5_takeData_20 : decode cX5_takeData 20 = .ok (.aload_n 0, 1) := by decide +kernel
theorem dX5_takeData_21 : decode cX5_takeData 21 = .ok (.getfield 15, 3) := by decide +kernel
theorem dX5_takeData_24 : decode cX5_takeData 24 = .ok (.iconst 3, 1) := by decide +kernel
theorem dX5_takeData_25 : decode cX5_takeData 25 = .ok (.dup2, 1) := by decide +kernel
theorem dX5_takeData_26 : decode cX5_takeData 26 = .ok (.iaload, 1) := by decide +kernel
theorem dX5_takeData_27 : decode cX5_takeData 27 = .ok (.iconst 1, 1) := by decide +kernel
theorem dX5_takeData_28 : decode cX5_takeData 28 = .ok (.iadd, 1) := by decide +kernel
theorem dX5_takeData_29 : decode cX5_takeData 29 = .ok (.iastore, 1) := by decide +kernel
theorem dX5_takeData_30 : decode cX5_takeData 30 = .ok (.iconst 0, 1) := by decide +kernel
theorem dX5_takeData_31 : decode cX5_takeData 31 = .ok (.istore 4, 2) := by decide +kernel
theorem dX5_takeData_33 : decode cX5_takeData 33 = .ok (.aload_n 3, 1) := by decide +kernel
theorem dX5_takeData_34 : decode cX5_takeData 34 = .ok (.aload_n 1, 1) := by decide +kernel
theorem dX5_takeData_35 : decode cX5_takeData 35 = .ok (.invokevirtual 111, 3) := by decide +kernel
theorem dX5_takeData_38 : decode cX5_takeData 38 = .ok (.istore 5, 2) := by decide +kernel
theorem dX5_takeData_40 : decode cX5_takeData 40 = .ok (.iload 5, 2) := by decide +kernel
theorem dX5_takeData_42 : decode cX5_takeData 42 = .ok (.istore 6, 2) := by decide +kernel
theorem dX5_takeData_44 : decode cX5_takeData 44 = .ok (.iload 6, 2) := by decide +kernel
theorem dX5_takeData_46 : decode cX5_takeData 46 = .ok (.aload_n 1, 1) := by decide +kernel
theorem dX5_takeData_47 : decode cX5_takeData 47 = .ok (.getfield 115, 3) := by decide +kernel
theorem dX5_takeData_50 : decode cX5_takeData 50 = .ok (.if_icmp .ge 52, 3) := by decide +kernel
theorem dX5_takeData_53 : decode cX5_takeData 53 = .ok (.iload 6, 2) := by decide +kernel
theorem dX5_takeData_55 : decode cX5_takeData 55 = .ok (.bipush 40, 2) := by decide +kernel
theorem dX5_takeData_57 : decode cX5_takeData 57 = .ok (.if_icmp .ge 45, 3) := by decide +kernel
theorem dX5_takeData_60 : decode cX5_takeData 60 = .ok (.aload_n 3, 1) := by decide +kernel
theorem dX5_takeData_61 : decode cX5_takeData 61 = .ok (.aload_n 1, 1) := by decide +kernel
theorem dX5_takeData_62 : decode cX5_takeData 62 = .ok (.getfield 74, 3) := by decide +kernel
theorem dX5_takeData_65 : decode cX5_takeData 65 = .ok (.iconst 4, 1) := by decide +kernel
theorem dX5_takeData_66 : decode cX5_takeData 66 = .ok (.iload 6, 2) := by decide +kernel
theorem dX5_takeData_68 : decode cX5_takeData 68 = .ok (.iadd, 1) := by decide +kernel
theorem dX5_takeData_69 : decode cX5_takeData 69 = .ok (.iaload, 1) := by decide +kernel
theorem dX5_takeData_70 : decode cX5_takeData 70 = .ok (.invokevirtual 118, 3) := by decide +kernel
theorem dX5_takeData_73 : decode cX5_takeData 73 = .ok (.aload_n 3, 1) := by decide +kernel
theorem dX5_takeData_74 : decode cX5_takeData 74 = .ok (.invokevirtual 121, 3) := by decide +kernel
theorem dX5_takeData_77 : decode cX5_takeData 77 = .ok (.ifCond .eq 19, 3) := by decide +kernel
theorem dX5_takeData_80 : decode cX5_takeData 80 = .ok (.iload 4, 2) := by decide +kernel
theorem dX5_takeData_82 : decode cX5_takeData 82 = .ok (.aload_n 0, 1) := by decide +kernel
theorem dX5_takeData_83 : decode cX5_takeData 83 = .ok (.aload_n 3, 1) := by decide +kernel
theorem dX5_takeData_84 : decode cX5_takeData 84 = .ok (.iload_n 2, 1) := by decide +kernel
theorem dX5_takeData_85 : decode cX5_takeData 85 = .ok (.invokevirtual 125, 3) := by decide +kernel
theorem dX5_takeData_88 : decode cX5_takeData 88 = .ok (.iadd, 1) := by decide +kernel
theorem dX5_takeData_89 : decode cX5_takeData 89 = .ok (.istore 4, 2) := by decide +kernel
theorem dX5_takeData_91 : decode cX5_takeData 91 = .ok (.aload_n 3, 1) := by decide +kernel
theorem dX5_takeData_92 : decode cX5_takeData 92 = .ok (.iconst 0, 1) := by decide +kernel
theorem dX5_takeData_93 : decode cX5_takeData 93 = .ok (.putfield 129, 3) := by decide +kernel
theorem dX5_takeData_96 : decode cX5_takeData 96 = .ok (.iinc 6 1, 3) := by decide +kernel
theorem dX5_takeData_99 : decode cX5_takeData 99 = .ok (.goto (-55), 3) := by decide +kernel
theorem dX5_takeData_102 : decode cX5_takeData 102 = .ok (.iload 4, 2) := by decide +kernel
theorem dX5_takeData_104 : decode cX5_takeData 104 = .ok (.ireturn, 1) := by decide +kernel
theorem dX5_deliver_0 : decode cX5_deliver 0 = .ok (.aload_n 1, 1) := by decide +kernel
theorem dX5_deliver_1 : decode cX5_deliver 1 = .ok (.getfield 132, 3) := by decide +kernel
theorem dX5_deliver_4 : decode cX5_deliver 4 = .ok (.iconst 0, 1) := by decide +kernel
theorem dX5_deliver_5 : decode cX5_deliver 5 = .ok (.iaload, 1) := by decide +kernel
theorem dX5_deliver_6 : decode cX5_deliver 6 = .ok (.istore_n 3, 1) := by decide +kernel
theorem dX5_deliver_7 : decode cX5_deliver 7 = .ok (.iload_n 3, 1) := by decide +kernel
theorem dX5_deliver_8 : decode cX5_deliver 8 = .ok (.bipush 15, 2) := by decide +kernel
theorem dX5_deliver_10 : decode cX5_deliver 10 = .ok (.if_icmp .ne 15, 3) := by decide +kernel
theorem dX5_deliver_13 : decode cX5_deliver 13 = .ok (.aload_n 0, 1) := by decide +kernel
theorem dX5_deliver_14 : decode cX5_deliver 14 = .ok (.getfield 15, 3) := by decide +kernel
theorem dX5_deliver_17 : decode cX5_deliver 17 = .ok (.iconst 4, 1) := by decide +kernel
theorem dX5_deliver_18 : decode cX5_deliver 18 = .ok (.dup2, 1) := by decide +kernel
theorem dX5_deliver_19 : decode cX5_deliver 19 = .ok (.iaload, 1) := by decide +kernel
theorem dX5_deliver_20 : decode cX5_deliver 20 = .ok (.iconst 1, 1) := by decide +kernel
theorem dX5_deliver_21 : decode cX5_deliver 21 = .ok (.iadd, 1) := by decide +kernel
theorem dX5_deliver_22 : decode cX5_deliver 22 = .ok (.iastore, 1) := by decide +kernel
theorem dX5_deliver_23 : decode cX5_deliver 23 = .ok (.iconst 0, 1) := by decide +kernel
theorem dX5_deliver_24 : decode cX5_deliver 24 = .ok (.ireturn, 1) := by decide +kernel
theorem dX5_deliver_25 : decode cX5_deliver 25 = .ok (.iload_n 3, 1) := by decide +kernel
theorem dX5_deliver_26 : decode cX5_deliver 26 = .ok (.iconst 0, 1) := by decide +kernel
theorem dX5_deliver_27 : decode cX5_deliver 27 = .ok (.bipush 14, 2) := by decide +kernel
theorem dX5_deliver_29 : decode cX5_deliver 29 = .ok (.invokestatic 77, 3) := by decide +kernel
theorem dX5_deliver_32 : decode cX5_deliver 32 = .ok (.ifCond .eq 15, 3) := by decide +kernel
theorem dX5_deliver_35 : decode cX5_deliver 35 = .ok (.aload_n 0, 1) := by decide +kernel
theorem dX5_deliver_36 : decode cX5_deliver 36 = .ok (.getfield 15, 3) := by decide +kernel
theorem dX5_deliver_39 : decode cX5_deliver 39 = .ok (.iconst 3, 1) := by decide +kernel
theorem dX5_deliver_40 : decode cX5_deliver 40 = .ok (.dup2, 1) := by decide +kernel
theorem dX5_deliver_41 : decode cX5_deliver 41 = .ok (.iaload, 1) := by decide +kernel
theorem dX5_deliver_42 : decode cX5_deliver 42 = .ok (.iconst 1, 1) := by decide +kernel
theorem dX5_deliver_43 : decode cX5_deliver 43 = .ok (.iadd, 1) := by decide +kernel
theorem dX5_deliver_44 : decode cX5_deliver 44 = .ok (.iastore, 1) := by decide +kernel
theorem dX5_deliver_45 : decode cX5_deliver 45 = .ok (.iconst 0, 1) := by decide +kernel
theorem dX5_deliver_46 : decode cX5_deliver 46 = .ok (.ireturn, 1) := by decide +kernel
theorem dX5_deliver_47 : decode cX5_deliver 47 = .ok (.aload_n 1, 1) := by decide +kernel
theorem dX5_deliver_48 : decode cX5_deliver 48 = .ok (.getfield 132, 3) := by decide +kernel
theorem dX5_deliver_51 : decode cX5_deliver 51 = .ok (.iconst 1, 1) := by decide +kernel
theorem dX5_deliver_52 : decode cX5_deliver 52 = .ok (.iaload, 1) := by decide +kernel
theorem dX5_deliver_53 : decode cX5_deliver 53 = .ok (.istore 4, 2) := by decide +kernel
theorem dX5_deliver_55 : decode cX5_deliver 55 = .ok (.aload_n 0, 1) := by decide +kernel
theorem dX5_deliver_56 : decode cX5_deliver 56 = .ok (.getfield 19, 3) := by decide +kernel
theorem dX5_deliver_59 : decode cX5_deliver 59 = .ok (.iload_n 3, 1) := by decide +kernel
theorem dX5_deliver_60 : decode cX5_deliver 60 = .ok (.iaload, 1) := by decide +kernel
theorem dX5_deliver_61 : decode cX5_deliver 61 = .ok (.ifCond .le 27, 3) := by decide +kernel
theorem dX5_deliver_64 : decode cX5_deliver 64 = .ok (.aload_n 0, 1) := by decide +kernel
theorem dX5_deliver_65 : decode cX5_deliver 65 = .ok (.getfield 22, 3) := by decide +kernel
theorem dX5_deliver_68 : decode cX5_deliver 68 = .ok (.iload_n 3, 1) := by decide +kernel
theorem dX5_deliver_69 : decode cX5_deliver 69 = .ok (.dup2, 1) := by decide +kernel
theorem dX5_deliver_70 : decode cX5_deliver 70 = .ok (.iaload, 1) := by decide +kernel
theorem dX5_deliver_71 : decode cX5_deliver 71 = .ok (.iload 4, 2) := by decide +kernel
theorem dX5_deliver_73 : decode cX5_deliver 73 = .ok (.aload_n 0, 1) := by decide +kernel
theorem dX5_deliver_74 : decode cX5_deliver 74 = .ok (.getfield 28, 3) := by decide +kernel
theorem dX5_deliver_77 : decode cX5_deliver 77 = .ok (.iload_n 3, 1) := by decide +kernel
theorem dX5_deliver_78 : decode cX5_deliver 78 = .ok (.iaload, 1) := by decide +kernel
theorem dX5_deliver_79 : decode cX5_deliver 79 = .ok (.isub, 1) := by decide +kernel
theorem dX5_deliver_80 : decode cX5_deliver 80 = .ok (.iconst 1, 1) := by decide +kernel
theorem dX5_deliver_81 : decode cX5_deliver 81 = .ok (.isub, 1) := by decide +kernel
theorem dX5_deliver_82 : decode cX5_deliver 82 = .ok (.sipush 255, 3) := by decide +kernel
theorem dX5_deliver_85 : decode cX5_deliver 85 = .ok (.iand, 1) := by decide +kernel
theorem dX5_deliver_86 : decode cX5_deliver 86 = .ok (.iadd, 1) := by decide +kernel
theorem dX5_deliver_87 : decode cX5_deliver 87 = .ok (.iastore, 1) := by decide +kernel
theorem dX5_deliver_88 : decode cX5_deliver 88 = .ok (.aload_n 0, 1) := by decide +kernel
theorem dX5_deliver_89 : decode cX5_deliver 89 = .ok (.getfield 28, 3) := by decide +kernel
theorem dX5_deliver_92 : decode cX5_deliver 92 = .ok (.iload_n 3, 1) := by decide +kernel
theorem dX5_deliver_93 : decode cX5_deliver 93 = .ok (.iload 4, 2) := by decide +kernel
theorem dX5_deliver_95 : decode cX5_deliver 95 = .ok (.iastore, 1) := by decide +kernel
theorem dX5_deliver_96 : decode cX5_deliver 96 = .ok (.aload_n 0, 1) := by decide +kernel
theorem dX5_deliver_97 : decode cX5_deliver 97 = .ok (.getfield 19, 3) := by decide +kernel
theorem dX5_deliver_100 : decode cX5_deliver 100 = .ok (.iload_n 3, 1) := by decide +kernel
theorem dX5_deliver_101 : decode cX5_deliver 101 = .ok (.dup2, 1) := by decide +kernel
theorem dX5_deliver_102 : decode cX5_deliver 102 = .ok (.iaload, 1) := by decide +kernel
theorem dX5_deliver_103 : decode cX5_deliver 103 = .ok (.iconst 1, 1) := by decide +kernel
theorem dX5_deliver_104 : decode cX5_deliver 104 = .ok (.iadd, 1) := by decide +kernel
theorem dX5_deliver_105 : decode cX5_deliver 105 = .ok (.iastore, 1) := by decide +kernel
theorem dX5_deliver_106 : decode cX5_deliver 106 = .ok (.aload_n 0, 1) := by decide +kernel
theorem dX5_deliver_107 : decode cX5_deliver 107 = .ok (.getfield 25, 3) := by decide +kernel
theorem dX5_deliver_110 : decode cX5_deliver 110 = .ok (.iload_n 3, 1) := by decide +kernel
theorem dX5_deliver_111 : decode cX5_deliver 111 = .ok (.dup2, 1) := by decide +kernel
theorem dX5_deliver_112 : decode cX5_deliver 112 = .ok (.iaload, 1) := by decide +kernel
theorem dX5_deliver_113 : decode cX5_deliver 113 = .ok (.aload_n 1, 1) := by decide +kernel
theorem dX5_deliver_114 : decode cX5_deliver 114 = .ok (.getfield 132, 3) := by decide +kernel
theorem dX5_deliver_117 : decode cX5_deliver 117 = .ok (.iconst 2, 1) := by decide +kernel
theorem dX5_deliver_118 : decode cX5_deliver 118 = .ok (.iaload, 1) := by decide +kernel
theorem dX5_deliver_119 : decode cX5_deliver 119 = .ok (.iadd, 1) := by decide +kernel
theorem dX5_deliver_120 : decode cX5_deliver 120 = .ok (.iastore, 1) := by decide +kernel
theorem dX5_deliver_121 : decode cX5_deliver 121 = .ok (.aload_n 0, 1) := by decide +kernel
theorem dX5_deliver_122 : decode cX5_deliver 122 = .ok (.getfield 40, 3) := by decide +kernel
theorem dX5_deliver_125 : decode cX5_deliver 125 = .ok (.invokevirtual 135, 3) := by decide +kernel
theorem dX5_deliver_128 : decode cX5_deliver 128 = .ok (.aload_n 1, 1) := by decide +kernel
theorem dX5_deliver_129 : decode cX5_deliver 129 = .ok (.iload_n 2, 1) := by decide +kernel
theorem dX5_deliver_130 : decode cX5_deliver 130 = .ok (.invokevirtual 138, 3) := by decide +kernel
theorem dX5_deliver_133 : decode cX5_deliver 133 = .ok (.iconst 1, 1) := by decide +kernel
theorem dX5_deliver_134 : decode cX5_deliver 134 = .ok (.ireturn, 1) := by decide +kernel
theorem dX6_init_0 : decode cX6_init 0 = .ok (.aload_n 0, 1) := by decide +kernel
theorem dX6_init_1 : decode cX6_init 1 = .ok (.invokespecial 3, 3) := by decide +kernel
theorem dX6_init_4 : decode cX6_init 4 = .ok (.aload_n 0, 1) := by decide +kernel
theorem dX6_init_5 : decode cX6_init 5 = .ok (.iconst 0, 1) := by decide +kernel
theorem dX6_init_6 : decode cX6_init 6 = .ok (.putfield 9, 3) := by decide +kernel
theorem dX6_init_9 : decode cX6_init 9 = .ok (.aload_n 0, 1) := by decide +kernel
theorem dX6_init_10 : decode cX6_init 10 = .ok (.bipush 50, 2) := by decide +kernel
theorem dX6_init_12 : decode cX6_init 12 = .ok (.putfield 15, 3) := by decide +kernel
theorem dX6_init_15 : decode cX6_init 15 = .ok (.aload_n 0, 1) := by decide +kernel
theorem dX6_init_16 : decode cX6_init 16 = .ok (.iconst 0, 1) := by decide +kernel
theorem dX6_init_17 : decode cX6_init 17 = .ok (.putfield 18, 3) := by decide +kernel
theorem dX6_init_20 : decode cX6_init 20 = .ok (.aload_n 0, 1) := by decide +kernel
theorem dX6_init_21 : decode cX6_init 21 = .ok (.iconst 0, 1) := by decide +kernel
theorem dX6_init_22 : decode cX6_init 22 = .ok (.putfield 21, 3) := by decide +kernel
theorem dX6_init_25 : decode cX6_init 25 = .ok (.aload_n 0, 1) := by decide +kernel
theorem dX6_init_26 : decode cX6_init 26 = .ok (.iconst 0, 1) := by decide +kernel
theorem dX6_init_27 : decode cX6_init 27 = .ok (.putfield 24, 3) := by decide +kernel
theorem dX6_init_30 : decode cX6_init 30 = .ok (.aload_n 0, 1) := by decide +kernel
theorem dX6_init_31 : decode cX6_init 31 = .ok (.iconst 0, 1) := by decide +kernel
theorem dX6_init_32 : decode cX6_init 32 = .ok (.putfield 27, 3) := by decide +kernel
theorem dX6_init_35 : decode cX6_init 35 = .ok (.aload_n 0, 1) := by decide +kernel
theorem dX6_init_36 : decode cX6_init 36 = .ok (.iconst 0, 1) := by decide +kernel
theorem dX6_init_37 : decode cX6_init 37 = .ok (.putfield 30, 3) := by decide +kernel
theorem dX6_init_40 : decode cX6_init 40 = .ok (.aload_n 0, 1) := by decide +kernel
theorem dX6_init_41 : decode cX6_init 41 = .ok (.iconst (-1), 1) := by decide +kernel
theorem dX6_init_42 : decode cX6_init 42 = .ok (.putfield 33, 3) := by decide +kernel
theorem dX6_init_45 : decode cX6_init 45 = .ok (.aload_n 0, 1) := by decide +kernel
theorem dX6_init_46 : decode cX6_init 46 = .ok (.iconst 0, 1) := by decide +kernel
theorem dX6_init_47 : decode cX6_init 47 = .ok (.putfield 36, 3) := by decide +kernel
theorem dX6_init_50 : decode cX6_init 50 = .ok (.aload_n 0, 1) := by decide +kernel
theorem dX6_init_51 : decode cX6_init 51 = .ok (.iconst 0, 1) := by decide +kernel
theorem dX6_init_52 : decode cX6_init 52 = .ok (.putfield 39, 3) := by decide +kernel
theorem dX6_init_55 : decode cX6_init 55 = .ok (.aload_n 0, 1) := by decide +kernel
theorem dX6_init_56 : decode cX6_init 56 = .ok (.bipush 13, 2) := by decide +kernel
theorem dX6_init_58 : decode cX6_init 58 = .ok (.anewarray 42, 3) := by decide +kernel
theorem dX6_init_61 : decode cX6_init 61 = .ok (.putfield 44, 3) := by decide +kernel
theorem dX6_init_64 : decode cX6_init 64 = .ok (.iconst 0, 1) := by decide +kernel
theorem dX6_init_65 : decode cX6_init 65 = .ok (.istore_n 1, 1) := by decide +kernel
theorem dX6_init_66 : decode cX6_init 66 = .ok (.iload_n 1, 1) := by decide +kernel
theorem dX6_init_67 : decode cX6_init 67 = .ok (.bipush 13, 2) := by decide +kernel
theorem dX6_init_69 : decode cX6_init 69 = .ok (.if_icmp .ge 22, 3) := by decide +kernel
theorem dX6_init_72 : decode cX6_init 72 = .ok (.aload_n 0, 1) := by decide +kernel
theorem dX6_init_73 : decode cX6_init 73 = .ok (.getfield 44, 3) := by decide +kernel
theorem dX6_init_76 : decode cX6_init 76 = .ok (.iload_n 1, 1) := by decide +kernel
theorem dX6_init_77 : decode cX6_init 77 = .ok (.new 42, 3) := by decide +kernel
theorem dX6_init_80 : decode cX6_init 80 = .ok (.dup, 1) := by decide +kernel
theorem dX6_init_81 : decode cX6_init 81 = .ok (.invokespecial 48, 3) := by decide +kernel
theorem dX6_init_84 : decode cX6_init 84 = .ok (.aastore, 1) := by decide +kernel
theorem dX6_init_85 : decode cX6_init 85 = .ok (.iinc 1 1, 3) := by decide +kernel
theorem dX6_init_88 : decode cX6_init 88 = .ok (.goto (-22), 3) := by decide +kernel
theorem dX6_init_91 : decode cX6_init 91 = .ok (.return_, 1) := by decide +kernel
theorem dX6_copyFrom_0 : decode cX6_copyFrom 0 = .ok (.aload_n 0, 1) := by decide +kernel
theorem dX6_copyFrom_1 : decode cX6_copyFrom 1 = .ok (.aload_n 1, 1) := by decide +kernel
theorem dX6_copyFrom_2 : decode cX6_copyFrom 2 = .ok (.getfield 9, 3) := by decide +kernel
theorem dX6_copyFrom_5 : decode cX6_copyFrom 5 = .ok (.putfield 9, 3) := by decide +kernel
theorem dX6_copyFrom_8 : decode cX6_copyFrom 8 = .ok (.aload_n 0, 1) := by decide +kernel
theorem dX6_copyFrom_9 : decode cX6_copyFrom 9 = .ok (.aload_n 1, 1) := by decide +kernel
theorem dX6_copyFrom_10 : decode cX6_copyFrom 10 = .ok (.getfield 15, 3) := by decide +kernel
theorem dX6_copyFrom_13 : decode cX6_copyFrom 13 = .ok (.putfield 15, 3) := by decide +kernel
theorem dX6_copyFrom_16 : decode cX6_copyFrom 16 = .ok (.aload_n 0, 1) := by decide +kernel
theorem dX6_copyFrom_17 : decode cX6_copyFrom 17 = .ok (.aload_n 1, 1) := by decide +kernel
theorem dX6_copyFrom_18 : decode cX6_copyFrom 18 = .ok (.getfield 18, 3) := by decide +kernel
theorem dX6_copyFrom_21 : decode cX6_copyFrom 21 = .ok (.putfield 18, 3) := by decide +kernel
theorem dX6_copyFrom_24 : decode cX6_copyFrom 24 = .ok (.aload_n 0, 1) := by decide +kernel
theorem dX6_copyFrom_25 : decode cX6_copyFrom 25 = .ok (.aload_n 1, 1) := by decide +kernel
theorem dX6_copyFrom_26 : decode cX6_copyFrom 26 = .ok (.getfield 21, 3) := by decide +kernel
theorem dX6_copyFrom_29 : decode cX6_copyFrom 29 = .ok (.putfield 21, 3) := by decide +kernel
theorem dX6_copyFrom_32 : decode cX6_copyFrom 32 = .ok (.aload_n 0, 1) := by decide +kernel
theorem dX6_copyFrom_33 : decode cX6_copyFrom 33 = .ok (.aload_n 1, 1) := by decide +kernel
theorem dX6_copyFrom_34 : decode cX6_copyFrom 34 = .ok (.getfield 24, 3) := by decide +kernel
theorem dX6_copyFrom_37 : decode cX6_copyFrom 37 = .ok (.putfield 24, 3) := by decide +kernel
theorem dX6_copyFrom_40 : decode cX6_copyFrom 40 = .ok (.aload_n 0, 1) := by decide +kernel
theorem dX6_copyFrom_41 : decode cX6_copyFrom 41 = .ok (.aload_n 1, 1) := by decide +kernel
theorem dX6_copyFrom_42 : decode cX6_copyFrom 42 = .ok (.getfield 27, 3) := by decide +kernel
theorem dX6_copyFrom_45 : decode cX6_copyFrom 45 = .ok (.putfield 27, 3) := by decide +kernel
theorem dX6_copyFrom_48 : decode cX6_copyFrom 48 = .ok (.aload_n 0, 1) := by decide +kernel
theorem dX6_copyFrom_49 : decode cX6_copyFrom 49 = .ok (.aload_n 1, 1) := by decide +kernel
theorem dX6_copyFrom_50 : decode cX6_copyFrom 50 = .ok (.getfield 30, 3) := by decide +kernel
theorem dX6_copyFrom_53 : decode cX6_copyFrom 53 = .ok (.putfield 30, 3) := by decide +kernel
theorem dX6_copyFrom_56 : decode cX6_copyFrom 56 = .ok (.aload_n 0, 1) := by decide +kernel
theorem dX6_copyFrom_57 : decode cX6_copyFrom 57 = .ok (.aload_n 1, 1) := by decide +kernel
theorem dX6_copyFrom_58 : decode cX6_copyFrom 58 = .ok (.getfield 33, 3) := by decide +kernel
theorem dX6_copyFrom_61 : decode cX6_copyFrom 61 = .ok (.putfield 33, 3) := by decide +kernel
theorem dX6_copyFrom_64 : decode cX6_copyFrom 64 = .ok (.aload_n 0, 1) := by decide +kernel
theorem dX6_copyFrom_65 : decode cX6_copyFrom 65 = .ok (.aload_n 1, 1) := by decide +kernel
theorem dX6_copyFrom_66 : decode cX6_copyFrom 66 = .ok (.getfield 36, 3) := by decide +kernel
theorem dX6_copyFrom_69 : decode cX6_copyFrom 69 = .ok (.putfield 36, 3) := by decide +kernel
theorem dX6_copyFrom_72 : decode cX6_copyFrom 72 = .ok (.aload_n 0, 1) := by decide +kernel
theorem dX6_copyFrom_73 : decode cX6_copyFrom 73 = .ok (.aload_n 1, 1) := by decide +kernel
theorem dX6_copyFrom_74 : decode cX6_copyFrom 74 = .ok (.getfield 39, 3) := by decide +kernel
theorem dX6_copyFrom_77 : decode cX6_copyFrom 77 = .ok (.putfield 39, 3) := by decide +kernel
theorem dX6_copyFrom_80 : decode cX6_copyFrom 80 = .ok (.iconst 0, 1) := by decide +kernel
theorem dX6_copyFrom_81 : decode cX6_copyFrom 81 = .ok (.istore_n 2, 1) := by decide +kernel
theorem dX6_copyFrom_82 : decode cX6_copyFrom 82 = .ok (.iload_n 2, 1) := by decide +kernel
theorem dX6_copyFrom_83 : decode cX6_copyFrom 83 = .ok (.aload_n 0, 1) := by decide +kernel
theorem dX6_copyFrom_84 : decode cX6_copyFrom 84 = .ok (.getfield 36, 3) := by decide +kernel
theorem dX6_copyFrom_87 : decode cX6_copyFrom 87 = .ok (.if_icmp .ge 30, 3) := by decide +kernel
theorem dX6_copyFrom_90 : decode cX6_copyFrom 90 = .ok (.iload_n 2, 1) := by decide +kernel
theorem dX6_copyFrom_91 : decode cX6_copyFrom 91 = .ok (.bipush 13, 2) := by decide +kernel
theorem dX6_copyFrom_93 : decode cX6_copyFrom 93 = .ok (.if_icmp .ge 24, 3) := by decide +kernel
theorem dX6_copyFrom_96 : decode cX6_copyFrom 96 = .ok (.aload_n 0, 1) := by decide +kernel
theorem dX6_copyFrom_97 : decode cX6_copyFrom 97 = .ok (.getfield 44, 3) := by decide +kernel
theorem dX6_copyFrom_100 : decode cX6_copyFrom 100 = .ok (.iload_n 2, 1) := by decide +kernel
theorem dX6_copyFrom_101 : decode cX6_copyFrom 101 = .ok (.aaload, 1) := by decide +kernel
theorem dX6_copyFrom_102 : decode cX6_copyFrom 102 = .ok (.aload_n 1, 1) := by decide +kernel
theorem dX6_copyFrom_103 : decode cX6_copyFrom 103 = .ok (.getfield 44, 3) := by decide +kernel
theorem dX6_copyFrom_106 : decode cX6_copyFrom 106 = .ok (.iload_n 2, 1) := by decide +kernel
theorem dX6_copyFrom_107 : decode cX6_copyFrom 107 = .ok (.aaload, 1) := by decide +kernel
theorem dX6_copyFrom_108 : decode cX6_copyFrom 108 = .ok (.invokevirtual 49, 3) := by decide +kernel
theorem dX6_copyFrom_111 : decode cX6_copyFrom 111 = .ok (.iinc 2 1, 3) := by decide +kernel
theorem dX6_copyFrom_114 : decode cX6_copyFrom 114 = .ok (.goto (-32), 3) := by decide +kernel
theorem dX6_copyFrom_117 : decode cX6_copyFrom 117 = .ok (.return_, 1) := by decide +kernel
theorem dX6_waitingPackets_0 : decode cX6_waitingPackets 0 = .ok (.iconst 0, 1) := by decide +kernel
theorem dX6_waitingPackets_1 : decode cX6_waitingPackets 1 = .ok (.istore_n 1, 1) := by decide +kernel
theorem dX6_waitingPackets_2 : decode cX6_waitingPackets 2 = .ok (.iconst 0, 1) := by decide +kernel
theorem dX6_waitingPackets_3 : decode cX6_waitingPackets 3 = .ok (.istore_n 2, 1) := by decide +kernel
theorem dX6_waitingPackets_4 : decode cX6_waitingPackets 4 = .ok (.iload_n 2, 1) := by decide +kernel
theorem dX6_waitingPackets_5 : decode cX6_waitingPackets 5 = .ok (.aload_n 0, 1) := by decide +kernel
theorem dX6_waitingPackets_6 : decode cX6_waitingPackets 6 = .ok (.getfield 36, 3) := by decide +kernel
theorem dX6_waitingPackets_9 : decode cX6_waitingPackets 9 = .ok (.if_icmp .ge 32, 3) := by decide +kernel
theorem dX6_waitingPackets_12 : decode cX6_waitingPackets 12 = .ok (.iload_n 2, 1) := by decide +kernel
theorem dX6_waitingPackets_13 : decode cX6_waitingPackets 13 = .ok (.bipush 13, 2) := by decide +kernel
theorem dX6_waitingPackets_15 : decode cX6_waitingPackets 15 = .ok (.if_icmp .ge 26, 3) := by decide +kernel
theorem dX6_waitingPackets_18 : decode cX6_waitingPackets 18 = .ok (.aload_n 0, 1) := by decide +kernel
theorem dX6_waitingPackets_19 : decode cX6_waitingPackets 19 = .ok (.getfield 44, 3) := by decide +kernel
theorem dX6_waitingPackets_22 : decode cX6_waitingPackets 22 = .ok (.iload_n 2, 1) := by decide +kernel
theorem dX6_waitingPackets_23 : decode cX6_waitingPackets 23 = .ok (.aaload, 1) := by decide +kernel
theorem dX6_waitingPackets_24 : decode cX6_waitingPackets 24 = .ok (.getfield 53, 3) := by decide +kernel
theorem dX6_waitingPackets_27 : decode cX6_waitingPackets 27 = .ok (.bipush 15, 2) := by decide +kernel
theorem dX6_waitingPackets_29 : decode cX6_waitingPackets 29 = .ok (.if_icmp .eq 6, 3) := by decide +kernel
theorem dX6_waitingPackets_32 : decode cX6_waitingPackets 32 = .ok (.iinc 1 1, 3) := by decide +kernel
theorem dX6_waitingPackets_35 : decode cX6_waitingPackets 35 = .ok (.iinc 2 1, 3) := by decide +kernel
theorem dX6_waitingPackets_38 : decode cX6_waitingPackets 38 = .ok (.goto (-34), 3) := by decide +kernel
theorem dX6_waitingPackets_41 : decode cX6_waitingPackets 41 = .ok (.iload_n 1, 1) := by decide +kernel
theorem dX6_waitingPackets_42 : decode cX6_waitingPackets 42 = .ok (.ireturn, 1) := by decide +kernel
theorem dX6_isOverdue_0 : decode cX6_isOverdue 0 = .ok (.aload_n 0, 1) := by decide +kernel
theorem dX6_isOverdue_1 : decode cX6_isOverdue 1 = .ok (.getfield 24, 3) := by decide +kernel
theorem dX6_isOverdue_4 : decode cX6_isOverdue 4 = .ok (.ifCond .le 18, 3) := by decide +kernel
theorem dX6_isOverdue_7 : decode cX6_isOverdue 7 = .ok (.aload_n 0, 1) := by decide +kernel
theorem dX6_isOverdue_8 : decode cX6_isOverdue 8 = .ok (.getfield 21, 3) := by decide +kernel
theorem dX6_isOverdue_11 : decode cX6_isOverdue 11 = .ok (.aload_n 0, 1) := by decide +kernel
theorem dX6_isOverdue_12 : decode cX6_isOverdue 12 = .ok (.getfield 15, 3) := by decide +kernel
theorem dX6_isOverdue_15 : decode cX6_isOverdue 15 = .ok (.if_icmp .lt 7, 3) := by decide +kernel
theorem dX6_isOverdue_18 : decode cX6_isOverdue 18 = .ok (.iconst 1, 1) := by decide +kernel
theorem dX6_isOverdue_19 : decode cX6_isOverdue 19 = .ok (.goto 4, 3) := by decide +kernel
theorem dX6_isOverdue_22 : decode cX6_isOverdue 22 = .ok (.iconst 0, 1) := by decide +kernel
theorem dX6_isOverdue_23 : decode cX6_isOverdue 23 = .ok (.ireturn, 1) := by decide +kernel
theorem dX6_isReady_0 : decode cX6_isReady 0 = .ok (.aload_n 0, 1) := by decide +kernel
theorem dX6_isReady_1 : decode cX6_isReady 1 = .ok (.getfield 24, 3) := by decide +kernel
theorem dX6_isReady_4 : decode cX6_isReady 4 = .ok (.iload_n 1, 1) := by decide +kernel
theorem dX6_isReady_5 : decode cX6_isReady 5 = .ok (.if_icmp .ge 21, 3) := by decide +kernel
theorem dX6_isReady_8 : decode cX6_isReady 8 = .ok (.aload_n 0, 1) := by decide +kernel
theorem dX6_isReady_9 : decode cX6_isReady 9 = .ok (.getfield 24, 3) := by decide +kernel
theorem dX6_isReady_12 : decode cX6_isReady 12 = .ok (.ifCond .le 18, 3) := by decide +kernel
theorem dX6_isReady_15 : decode cX6_isReady 15 = .ok (.aload_n 0, 1) := by decide +kernel
theorem dX6_isReady_16 : decode cX6_isReady 16 = .ok (.getfield 21, 3) := by decide +kernel
theorem dX6_isReady_19 : decode cX6_isReady 19 = .ok (.aload_n 0, 1) := by decide +kernel
theorem dX6_isReady_20 : decode cX6_isReady 20 = .ok (.getfield 18, 3) := by decide +kernel
theorem dX6_isReady_23 : decode cX6_isReady 23 = .ok (.if_icmp .lt 7, 3) := by decide +kernel
theorem dX6_isReady_26 : decode cX6_isReady 26 = .ok (.iconst 1, 1) := by decide +kernel
theorem dX6_isReady_27 : decode cX6_isReady 27 = .ok (.goto 4, 3) := by decide +kernel
theorem dX6_isReady_30 : decode cX6_isReady 30 = .ok (.iconst 0, 1) := by decide +kernel
theorem dX6_isReady_31 : decode cX6_isReady 31 = .ok (.ireturn, 1) := by decide +kernel
theorem dX6_isMoreOverdueThan_0 : decode cX6_isMoreOverdueThan 0 = .ok (.aload_n 0, 1) := by decide +kernel
theorem dX6_isMoreOverdueThan_1 : decode cX6_isMoreOverdueThan 1 = .ok (.getfield 21, 3) := by decide +kernel
theorem dX6_isMoreOverdueThan_4 : decode cX6_isMoreOverdueThan 4 = .ok (.aload_n 0, 1) := by decide +kernel
theorem dX6_isMoreOverdueThan_5 : decode cX6_isMoreOverdueThan 5 = .ok (.getfield 15, 3) := by decide +kernel
theorem dX6_isMoreOverdueThan_8 : decode cX6_isMoreOverdueThan 8 = .ok (.isub, 1) := by decide +kernel
theorem dX6_isMoreOverdueThan_9 : decode cX6_isMoreOverdueThan 9 = .ok (.istore_n 2, 1) := by decide +kernel
theorem dX6_isMoreOverdueThan_10 : decode cX6_isMoreOverdueThan 10 = .ok (.aload_n 1, 1) := by decide +kernel
theorem dX6_isMoreOverdueThan_11 : decode cX6_isMoreOverdueThan 11 = .ok (.getfield 21, 3) := by decide +kernel
theorem dX6_isMoreOverdueThan_14 : decode cX6_isMoreOverdueThan 14 = .ok (.aload_n 1, 1) := by decide +kernel
theorem dX6_isMoreOverdueThan_15 : decode cX6_isMoreOverdueThan 15 = .ok (.getfield 15, 3) := by decide +kernel
theorem dX6_isMoreOverdueThan_18 : decode cX6_isMoreOverdueThan 18 = .ok (.isub, 1) := by decide +kernel
theorem dX6_isMoreOverdueThan_19 : decode cX6_isMoreOverdueThan 19 = .ok (.istore_n 3, 1) := by decide +kernel
theorem dX6_isMoreOverdueThan_20 : decode cX6_isMoreOverdueThan 20 = .ok (.iload_n 2, 1) := by decide +kernel
theorem dX6_isMoreOverdueThan_21 : decode cX6_isMoreOverdueThan 21 = .ok (.iload_n 3, 1) := by decide +kernel
theorem dX6_isMoreOverdueThan_22 : decode cX6_isMoreOverdueThan 22 = .ok (.if_icmp .gt 16, 3) := by decide +kernel
theorem dX6_isMoreOverdueThan_25 : decode cX6_isMoreOverdueThan 25 = .ok (.iload_n 2, 1) := by decide +kernel
theorem dX6_isMoreOverdueThan_26 : decode cX6_isMoreOverdueThan 26 = .ok (.iload_n 3, 1) := by decide +kernel
theorem dX6_isMoreOverdueThan_27 : decode cX6_isMoreOverdueThan 27 = .ok (.if_icmp .ne 15, 3) := by decide +kernel
theorem dX6_isMoreOverdueThan_30 : decode cX6_isMoreOverdueThan 30 = .ok (.aload_n 0, 1) := by decide +kernel
theorem dX6_isMoreOverdueThan_31 : decode cX6_isMoreOverdueThan 31 = .ok (.aload_n 1, 1) := by decide +kernel
theorem dX6_isMoreOverdueThan_32 : decode cX6_isMoreOverdueThan 32 = .ok (.invokevirtual 56, 3) := by decide +kernel
theorem dX6_isMoreOverdueThan_35 : decode cX6_isMoreOverdueThan 35 = .ok (.ifCond .eq 7, 3) := by decide +kernel
theorem dX6_isMoreOverdueThan_38 : decode cX6_isMoreOverdueThan 38 = .ok (.iconst 1, 1) := by decide +kernel
theorem dX6_isMoreOverdueThan_39 : decode cX6_isMoreOverdueThan 39 = .ok (.goto 4, 3) := by decide +kernel
theorem dX6_isMoreOverdueThan_42 : decode cX6_isMoreOverdueThan 42 = .ok (.iconst 0, 1) := by decide +kernel
theorem dX6_isMoreOverdueThan_43 : decode cX6_isMoreOverdueThan 43 = .ok (.ireturn, 1) := by decide +kernel
theorem dX6_precedes_0 : decode cX6_precedes 0 = .ok (.aload_n 0, 1) := by decide +kernel
theorem dX6_precedes_1 : decode cX6_precedes 1 = .ok (.getfield 9, 3) := by decide +kernel
theorem dX6_precedes_4 : decode cX6_precedes 4 = .ok (.aload_n 1, 1) := by decide +kernel
theorem dX6_precedes_5 : decode cX6_precedes 5 = .ok (.getfield 9, 3) := by decide +kernel
theorem dX6_precedes_8 : decode cX6_precedes 8 = .ok (.if_icmp .gt 25, 3) := by decide +kernel
theorem dX6_precedes_11 : decode cX6_precedes 11 = .ok (.aload_n 0, 1) := by decide +kernel
theorem dX6_precedes_12 : decode cX6_precedes 12 = .ok (.getfield 9, 3) := by decide +kernel
theorem dX6_precedes_15 : decode cX6_precedes 15 = .ok (.aload_n 1, 1) := by decide +kernel
theorem dX6_precedes_16 : decode cX6_precedes 16 = .ok (.getfield 9, 3) := by decide +kernel
theorem dX6_precedes_19 : decode cX6_precedes 19 = .ok (.if_icmp .ne 18, 3) := by decide +kernel
theorem dX6_precedes_22 : decode cX6_precedes 22 = .ok (.aload_n 0, 1) := by decide +kernel
theorem dX6_precedes_23 : decode cX6_precedes 23 = .ok (.getfield 21, 3) := by decide +kernel
theorem dX6_precedes_26 : decode cX6_precedes 26 = .ok (.aload_n 1, 1) := by decide +kernel
theorem dX6_precedes_27 : decode cX6_precedes 27 = .ok (.getfield 21, 3) := by decide +kernel
theorem dX6_precedes_30 : decode cX6_precedes 30 = .ok (.if_icmp .le 7, 3) := by decide +kernel
theorem dX6_precedes_33 : decode cX6_precedes 33 = .ok (.iconst 1, 1) := by decide +kernel
theorem dX6_precedes_34 : decode cX6_precedes 34 = .ok (.goto 4, 3) := by decide +kernel
theorem dX6_precedes_37 : decode cX6_precedes 37 = .ok (.iconst 0, 1) := by decide +kernel
theorem dX6_precedes_38 : decode cX6_precedes 38 = .ok (.ireturn, 1) := by decide +kernel
theorem dX6_passSlot_0 : decode cX6_passSlot 0 = .ok (.aload_n 0, 1) := by decide +kernel
theorem dX6_passSlot_1 : decode cX6_passSlot 1 = .ok (.iload_n 1, 1) := by decide +kernel
theorem dX6_passSlot_2 : decode cX6_passSlot 2 = .ok (.ifCond .ne 10, 3) := by decide +kernel
theorem dX6_passSlot_5 : decode cX6_passSlot 5 = .ok (.aload_n 0, 1) := by decide +kernel
theorem dX6_passSlot_6 : decode cX6_passSlot 6 = .ok (.getfield 24, 3) := by decide +kernel
theorem dX6_passSlot_9 : decode cX6_passSlot 9 = .ok (.ifCond .ne 7, 3) := by decide +kernel
theorem dX6_passSlot_12 : decode cX6_passSlot 12 = .ok (.iconst 0, 1) := by decide +kernel
theorem dX6_passSlot_13 : decode cX6_passSlot 13 = .ok (.goto 9, 3) := by decide +kernel
theorem dX6_passSlot_16 : decode cX6_passSlot 16 = .ok (.aload_n 0, 1) := by decide +kernel
theorem dX6_passSlot_17 : decode cX6_passSlot 17 = .ok (.getfield 21, 3) := by decide +kernel
theorem dX6_passSlot_20 : decode cX6_passSlot 20 = .ok (.iconst 1, 1) := by decide +kernel
theorem dX6_passSlot_21 : decode cX6_passSlot 21 = .ok (.iadd, 1) := by decide +kernel
theorem dX6_passSlot_22 : decode cX6_passSlot 22 = .ok (.putfield 21, 3) := by decide +kernel
theorem dX6_passSlot_25 : decode cX6_passSlot 25 = .ok (.return_, 1) := by decide +kernel
theorem dX6_append_0 : decode cX6_append 0 = .ok (.aload_n 0, 1) := by decide +kernel
theorem dX6_append_1 : decode cX6_append 1 = .ok (.getfield 36, 3) := by decide +kernel
theorem dX6_append_4 : decode cX6_append 4 = .ok (.bipush 12, 2) := by decide +kernel
theorem dX6_append_6 : decode cX6_append 6 = .ok (.invokestatic 60, 3) := by decide +kernel
theorem dX6_append_9 : decode cX6_append 9 = .ok (.istore 6, 2) := by decide +kernel
theorem dX6_append_11 : decode cX6_append 11 = .ok (.aload_n 0, 1) := by decide +kernel
theorem dX6_append_12 : decode cX6_append 12 = .ok (.getfield 44, 3) := by decide +kernel
theorem dX6_append_15 : decode cX6_append 15 = .ok (.iload 6, 2) := by decide +kernel
theorem dX6_append_17 : decode cX6_append 17 = .ok (.aaload, 1) := by decide +kernel
theorem dX6_append_18 : decode cX6_append 18 = .ok (.astore 7, 2) := by decide +kernel
theorem dX6_append_20 : decode cX6_append 20 = .ok (.aload 7, 2) := by decide +kernel
theorem dX6_append_22 : decode cX6_append 22 = .ok (.iload_n 1, 1) := by decide +kernel
theorem dX6_append_23 : decode cX6_append 23 = .ok (.putfield 53, 3) := by decide +kernel
theorem dX6_append_26 : decode cX6_append 26 = .ok (.aload 7, 2) := by decide +kernel
theorem dX6_append_28 : decode cX6_append 28 = .ok (.iload_n 2, 1) := by decide +kernel
theorem dX6_append_29 : decode cX6_append 29 = .ok (.putfield 66, 3) := by decide +kernel
theorem dX6_append_32 : decode cX6_append 32 = .ok (.aload 7, 2) := by decide +kernel
theorem dX6_append_34 : decode cX6_append 34 = .ok (.iload_n 3, 1) := by decide +kernel
theorem dX6_append_35 : decode cX6_append 35 = .ok (.putfield 69, 3) := by decide +kernel
theorem dX6_append_38 : decode cX6_append 38 = .ok (.aload 7, 2) := by decide +kernel
theorem dX6_append_40 : decode cX6_append 40 = .ok (.iload 4, 2) := by decide +kernel
theorem dX6_append_42 : decode cX6_append 42 = .ok (.putfield 72, 3) := by decide +kernel
theorem dX6_append_45 : decode cX6_append 45 = .ok (.aload 7, 2) := by decide +kernel
theorem dX6_append_47 : decode cX6_append 47 = .ok (.iload 5, 2) := by decide +kernel
theorem dX6_append_49 : decode cX6_append 49 = .ok (.putfield 75, 3) := by decide +kernel
theorem dX6_append_52 : decode cX6_append 52 = .ok (.aload_n 0, 1) := by decide +kernel
theorem dX6_append_53 : decode cX6_append 53 = .ok (.iload 6, 2) := by decide +kernel
theorem dX6_append_55 : decode cX6_append 55 = .ok (.iconst 1, 1) := by decide +kernel
theorem dX6_append_56 : decode cX6_append 56 = .ok (.iadd, 1) := by decide +kernel
theorem dX6_append_57 : decode cX6_append 57 = .ok (.putfield 36, 3) := by decide +kernel
theorem dX6_append_60 : decode cX6_append 60 = .ok (.aload_n 0, 1) := by decide +kernel
theorem dX6_append_61 : decode cX6_append 61 = .ok (.dup, 1) := by decide +kernel
theorem dX6_append_62 : decode cX6_append 62 = .ok (.getfield 24, 3) := by decide +kernel
theorem dX6_append_65 : decode cX6_append 65 = .ok (.aload 7, 2) := by decide +kernel
theorem dX6_append_67 : decode cX6_append 67 = .ok (.invokevirtual 78, 3) := by decide +kernel
theorem dX6_append_70 : decode cX6_append 70 = .ok (.iadd, 1) := by decide +kernel
theorem dX6_append_71 : decode cX6_append 71 = .ok (.putfield 24, 3) := by decide +kernel
theorem dX6_append_74 : decode cX6_append 74 = .ok (.return_, 1) := by decide +kernel
theorem dX6_fill_0 : decode cX6_fill 0 = .ok (.aload_n 1, 1) := by decide +kernel
theorem dX6_fill_1 : decode cX6_fill 1 = .ok (.getfield 81, 3) := by decide +kernel
theorem dX6_fill_4 : decode cX6_fill 4 = .ok (.istore_n 3, 1) := by decide +kernel
theorem dX6_fill_5 : decode cX6_fill 5 = .ok (.aload_n 0, 1) := by decide +kernel
theorem dX6_fill_6 : decode cX6_fill 6 = .ok (.getfield 24, 3) := by decide +kernel
theorem dX6_fill_9 : decode cX6_fill 9 = .ok (.iload_n 3, 1) := by decide +kernel
theorem dX6_fill_10 : decode cX6_fill 10 = .ok (.if_icmp .ge 28, 3) := by decide +kernel
theorem dX6_fill_13 : decode cX6_fill 13 = .ok (.iconst 4, 1) := by decide +kernel
theorem dX6_fill_14 : decode cX6_fill 14 = .ok (.iload_n 3, 1) := by decide +kernel
theorem dX6_fill_15 : decode cX6_fill 15 = .ok (.aload_n 0, 1) := by decide +kernel
theorem dX6_fill_16 : decode cX6_fill 16 = .ok (.getfield 24, 3) := by decide +kernel
theorem dX6_fill_19 : decode cX6_fill 19 = .ok (.isub, 1) := by decide +kernel
theorem dX6_fill_20 : decode cX6_fill 20 = .ok (.invokestatic 84, 3) := by decide +kernel
theorem dX6_fill_23 : decode cX6_fill 23 = .ok (.istore 4, 2) := by decide +kernel
theorem dX6_fill_25 : decode cX6_fill 25 = .ok (.aload_n 0, 1) := by decide +kernel
theorem dX6_fill_26 : decode cX6_fill 26 = .ok (.bipush 15, 2) := by decide +kernel
theorem dX6_fill_28 : decode cX6_fill 28 = .ok (.iconst 0, 1) := by decide +kernel
theorem dX6_fill_29 : decode cX6_fill 29 = .ok (.iload 4, 2) := by decide +kernel
theorem dX6_fill_31 : decode cX6_fill 31 = .ok (.iconst 3, 1) := by decide +kernel
theorem dX6_fill_32 : decode cX6_fill 32 = .ok (.isub, 1) := by decide +kernel
theorem dX6_fill_33 : decode cX6_fill 33 = .ok (.iconst 0, 1) := by decide +kernel
theorem dX6_fill_34 : decode cX6_fill 34 = .ok (.iload_n 2, 1) := by decide +kernel
theorem dX6_fill_35 : decode cX6_fill 35 = .ok (.invokevirtual 87, 3) := by decide +kernel
theorem dX6_fill_38 : decode cX6_fill 38 = .ok (.sipush 255, 3) := by decide +kernel
theorem dX6_fill_41 : decode cX6_fill 41 = .ok (.istore 4, 2) := by decide +kernel
theorem dX6_fill_43 : decode cX6_fill 43 = .ok (.iconst 0, 1) := by decide +kernel
theorem dX6_fill_44 : decode cX6_fill 44 = .ok (.istore 5, 2) := by decide +kernel
theorem dX6_fill_46 : decode cX6_fill 46 = .ok (.iload 5, 2) := by decide +kernel
theorem dX6_fill_48 : decode cX6_fill 48 = .ok (.iload_n 3, 1) := by decide +kernel
theorem dX6_fill_49 : decode cX6_fill 49 = .ok (.if_icmp .ge 49, 3) := by decide +kernel
theorem dX6_fill_52 : decode cX6_fill 52 = .ok (.iload 5, 2) := by decide +kernel
theorem dX6_fill_54 : decode cX6_fill 54 = .ok (.bipush 40, 2) := by decide +kernel
theorem dX6_fill_56 : decode cX6_fill 56 = .ok (.if_icmp .ge 42, 3) := by decide +kernel
theorem dX6_fill_59 : decode cX6_fill 59 = .ok (.aload_n 0, 1) := by decide +kernel
theorem dX6_fill_60 : decode cX6_fill 60 = .ok (.getfield 39, 3) := by decide +kernel
theorem dX6_fill_63 : decode cX6_fill 63 = .ok (.ifCond .ne 15, 3) := by decide +kernel
theorem dX6_fill_66 : decode cX6_fill 66 = .ok (.iload 4, 2) := by decide +kernel
theorem dX6_fill_68 : decode cX6_fill 68 = .ok (.sipush 255, 3) := by decide +kernel
theorem dX6_fill_71 : decode cX6_fill 71 = .ok (.if_icmp .ne 7, 3) := by decide +kernel
theorem dX6_fill_74 : decode cX6_fill 74 = .ok (.iload 5, 2) := by decide +kernel
theorem dX6_fill_76 : decode cX6_fill 76 = .ok (.istore 4, 2) := by decide +kernel
theorem dX6_fill_78 : decode cX6_fill 78 = .ok (.aload_n 1, 1) := by decide +kernel
theorem dX6_fill_79 : decode cX6_fill 79 = .ok (.getfield 91, 3) := by decide +kernel
theorem dX6_fill_82 : decode cX6_fill 82 = .ok (.iconst 4, 1) := by decide +kernel
theorem dX6_fill_83 : decode cX6_fill 83 = .ok (.iload 5, 2) := by decide +kernel
theorem dX6_fill_85 : decode cX6_fill 85 = .ok (.iadd, 1) := by decide +kernel
theorem dX6_fill_86 : decode cX6_fill 86 = .ok (.aload_n 0, 1) := by decide +kernel
theorem dX6_fill_87 : decode cX6_fill 87 = .ok (.iload_n 2, 1) := by decide +kernel
theorem dX6_fill_88 : decode cX6_fill 88 = .ok (.invokevirtual 95, 3) := by decide +kernel
theorem dX6_fill_91 : decode cX6_fill 91 = .ok (.iastore, 1) := by decide +kernel
theorem dX6_fill_92 : decode cX6_fill 92 = .ok (.iinc 5 1, 3) := by decide +kernel
theorem dX6_fill_95 : decode cX6_fill 95 = .ok (.goto (-49), 3) := by decide +kernel
theorem dX6_fill_98 : decode cX6_fill 98 = .ok (.aload_n 1, 1) := by decide +kernel
theorem dX6_fill_99 : decode cX6_fill 99 = .ok (.getfield 91, 3) := by decide +kernel
theorem dX6_fill_102 : decode cX6_fill 102 = .ok (.iconst 2, 1) := by decide +kernel
theorem dX6_fill_103 : decode cX6_fill 103 = .ok (.aload_n 0, 1) := by decide +kernel
theorem dX6_fill_104 : decode cX6_fill 104 = .ok (.getfield 27, 3) := by decide +kernel
theorem dX6_fill_107 : decode cX6_fill 107 = .ok (.sipush 255, 3) := by decide +kernel
theorem dX6_fill_110 : decode cX6_fill 110 = .ok (.iand, 1) := by decide +kernel
theorem dX6_fill_111 : decode cX6_fill 111 = .ok (.iastore, 1) := by decide +kernel
theorem dX6_fill_112 : decode cX6_fill 112 = .ok (.aload_n 1, 1) := by decide +kernel
theorem dX6_fill_113 : decode cX6_fill 113 = .ok (.getfield 91, 3) := by decide +kernel
theorem dX6_fill_116 : decode cX6_fill 116 = .ok (.iconst 3, 1) := by decide +kernel
theorem dX6_fill_117 : decode cX6_fill 117 = .ok (.iload 4, 2) := by decide +kernel
theorem dX6_fill_119 : decode cX6_fill 119 = .ok (.iastore, 1) := by decide +kernel
theorem dX6_fill_120 : decode cX6_fill 120 = .ok (.aload_n 0, 1) := by decide +kernel
theorem dX6_fill_121 : decode cX6_fill 121 = .ok (.dup, 1) := by decide +kernel
theorem dX6_fill_122 : decode cX6_fill 122 = .ok (.getfield 27, 3) := by decide +kernel
theorem dX6_fill_125 : decode cX6_fill 125 = .ok (.iconst 1, 1) := by decide +kernel
theorem dX6_fill_126 : decode cX6_fill 126 = .ok (.iadd, 1) := by decide +kernel
theorem dX6_fill_127 : decode cX6_fill 127 = .ok (.putfield 27, 3) := by decide +kernel
theorem dX6_fill_130 : decode cX6_fill 130 = .ok (.return_, 1) := by decide +kernel
theorem dX6_takeByte_0 : decode cX6_takeByte 0 = .ok (.aload_n 0, 1) := by decide +kernel
theorem dX6_takeByte_1 : decode cX6_takeByte 1 = .ok (.getfield 44, 3) := by decide +kernel
theorem dX6_takeByte_4 : decode cX6_takeByte 4 = .ok (.iconst 0, 1) := by decide +kernel
theorem dX6_takeByte_5 : decode cX6_takeByte 5 = .ok (.aaload, 1) := by decide +kernel
theorem dX6_takeByte_6 : decode cX6_takeByte 6 = .ok (.astore_n 2, 1) := by decide +kernel
theorem dX6_takeByte_7 : decode cX6_takeByte 7 = .ok (.aload_n 2, 1) := by decide +kernel
theorem dX6_takeByte_8 : decode cX6_takeByte 8 = .ok (.aload_n 0, 1) := by decide +kernel
theorem dX6_takeByte_9 : decode cX6_takeByte 9 = .ok (.getfield 39, 3) := by decide +kernel
theorem dX6_takeByte_12 : decode cX6_takeByte 12 = .ok (.invokevirtual 99, 3) := by decide +kernel
theorem dX6_takeByte_15 : decode cX6_takeByte 15 = .ok (.istore_n 3, 1) := by decide +kernel
theorem dX6_takeByte_16 : decode cX6_takeByte 16 = .ok (.aload_n 0, 1) := by decide +kernel
theorem dX6_takeByte_17 : decode cX6_takeByte 17 = .ok (.dup, 1) := by decide +kernel
theorem dX6_takeByte_18 : decode cX6_takeByte 18 = .ok (.getfield 39, 3) := by decide +kernel
theorem dX6_takeByte_21 : decode cX6_takeByte 21 = .ok (.iconst 1, 1) := by decide +kernel
theorem dX6_takeByte_22 : decode cX6_takeByte 22 = .ok (.iadd, 1) := by decide +kernel
theorem dX6_takeByte_23 : decode cX6_takeByte 23 = .ok (.putfield 39, 3) := by decide +kernel
theorem dX6_takeByte_26 : decode cX6_takeByte 26 = .ok (.aload_n 0, 1) := by decide +kernel
theorem dX6_takeByte_27 : decode cX6_takeByte 27 = .ok (.dup, 1) := by decide +kernel
theorem dX6_takeByte_28 : decode cX6_takeByte 28 = .ok (.getfield 24, 3) := by decide +kernel
theorem dX6_takeByte_31 : decode cX6_takeByte 31 = .ok (.iconst 1, 1) := by decide +kernel
theorem dX6_takeByte_32 : decode cX6_takeByte 32 = .ok (.isub, 1) := by decide +kernel
theorem dX6_takeByte_33 : decode cX6_takeByte 33 = .ok (.putfield 24, 3) := by decide +kernel
theorem dX6_takeByte_36 : decode cX6_takeByte 36 = .ok (.aload_n 2, 1) := by decide +kernel
theorem dX6_takeByte_37 : decode cX6_takeByte 37 = .ok (.getfield 53, 3) := by decide +kernel
theorem dX6_takeByte_40 : decode cX6_takeByte 40 = .ok (.bipush 15, 2) := by decide +kernel
theorem dX6_takeByte_42 : decode cX6_takeByte 42 = .ok (.if_icmp .ne 13, 3) := by decide +kernel
theorem dX6_takeByte_45 : decode cX6_takeByte 45 = .ok (.aload_n 0, 1) := by decide +kernel
theorem dX6_takeByte_46 : decode cX6_takeByte 46 = .ok (.dup, 1) := by decide +kernel
theorem dX6_takeByte_47 : decode cX6_takeByte 47 = .ok (.getfield 30, 3) := by decide +kernel
theorem dX6_takeByte_50 : decode cX6_takeByte 50 = .ok (.iconst 1, 1) := by decide +kernel
theorem dX6_takeByte_51 : decode cX6_takeByte 51 = .ok (.iadd, 1) := by decide +kernel
theorem dX6_takeByte_52 : decode cX6_takeByte 52 = .ok (.putfield 30, 3) := by decide +kernel
theorem dX6_takeByte_55 : decode cX6_takeByte 55 = .ok (.aload_n 0, 1) := by decide +kernel
theorem dX6_takeByte_56 : decode cX6_takeByte 56 = .ok (.getfield 39, 3) := by decide +kernel
theorem dX6_takeByte_59 : decode cX6_takeByte 59 = .ok (.aload_n 2, 1) := by decide +kernel
theorem dX6_takeByte_60 : decode cX6_takeByte 60 = .ok (.invokevirtual 78, 3) := by decide +kernel
theorem dX6_takeByte_63 : decode cX6_takeByte 63 = .ok (.if_icmp .lt 33, 3) := by decide +kernel
theorem dX6_takeByte_66 : decode cX6_takeByte 66 = .ok (.aload_n 2, 1) := by decide +kernel
theorem dX6_takeByte_67 : decode cX6_takeByte 67 = .ok (.getfield 53, 3) := by decide +kernel
theorem dX6_takeByte_70 : decode cX6_takeByte 70 = .ok (.bipush 15, 2) := by decide +kernel
theorem dX6_takeByte_72 : decode cX6_takeByte 72 = .ok (.if_icmp .eq 20, 3) := by decide +kernel
theorem dX6_takeByte_75 : decode cX6_takeByte 75 = .ok (.aload_n 0, 1) := by decide +kernel
theorem dX6_takeByte_76 : decode cX6_takeByte 76 = .ok (.aload_n 0, 1) := by decide +kernel
theorem dX6_takeByte_77 : decode cX6_takeByte 77 = .ok (.getfield 33, 3) := by decide +kernel
theorem dX6_takeByte_80 : decode cX6_takeByte 80 = .ok (.iload_n 1, 1) := by decide +kernel
theorem dX6_takeByte_81 : decode cX6_takeByte 81 = .ok (.aload_n 2, 1) := by decide +kernel
theorem dX6_takeByte_82 : decode cX6_takeByte 82 = .ok (.getfield 75, 3) := by decide +kernel
theorem dX6_takeByte_85 : decode cX6_takeByte 85 = .ok (.isub, 1) := by decide +kernel
theorem dX6_takeByte_86 : decode cX6_takeByte 86 = .ok (.invokestatic 84, 3) := by decide +kernel
theorem dX6_takeByte_89 : decode cX6_takeByte 89 = .ok (.putfield 33, 3) := by decide +kernel
theorem dX6_takeByte_92 : decode cX6_takeByte 92 = .ok (.aload_n 0, 1) := by decide +kernel
theorem dX6_takeByte_93 : decode cX6_takeByte 93 = .ok (.invokevirtual 102, 3) := by decide +kernel
theorem dX6_takeByte_96 : decode cX6_takeByte 96 = .ok (.iload_n 3, 1) := by decide +kernel
theorem dX6_takeByte_97 : decode cX6_takeByte 97 = .ok (.ireturn, 1) := by decide +kernel
theorem dX6_removeHead_0 : decode cX6_removeHead 0 = .ok (.aload_n 0, 1) := by decide +kernel
theorem dX6_removeHead_1 : decode cX6_removeHead 1 = .ok (.getfield 44, 3) := by decide +kernel
theorem dX6_removeHead_4 : decode cX6_removeHead 4 = .ok (.iconst 0, 1) := by decide +kernel
theorem dX6_removeHead_5 : decode cX6_removeHead 5 = .ok (.aaload, 1) := by decide +kernel
theorem dX6_removeHead_6 : decode cX6_removeHead 6 = .ok (.astore_n 1, 1) := by decide +kernel
theorem dX6_removeHead_7 : decode cX6_removeHead 7 = .ok (.iconst 1, 1) := by decide +kernel
theorem dX6_removeHead_8 : decode cX6_removeHead 8 = .ok (.istore_n 2, 1) := by decide +kernel
theorem dX6_removeHead_9 : decode cX6_removeHead 9 = .ok (.iload_n 2, 1) := by decide +kernel
theorem dX6_removeHead_10 : decode cX6_removeHead 10 = .ok (.aload_n 0, 1) := by decide +kernel
theorem dX6_removeHead_11 : decode cX6_removeHead 11 = .ok (.getfield 36, 3) := by decide +kernel
theorem dX6_removeHead_14 : decode cX6_removeHead 14 = .ok (.if_icmp .ge 29, 3) := by decide +kernel
theorem dX6_removeHead_17 : decode cX6_removeHead 17 = .ok (.iload_n 2, 1) := by decide +kernel
theorem dX6_removeHead_18 : decode cX6_removeHead 18 = .ok (.bipush 13, 2) := by decide +kernel
theorem dX6_removeHead_20 : decode cX6_removeHead 20 = .ok (.if_icmp .ge 23, 3) := by decide +kernel
theorem dX6_removeHead_23 : decode cX6_removeHead 23 = .ok (.aload_n 0, 1) := by decide +kernel
theorem dX6_removeHead_24 : decode cX6_removeHead 24 = .ok (.getfield 44, 3) := by decide +kernel
theorem dX6_removeHead_27 : decode cX6_removeHead 27 = .ok (.iload_n 2, 1) := by decide +kernel
theorem dX6_removeHead_28 : decode cX6_removeHead 28 = .ok (.iconst 1, 1) := by decide +kernel
theorem dX6_removeHead_29 : decode cX6_removeHead 29 = .ok (.isub, 1) := by decide +kernel
theorem dX6_removeHead_30 : decode cX6_removeHead 30 = .ok (.aload_n 0, 1) := by decide +kernel
theorem dX6_removeHead_31 : decode cX6_removeHead 31 = .ok (.getfield 44, 3) := by decide +kernel
theorem dX6_removeHead_34 : decode cX6_removeHead 34 = .ok (.iload_n 2, 1) := by decide +kernel
theorem dX6_removeHead_35 : decode cX6_removeHead 35 = .ok (.aaload, 1) := by decide +kernel
theorem dX6_removeHead_36 : decode cX6_removeHead 36 = .ok (.aastore, 1) := by decide +kernel
theorem dX6_removeHead_37 : decode cX6_removeHead 37 = .ok (.iinc 2 1, 3) := by decide +kernel
theorem dX6_removeHead_40 : decode cX6_removeHead 40 = .ok (.goto (-31), 3) := by decide +kernel
theorem dX6_removeHead_43 : decode cX6_removeHead 43 = .ok (.aload_n 0, 1) := by decide +kernel
theorem dX6_removeHead_44 : decode cX6_removeHead 44 = .ok (.getfield 36, 3) := by decide +kernel
theorem dX6_removeHead_47 : decode cX6_removeHead 47 = .ok (.iconst 1, 1) := by decide +kernel
theorem dX6_removeHead_48 : decode cX6_removeHead 48 = .ok (.isub, 1) := by decide +kernel
theorem dX6_removeHead_49 : decode cX6_removeHead 49 = .ok (.istore_n 2, 1) := by decide +kernel
theorem dX6_removeHead_50 : decode cX6_removeHead 50 = .ok (.iload_n 2, 1) := by decide +kernel
theorem dX6_removeHead_51 : decode cX6_removeHead 51 = .ok (.ifCond .lt 21, 3) := by decide +kernel
theorem dX6_removeHead_54 : decode cX6_removeHead 54 = .ok (.iload_n 2, 1) := by decide +kernel
theorem dX6_removeHead_55 : decode cX6_removeHead 55 = .ok (.bipush 13, 2) := by decide +kernel
theorem dX6_removeHead_57 : decode cX6_removeHead 57 = .ok (.if_icmp .ge 15, 3) := by decide +kernel
theorem dX6_removeHead_60 : decode cX6_removeHead 60 = .ok (.aload_n 0, 1) := by decide +kernel
theorem dX6_removeHead_61 : decode cX6_removeHead 61 = .ok (.getfield 44, 3) := by decide +kernel
theorem dX6_removeHead_64 : decode cX6_removeHead 64 = .ok (.iload_n 2, 1) := by decide +kernel
theorem dX6_removeHead_65 : decode cX6_removeHead 65 = .ok (.aload_n 1, 1) := by decide +kernel
theorem dX6_removeHead_66 : decode cX6_removeHead 66 = .ok (.aastore, 1) := by decide +kernel
theorem dX6_removeHead_67 : decode cX6_removeHead 67 = .ok (.aload_n 0, 1) := by decide +kernel
theorem dX6_removeHead_68 : decode cX6_removeHead 68 = .ok (.iload_n 2, 1) := by decide +kernel
theorem dX6_removeHead_69 : decode cX6_removeHead 69 = .ok (.putfield 36, 3) := by decide +kernel
theorem dX6_removeHead_72 : decode cX6_removeHead 72 = .ok (.aload_n 0, 1) := by decide +kernel
theorem dX6_removeHead_73 : decode cX6_removeHead 73 = .ok (.iconst 0, 1) := by decide +kernel
theorem dX6_removeHead_74 : decode cX6_removeHead 74 = .ok (.putfield 39, 3) := by decide +kernel
theorem dX6_removeHead_77 : decode cX6_removeHead 77 = .ok (.return_, 1) := by decide +kernel
theorem dX7_init_0 : decode cX7_init 0 = .ok (.aload_n 0, 1) := by decide +kernel
theorem dX7_init_1 : decode cX7_init 1 = .ok (.invokespecial 3, 3) := by decide +kernel
theorem dX7_init_4 : decode cX7_init 4 = .ok (.aload_n 0, 1) := by decide +kernel
theorem dX7_init_5 : decode cX7_init 5 = .ok (.bipush 16, 2) := by decide +kernel
theorem dX7_init_7 : decode cX7_init 7 = .ok (.putfield 9, 3) := by decide +kernel
theorem dX7_init_10 : decode cX7_init 10 = .ok (.aload_n 0, 1) := by decide +kernel
theorem dX7_init_11 : decode cX7_init 11 = .ok (.iconst 0, 1) := by decide +kernel
theorem dX7_init_12 : decode cX7_init 12 = .ok (.putfield 15, 3) := by decide +kernel
theorem dX7_init_15 : decode cX7_init 15 = .ok (.aload_n 0, 1) := by decide +kernel
theorem dX7_init_16 : decode cX7_init 16 = .ok (.sipush 250, 3) := by decide +kernel
theorem dX7_init_19 : decode cX7_init 19 = .ok (.putfield 18, 3) := by decide +kernel
theorem dX7_init_22 : decode cX7_init 22 = .ok (.aload_n 0, 1) := by decide +kernel
theorem dX7_init_23 : decode cX7_init 23 = .ok (.iconst 0, 1) := by decide +kernel
theorem dX7_init_24 : decode cX7_init 24 = .ok (.putfield 21, 3) := by decide +kernel
theorem dX7_init_27 : decode cX7_init 27 = .ok (.aload_n 0, 1) := by decide +kernel
theorem dX7_init_28 : decode cX7_init 28 = .ok (.iconst 0, 1) := by decide +kernel
theorem dX7_init_29 : decode cX7_init 29 = .ok (.putfield 24, 3) := by decide +kernel
theorem dX7_init_32 : decode cX7_init 32 = .ok (.aload_n 0, 1) := by decide +kernel
theorem dX7_init_33 : decode cX7_init 33 = .ok (.bipush 15, 2) := by decide +kernel
theorem dX7_init_35 : decode cX7_init 35 = .ok (.newarray .int, 2) := by decide +kernel
theorem dX7_init_37 : decode cX7_init 37 = .ok (.putfield 27, 3) := by decide +kernel
theorem dX7_init_40 : decode cX7_init 40 = .ok (.aload_n 0, 1) := by decide +kernel
theorem dX7_init_41 : decode cX7_init 41 = .ok (.iconst 4, 1) := by decide +kernel
theorem dX7_init_42 : decode cX7_init 42 = .ok (.anewarray 31, 3) := by decide +kernel
theorem dX7_init_45 : decode cX7_init 45 = .ok (.putfield 33, 3) := by decide +kernel
theorem dX7_init_48 : decode cX7_init 48 = .ok (.aload_n 0, 1) := by decide +kernel
theorem dX7_init_49 : decode cX7_init 49 = .ok (.new 37, 3) := by decide +kernel
theorem dX7_init_52 : decode cX7_init 52 = .ok (.dup, 1) := by decide +kernel
theorem dX7_init_53 : decode cX7_init 53 = .ok (.invokespecial 39, 3) := by decide +kernel
theorem dX7_init_56 : decode cX7_init 56 = .ok (.putfield 40, 3) := by decide +kernel
theorem dX7_init_59 : decode cX7_init 59 = .ok (.aload_n 0, 1) := by decide +kernel
theorem dX7_init_60 : decode cX7_init 60 = .ok (.new 44, 3) := by decide +kernel
theorem dX7_init_63 : decode cX7_init 63 = .ok (.dup, 1) := by decide +kernel
theorem dX7_init_64 : decode cX7_init 64 = .ok (.invokespecial 46, 3) := by decide +kernel
theorem dX7_init_67 : decode cX7_init 67 = .ok (.putfield 47, 3) := by decide +kernel
theorem dX7_init_70 : decode cX7_init 70 = .ok (.iconst 0, 1) := by decide +kernel
theorem dX7_init_71 : decode cX7_init 71 = .ok (.istore_n 1, 1) := by decide +kernel
theorem dX7_init_72 : decode cX7_init 72 = .ok (.iload_n 1, 1) := by decide +kernel
theorem dX7_init_73 : decode cX7_init 73 = .ok (.iconst 4, 1) := by decide +kernel
theorem dX7_init_74 : decode cX7_init 74 = .ok (.if_icmp .ge 22, 3) := by decide +kernel
theorem dX7_init_77 : decode cX7_init 77 = .ok (.aload_n 0, 1) := by decide +kernel
theorem dX7_init_78 : decode cX7_init 78 = .ok (.getfield 33, 3) := by decide +kernel
theorem dX7_init_81 : decode cX7_init 81 = .ok (.iload_n 1, 1) := by decide +kernel
theorem dX7_init_82 : decode cX7_init 82 = .ok (.new 31, 3) := by decide +kernel
theorem dX7_init_85 : decode cX7_init 85 = .ok (.dup, 1) := by decide +kernel
theorem dX7_init_86 : decode cX7_init 86 = .ok (.invokespecial 51, 3) := by decide +kernel
theorem dX7_init_89 : decode cX7_init 89 = .ok (.aastore, 1) := by decide +kernel
theorem dX7_init_90 : decode cX7_init 90 = .ok (.iinc 1 1, 3) := by decide +kernel
theorem dX7_init_93 : decode cX7_init 93 = .ok (.goto (-21), 3) := by decide +kernel
theorem dX7_init_96 : decode cX7_init 96 = .ok (.return_, 1) := by decide +kernel
theorem dX7_copyFrom_0 : decode cX7_copyFrom 0 = .ok (.aload_n 0, 1) := by decide +kernel
theorem dX7_copyFrom_1 : decode cX7_copyFrom 1 = .ok (.aload_n 1, 1) := by decide +kernel
theorem dX7_copyFrom_2 : decode cX7_copyFrom 2 = .ok (.getfield 9, 3) := by decide +kernel
theorem dX7_copyFrom_5 : decode cX7_copyFrom 5 = .ok (.putfield 9, 3) := by decide +kernel
theorem dX7_copyFrom_8 : decode cX7_copyFrom 8 = .ok (.aload_n 0, 1) := by decide +kernel
theorem dX7_copyFrom_9 : decode cX7_copyFrom 9 = .ok (.aload_n 1, 1) := by decide +kernel
theorem dX7_copyFrom_10 : decode cX7_copyFrom 10 = .ok (.getfield 15, 3) := by decide +kernel
theorem dX7_copyFrom_13 : decode cX7_copyFrom 13 = .ok (.putfield 15, 3) := by decide +kernel
theorem dX7_copyFrom_16 : decode cX7_copyFrom 16 = .ok (.aload_n 0, 1) := by decide +kernel
theorem dX7_copyFrom_17 : decode cX7_copyFrom 17 = .ok (.aload_n 1, 1) := by decide +kernel
theorem dX7_copyFrom_18 : decode cX7_copyFrom 18 = .ok (.getfield 18, 3) := by decide +kernel
theorem dX7_copyFrom_21 : decode cX7_copyFrom 21 = .ok (.putfield 18, 3) := by decide +kernel
theorem dX7_copyFrom_24 : decode cX7_copyFrom 24 = .ok (.aload_n 0, 1) := by decide +kernel
theorem dX7_copyFrom_25 : decode cX7_copyFrom 25 = .ok (.aload_n 1, 1) := by decide +kernel
theorem dX7_copyFrom_26 : decode cX7_copyFrom 26 = .ok (.getfield 21, 3) := by decide +kernel
theorem dX7_copyFrom_29 : decode cX7_copyFrom 29 = .ok (.putfield 21, 3) := by decide +kernel
theorem dX7_copyFrom_32 : decode cX7_copyFrom 32 = .ok (.aload_n 0, 1) := by decide +kernel
theorem dX7_copyFrom_33 : decode cX7_copyFrom 33 = .ok (.aload_n 1, 1) := by decide +kernel
theorem dX7_copyFrom_34 : decode cX7_copyFrom 34 = .ok (.getfield 24, 3) := by decide +kernel
theorem dX7_copyFrom_37 : decode cX7_copyFrom 37 = .ok (.putfield 24, 3) := by decide +kernel
theorem dX7_copyFrom_40 : decode cX7_copyFrom 40 = .ok (.aload_n 1, 1) := by decide +kernel
theorem dX7_copyFrom_41 : decode cX7_copyFrom 41 = .ok (.getfield 27, 3) := by decide +kernel
theorem dX7_copyFrom_44 : decode cX7_copyFrom 44 = .ok (.iconst 0, 1) := by decide +kernel
theorem dX7_copyFrom_45 : decode cX7_copyFrom 45 = .ok (.aload_n 0, 1) := by decide +kernel
theorem dX7_copyFrom_46 : decode cX7_copyFrom 46 = .ok (.getfield 27, 3) := by decide +kernel
theorem dX7_copyFrom_49 : decode cX7_copyFrom 49 = .ok (.iconst 0, 1) := by decide +kernel
theorem dX7_copyFrom_50 : decode cX7_copyFrom 50 = .ok (.bipush 15, 2) := by decide +kernel
theorem dX7_copyFrom_52 : decode cX7_copyFrom 52 = .ok (.invokestatic 52, 3) := by decide +kernel
theorem dX7_copyFrom_55 : decode cX7_copyFrom 55 = .ok (.iconst 0, 1) := by decide +kernel
theorem dX7_copyFrom_56 : decode cX7_copyFrom 56 = .ok (.istore_n 2, 1) := by decide +kernel
theorem dX7_copyFrom_57 : decode cX7_copyFrom 57 = .ok (.iload_n 2, 1) := by decide +kernel
theorem dX7_copyFrom_58 : decode cX7_copyFrom 58 = .ok (.iconst 4, 1) := by decide +kernel
theorem dX7_copyFrom_59 : decode cX7_copyFrom 59 = .ok (.if_icmp .ge 24, 3) := by decide +kernel
theorem dX7_copyFrom_62 : decode cX7_copyFrom 62 = .ok (.aload_n 0, 1) := by decide +kernel
theorem dX7_copyFrom_63 : decode cX7_copyFrom 63 = .ok (.getfield 33, 3) := by decide +kernel
theorem dX7_copyFrom_66 : decode cX7_copyFrom 66 = .ok (.iload_n 2, 1) := by decide +kernel
theorem dX7_copyFrom_67 : decode cX7_copyFrom 67 = .ok (.aaload, 1) := by decide +kernel
theorem dX7_copyFrom_68 : decode cX7_copyFrom 68 = .ok (.aload_n 1, 1) := by decide +kernel
theorem dX7_copyFrom_69 : decode cX7_copyFrom 69 = .ok (.getfield 33, 3) := by decide +kernel
theorem dX7_copyFrom_72 : decode cX7_copyFrom 72 = .ok (.iload_n 2, 1) := by decide +kernel
theorem dX7_copyFrom_73 : decode cX7_copyFrom 73 = .ok (.aaload, 1) := by decide +kernel
theorem dX7_copyFrom_74 : decode cX7_copyFrom 74 = .ok (.invokevirtual 58, 3) := by decide +kernel
theorem dX7_copyFrom_77 : decode cX7_copyFrom 77 = .ok (.iinc 2 1, 3) := by decide +kernel
theorem dX7_copyFrom_80 : decode cX7_copyFrom 80 = .ok (.goto (-23), 3) := by decide +kernel
theorem dX7_copyFrom_83 : decode cX7_copyFrom 83 = .ok (.aload_n 0, 1) := by decide +kernel
theorem dX7_copyFrom_84 : decode cX7_copyFrom 84 = .ok (.getfield 40, 3) := by decide +kernel
theorem dX7_copyFrom_87 : decode cX7_copyFrom 87 = .ok (.aload_n 1, 1) := by decide +kernel
theorem dX7_copyFrom_88 : decode cX7_copyFrom 88 = .ok (.getfield 40, 3) := by decide +kernel
theorem dX7_copyFrom_91 : decode cX7_copyFrom 91 = .ok (.invokevirtual 62, 3) := by decide +kernel
theorem dX7_copyFrom_94 : decode cX7_copyFrom 94 = .ok (.aload_n 0, 1) := by decide +kernel
theorem dX7_copyFrom_95 : decode cX7_copyFrom 95 = .ok (.getfield 47, 3) := by decide +kernel
theorem dX7_copyFrom_98 : decode cX7_copyFrom 98 = .ok (.aload_n 1, 1) := by decide +kernel
theorem dX7_copyFrom_99 : decode cX7_copyFrom 99 = .ok (.getfield 47, 3) := by decide +kernel
theorem dX7_copyFrom_102 : decode cX7_copyFrom 102 = .ok (.invokevirtual 65, 3) := by decide +kernel
theorem dX7_copyFrom_105 : decode cX7_copyFrom 105 = .ok (.return_, 1) := by decide +kernel
theorem dX7_hasPendingBytes_0 : decode cX7_hasPendingBytes 0 = .ok (.iconst 0, 1) := by decide +kernel
theorem dX7_hasPendingBytes_1 : decode cX7_hasPendingBytes 1 = .ok (.istore_n 1, 1) := by decide +kernel
theorem dX7_hasPendingBytes_2 : decode cX7_hasPendingBytes 2 = .ok (.iload_n 1, 1) := by decide +kernel
theorem dX7_hasPendingBytes_3 : decode cX7_hasPendingBytes 3 = .ok (.iconst 4, 1) := by decide +kernel
theorem dX7_hasPendingBytes_4 : decode cX7_hasPendingBytes 4 = .ok (.if_icmp .ge 23, 3) := by decide +kernel
theorem dX7_hasPendingBytes_7 : decode cX7_hasPendingBytes 7 = .ok (.aload_n 0, 1) := by decide +kernel
theorem dX7_hasPendingBytes_8 : decode cX7_hasPendingBytes 8 = .ok (.getfield 33, 3) := by decide +kernel
theorem dX7_hasPendingBytes_11 : decode cX7_hasPendingBytes 11 = .ok (.iload_n 1, 1) := by decide +kernel
theorem dX7_hasPendingBytes_12 : decode cX7_hasPendingBytes 12 = .ok (.aaload, 1) := by decide +kernel
theorem dX7_hasPendingBytes_13 : decode cX7_hasPendingBytes 13 = .ok (.getfield 68, 3) := by decide +kernel
theorem dX7_hasPendingBytes_16 : decode cX7_hasPendingBytes 16 = .ok (.ifCond .le 5, 3) := by decide +kernel
theorem dX7_hasPendingBytes_19 : decode cX7_hasPendingBytes 19 = .ok (.iconst 1, 1) := by decide +kernel
theorem dX7_hasPendingBytes_20 : decode cX7_hasPendingBytes 20 = .ok (.ireturn, 1) := by decide +kernel
theorem dX7_hasPendingBytes_21 : decode cX7_hasPendingBytes 21 = .ok (.iinc 1 1, 3) := by decide +kernel
theorem dX7_hasPendingBytes_24 : decode cX7_hasPendingBytes 24 = .ok (.goto (-22), 3) := by decide +kernel
theorem dX7_hasPendingBytes_27 : decode cX7_hasPendingBytes 27 = .ok (.iconst 0, 1) := by decide +kernel
theorem dX7_hasPendingBytes_28 : decode cX7_hasPendingBytes 28 = .ok (.ireturn, 1) := by decide +kernel
theorem dX7_enqueue_0 : decode cX7_enqueue 0 = .ok (.aload_n 0, 1) := by decide +kernel
theorem dX7_enqueue_1 : decode cX7_enqueue 1 = .ok (.getfield 27, 3) := by decide +kernel
theorem dX7_enqueue_4 : decode cX7_enqueue 4 = .ok (.iload_n 2, 1) := by decide +kernel
theorem dX7_enqueue_5 : decode cX7_enqueue 5 = .ok (.iaload, 1) := by decide +kernel
theorem dX7_enqueue_6 : decode cX7_enqueue 6 = .ok (.istore 5, 2) := by decide +kernel
theorem dX7_enqueue_8 : decode cX7_enqueue 8 = .ok (.aload_n 0, 1) := by decide +kernel
theorem dX7_enqueue_9 : decode cX7_enqueue 9 = .ok (.getfield 27, 3) := by decide +kernel
theorem dX7_enqueue_12 : decode cX7_enqueue 12 = .ok (.iload_n 2, 1) := by decide +kernel
theorem dX7_enqueue_13 : decode cX7_enqueue 13 = .ok (.iload 5, 2) := by decide +kernel
theorem dX7_enqueue_15 : decode cX7_enqueue 15 = .ok (.iconst 1, 1) := by decide +kernel
theorem dX7_enqueue_16 : decode cX7_enqueue 16 = .ok (.iadd, 1) := by decide +kernel
theorem dX7_enqueue_17 : decode cX7_enqueue 17 = .ok (.sipush 255, 3) := by decide +kernel
theorem dX7_enqueue_20 : decode cX7_enqueue 20 = .ok (.iand, 1) := by decide +kernel
theorem dX7_enqueue_21 : decode cX7_enqueue 21 = .ok (.iastore, 1) := by decide +kernel
theorem dX7_enqueue_22 : decode cX7_enqueue 22 = .ok (.aload_n 0, 1) := by decide +kernel
theorem dX7_enqueue_23 : decode cX7_enqueue 23 = .ok (.getfield 33, 3) := by decide +kernel
theorem dX7_enqueue_26 : decode cX7_enqueue 26 = .ok (.iload_n 1, 1) := by decide +kernel
theorem dX7_enqueue_27 : decode cX7_enqueue 27 = .ok (.aaload, 1) := by decide +kernel
theorem dX7_enqueue_28 : decode cX7_enqueue 28 = .ok (.iload_n 2, 1) := by decide +kernel
theorem dX7_enqueue_29 : decode cX7_enqueue 29 = .ok (.iload 5, 2) := by decide +kernel
theorem dX7_enqueue_31 : decode cX7_enqueue 31 = .ok (.iload_n 3, 1) := by decide +kernel
theorem dX7_enqueue_32 : decode cX7_enqueue 32 = .ok (.iload 4, 2) := by decide +kernel
theorem dX7_enqueue_34 : decode cX7_enqueue 34 = .ok (.aload_n 0, 1) := by decide +kernel
theorem dX7_enqueue_35 : decode cX7_enqueue 35 = .ok (.getfield 21, 3) := by decide +kernel
theorem dX7_enqueue_38 : decode cX7_enqueue 38 = .ok (.invokevirtual 71, 3) := by decide +kernel
theorem dX7_enqueue_41 : decode cX7_enqueue 41 = .ok (.iload 5, 2) := by decide +kernel
theorem dX7_enqueue_43 : decode cX7_enqueue 43 = .ok (.ireturn, 1) := by decide +kernel
theorem dX7_boardTime_0 : decode cX7_boardTime 0 = .ok (.ldc2_w 75, 3) := by decide +kernel
theorem dX7_boardTime_3 : decode cX7_boardTime 3 = .ok (.aload_n 0, 1) := by decide +kernel
theorem dX7_boardTime_4 : decode cX7_boardTime 4 = .ok (.getfield 21, 3) := by decide +kernel
theorem dX7_boardTime_7 : decode cX7_boardTime 7 = .ok (.i2l, 1) := by decide +kernel
theorem dX7_boardTime_8 : decode cX7_boardTime 8 = .ok (.lmul, 1) := by decide +kernel
theorem dX7_boardTime_9 : decode cX7_boardTime 9 = .ok (.aload_n 0, 1) := by decide +kernel
theorem dX7_boardTime_10 : decode cX7_boardTime 10 = .ok (.getfield 21, 3) := by decide +kernel
theorem dX7_boardTime_13 : decode cX7_boardTime 13 = .ok (.i2l, 1) := by decide +kernel
theorem dX7_boardTime_14 : decode cX7_boardTime 14 = .ok (.aload_n 0, 1) := by decide +kernel
theorem dX7_boardTime_15 : decode cX7_boardTime 15 = .ok (.getfield 15, 3) := by decide +kernel
theorem dX7_boardTime_18 : decode cX7_boardTime 18 = .ok (.i2l, 1) := by decide +kernel
theorem dX7_boardTime_19 : decode cX7_boardTime 19 = .ok (.lmul, 1) := by decide +kernel
theorem dX7_boardTime_20 : decode cX7_boardTime 20 = .ok (.ldc2_w 77, 3) := by decide +kernel
theorem dX7_boardTime_23 : decode cX7_boardTime 23 = .ok (.invokestatic 79, 3) := by decide +kernel
theorem dX7_boardTime_26 : decode cX7_boardTime 26 = .ok (.ladd, 1) := by decide +kernel
theorem dX7_boardTime_27 : decode cX7_boardTime 27 = .ok (.lreturn, 1) := by decide +kernel
theorem dX7_groundArrival_0 : decode cX7_groundArrival 0 = .ok (.ldc2_w 75, 3) := by decide +kernel
theorem dX7_groundArrival_3 : decode cX7_groundArrival 3 = .ok (.aload_n 0, 1) := by decide +kernel
theorem dX7_groundArrival_4 : decode cX7_groundArrival 4 = .ok (.getfield 21, 3) := by decide +kernel
theorem dX7_groundArrival_7 : decode cX7_groundArrival 7 = .ok (.i2l, 1) := by decide +kernel
theorem dX7_groundArrival_8 : decode cX7_groundArrival 8 = .ok (.lmul, 1) := by decide +kernel
theorem dX7_groundArrival_9 : decode cX7_groundArrival 9 = .ok (.aload_n 0, 1) := by decide +kernel
theorem dX7_groundArrival_10 : decode cX7_groundArrival 10 = .ok (.getfield 18, 3) := by decide +kernel
theorem dX7_groundArrival_13 : decode cX7_groundArrival 13 = .ok (.i2l, 1) := by decide +kernel
theorem dX7_groundArrival_14 : decode cX7_groundArrival 14 = .ok (.ladd, 1) := by decide +kernel
theorem dX7_groundArrival_15 : decode cX7_groundArrival 15 = .ok (.lreturn, 1) := by decide +kernel
theorem dX7_chosenChannel_0 : decode cX7_chosenChannel 0 = .ok (.iconst (-1), 1) := by decide +kernel
theorem dX7_chosenChannel_1 : decode cX7_chosenChannel 1 = .ok (.istore_n 1, 1) := by decide +kernel
theorem dX7_chosenChannel_2 : decode cX7_chosenChannel 2 = .ok (.iconst 0, 1) := by decide +kernel
theorem dX7_chosenChannel_3 : decode cX7_chosenChannel 3 = .ok (.istore_n 2, 1) := by decide +kernel
theorem dX7_chosenChannel_4 : decode cX7_chosenChannel 4 = .ok (.iload_n 2, 1) := by decide +kernel
theorem dX7_chosenChannel_5 : decode cX7_chosenChannel 5 = .ok (.iconst 4, 1) := by decide +kernel
theorem dX7_chosenChannel_6 : decode cX7_chosenChannel 6 = .ok (.if_icmp .ge 46, 3) := by decide +kernel
theorem dX7_chosenChannel_9 : decode cX7_chosenChannel 9 = .ok (.aload_n 0, 1) := by decide +kernel
theorem dX7_chosenChannel_10 : decode cX7_chosenChannel 10 = .ok (.getfield 33, 3) := by decide +kernel
theorem dX7_chosenChannel_13 : decode cX7_chosenChannel 13 = .ok (.iload_n 2, 1) := by decide +kernel
theorem dX7_chosenChannel_14 : decode cX7_chosenChannel 14 = .ok (.aaload, 1) := by decide +kernel
theorem dX7_chosenChannel_15 : decode cX7_chosenChannel 15 = .ok (.invokevirtual 85, 3) := by decide +kernel
theorem dX7_chosenChannel_18 : decode cX7_chosenChannel 18 = .ok (.ifCond .eq 28, 3) := by decide +kernel
theorem dX7_chosenChannel_21 : decode cX7_chosenChannel 21 = .ok (.iload_n 1, 1) := by decide +kernel
theorem dX7_chosenChannel_22 : decode cX7_chosenChannel 22 = .ok (.iconst (-1), 1) := by decide +kernel
theorem dX7_chosenChannel_23 : decode cX7_chosenChannel 23 = .ok (.if_icmp .eq 21, 3) := by decide +kernel
theorem dX7_chosenChannel_26 : decode cX7_chosenChannel 26 = .ok (.aload_n 0, 1) := by decide +kernel
theorem dX7_chosenChannel_27 : decode cX7_chosenChannel 27 = .ok (.getfield 33, 3) := by decide +kernel
theorem dX7_chosenChannel_30 : decode cX7_chosenChannel 30 = .ok (.iload_n 2, 1) := by decide +kernel
theorem dX7_chosenChannel_31 : decode cX7_chosenChannel 31 = .ok (.aaload, 1) := by decide +kernel
theorem dX7_chosenChannel_32 : decode cX7_chosenChannel 32 = .ok (.aload_n 0, 1) := by decide +kernel
theorem dX7_chosenChannel_33 : decode cX7_chosenChannel 33 = .ok (.getfield 33, 3) := by decide +kernel
theorem dX7_chosenChannel_36 : decode cX7_chosenChannel 36 = .ok (.iload_n 1, 1) := by decide +kernel
theorem dX7_chosenChannel_37 : decode cX7_chosenChannel 37 = .ok (.aaload, 1) := by decide +kernel
theorem dX7_chosenChannel_38 : decode cX7_chosenChannel 38 = .ok (.invokevirtual 89, 3) := by decide +kernel
theorem dX7_chosenChannel_41 : decode cX7_chosenChannel 41 = .ok (.ifCond .eq 5, 3) := by decide +kernel
theorem dX7_chosenChannel_44 : decode cX7_chosenChannel 44 = .ok (.iload_n 2, 1) := by decide +kernel
theorem dX7_chosenChannel_45 : decode cX7_chosenChannel 45 = .ok (.istore_n 1, 1) := by decide +kernel
theorem dX7_chosenChannel_46 : decode cX7_chosenChannel 46 = .ok (.iinc 2 1, 3) := by decide +kernel
theorem dX7_chosenChannel_49 : decode cX7_chosenChannel 49 = .ok (.goto (-45), 3) := by decide +kernel
theorem dX7_chosenChannel_52 : decode cX7_chosenChannel 52 = .ok (.iload_n 1, 1) := by decide +kernel
theorem dX7_chosenChannel_53 : decode cX7_chosenChannel 53 = .ok (.iconst (-1), 1) := by decide +kernel
theorem dX7_chosenChannel_54 : decode cX7_chosenChannel 54 = .ok (.if_icmp .ne 10, 3) := by decide +kernel
theorem dX7_chosenChannel_57 : decode cX7_chosenChannel 57 = .ok (.aload_n 0, 1) := by decide +kernel
theorem dX7_chosenChannel_58 : decode cX7_chosenChannel 58 = .ok (.invokevirtual 93, 3) := by decide +kernel
theorem dX7_chosenChannel_61 : decode cX7_chosenChannel 61 = .ok (.goto 4, 3) := by decide +kernel
theorem dX7_chosenChannel_64 : decode cX7_chosenChannel 64 = .ok (.iload_n 1, 1) := by decide +kernel
theorem dX7_chosenChannel_65 : decode cX7_chosenChannel 65 = .ok (.ireturn, 1) := by decide +kernel
theorem dX7_readyChannel_0 : decode cX7_readyChannel 0 = .ok (.iconst (-1), 1) := by decide +kernel
theorem dX7_readyChannel_1 : decode cX7_readyChannel 1 = .ok (.istore_n 1, 1) := by decide +kernel
theorem dX7_readyChannel_2 : decode cX7_readyChannel 2 = .ok (.iconst 0, 1) := by decide +kernel
theorem dX7_readyChannel_3 : decode cX7_readyChannel 3 = .ok (.istore_n 2, 1) := by decide +kernel
theorem dX7_readyChannel_4 : decode cX7_readyChannel 4 = .ok (.iload_n 2, 1) := by decide +kernel
theorem dX7_readyChannel_5 : decode cX7_readyChannel 5 = .ok (.iconst 4, 1) := by decide +kernel
theorem dX7_readyChannel_6 : decode cX7_readyChannel 6 = .ok (.if_icmp .ge 50, 3) := by decide +kernel
theorem dX7_readyChannel_9 : decode cX7_readyChannel 9 = .ok (.aload_n 0, 1) := by decide +kernel
theorem dX7_readyChannel_10 : decode cX7_readyChannel 10 = .ok (.getfield 33, 3) := by decide +kernel
theorem dX7_readyChannel_13 : decode cX7_readyChannel 13 = .ok (.iload_n 2, 1) := by decide +kernel
theorem dX7_readyChannel_14 : decode cX7_readyChannel 14 = .ok (.aaload, 1) := by decide +kernel
theorem dX7_readyChannel_15 : decode cX7_readyChannel 15 = .ok (.aload_n 0, 1) := by decide +kernel
theorem dX7_readyChannel_16 : decode cX7_readyChannel 16 = .ok (.getfield 9, 3) := by decide +kernel
theorem dX7_readyChannel_19 : decode cX7_readyChannel 19 = .ok (.invokevirtual 97, 3) := by decide +kernel
theorem dX7_readyChannel_22 : decode cX7_readyChannel 22 = .ok (.ifCond .eq 28, 3) := by decide +kernel
theorem dX7_readyChannel_25 : decode cX7_readyChannel 25 = .ok (.iload_n 1, 1) := by decide +kernel
theorem dX7_readyChannel_26 : decode cX7_readyChannel 26 = .ok (.iconst (-1), 1) := by decide +kernel
theorem dX7_readyChannel_27 : decode cX7_readyChannel 27 = .ok (.if_icmp .eq 21, 3) := by decide +kernel
theorem dX7_readyChannel_30 : decode cX7_readyChannel 30 = .ok (.aload_n 0, 1) := by decide +kernel
theorem dX7_readyChannel_31 : decode cX7_readyChannel 31 = .ok (.getfield 33, 3) := by decide +kernel
theorem dX7_readyChannel_34 : decode cX7_readyChannel 34 = .ok (.iload_n 2, 1) := by decide +kernel
theorem dX7_readyChannel_35 : decode cX7_readyChannel 35 = .ok (.aaload, 1) := by decide +kernel
theorem dX7_readyChannel_36 : decode cX7_readyChannel 36 = .ok (.aload_n 0, 1) := by decide +kernel
theorem dX7_readyChannel_37 : decode cX7_readyChannel 37 = .ok (.getfield 33, 3) := by decide +kernel
theorem dX7_readyChannel_40 : decode cX7_readyChannel 40 = .ok (.iload_n 1, 1) := by decide +kernel
theorem dX7_readyChannel_41 : decode cX7_readyChannel 41 = .ok (.aaload, 1) := by decide +kernel
theorem dX7_readyChannel_42 : decode cX7_readyChannel 42 = .ok (.invokevirtual 101, 3) := by decide +kernel
theorem dX7_readyChannel_45 : decode cX7_readyChannel 45 = .ok (.ifCond .eq 5, 3) := by decide +kernel
theorem dX7_readyChannel_48 : decode cX7_readyChannel 48 = .ok (.iload_n 2, 1) := by decide +kernel
theorem dX7_readyChannel_49 : decode cX7_readyChannel 49 = .ok (.istore_n 1, 1) := by decide +kernel
theorem dX7_readyChannel_50 : decode cX7_readyChannel 50 = .ok (.iinc 2 1, 3) := by decide +kernel
theorem dX7_readyChannel_53 : decode cX7_readyChannel 53 = .ok (.goto (-49), 3) := by decide +kernel
theorem dX7_readyChannel_56 : decode cX7_readyChannel 56 = .ok (.iload_n 1, 1) := by decide +kernel
theorem dX7_readyChannel_57 : decode cX7_readyChannel 57 = .ok (.ireturn, 1) := by decide +kernel
theorem dX7_sendSlot_0 : decode cX7_sendSlot 0 = .ok (.aload_n 0, 1) := by decide +kernel
theorem dX7_sendSlot_1 : decode cX7_sendSlot 1 = .ok (.invokevirtual 104, 3) := by decide +kernel
theorem dX7_sendSlot_4 : decode cX7_sendSlot 4 = .ok (.istore_n 1, 1) := by decide +kernel
theorem dX7_sendSlot_5 : decode cX7_sendSlot 5 = .ok (.iconst 0, 1) := by decide +kernel
theorem dX7_sendSlot_6 : decode cX7_sendSlot 6 = .ok (.istore_n 2, 1) := by decide +kernel
theorem dX7_sendSlot_7 : decode cX7_sendSlot 7 = .ok (.iload_n 2, 1) := by decide +kernel
theorem dX7_sendSlot_8 : decode cX7_sendSlot 8 = .ok (.iconst 4, 1) := by decide +kernel
theorem dX7_sendSlot_9 : decode cX7_sendSlot 9 = .ok (.if_icmp .ge 28, 3) := by decide +kernel
theorem dX7_sendSlot_12 : decode cX7_sendSlot 12 = .ok (.aload_n 0, 1) := by decide +kernel
theorem dX7_sendSlot_13 : decode cX7_sendSlot 13 = .ok (.getfield 33, 3) := by decide +kernel
theorem dX7_sendSlot_16 : decode cX7_sendSlot 16 = .ok (.iload_n 2, 1) := by decide +kernel
theorem dX7_sendSlot_17 : decode cX7_sendSlot 17 = .ok (.aaload, 1) := by decide +kernel
theorem dX7_sendSlot_18 : decode cX7_sendSlot 18 = .ok (.iload_n 2, 1) := by decide +kernel
theorem dX7_sendSlot_19 : decode cX7_sendSlot 19 = .ok (.iload_n 1, 1) := by decide +kernel
theorem dX7_sendSlot_20 : decode cX7_sendSlot 20 = .ok (.if_icmp .ne 7, 3) := by decide +kernel
theorem dX7_sendSlot_23 : decode cX7_sendSlot 23 = .ok (.iconst 1, 1) := by decide +kernel
theorem dX7_sendSlot_24 : decode cX7_sendSlot 24 = .ok (.goto 4, 3) := by decide +kernel
theorem dX7_sendSlot_27 : decode cX7_sendSlot 27 = .ok (.iconst 0, 1) := by decide +kernel
theorem dX7_sendSlot_28 : decode cX7_sendSlot 28 = .ok (.invokevirtual 107, 3) := by decide +kernel
theorem dX7_sendSlot_31 : decode cX7_sendSlot 31 = .ok (.iinc 2 1, 3) := by decide +kernel
theorem dX7_sendSlot_34 : decode cX7_sendSlot 34 = .ok (.goto (-27), 3) := by decide +kernel
theorem dX7_sendSlot_37 : decode cX7_sendSlot 37 = .ok (.aload_n 0, 1) := by decide +kernel
theorem dX7_sendSlot_38 : decode cX7_sendSlot 38 = .ok (.getfield 40, 3) := by decide +kernel
theorem dX7_sendSlot_41 : decode cX7_sendSlot 41 = .ok (.invokevirtual 111, 3) := by decide +kernel
theorem dX7_sendSlot_44 : decode cX7_sendSlot 44 = .ok (.astore_n 2, 1) := by decide +kernel
theorem dX7_sendSlot_45 : decode cX7_sendSlot 45 = .ok (.aload_n 2, 1) := by decide +kernel
theorem dX7_sendSlot_46 : decode cX7_sendSlot 46 = .ok (.aload_n 0, 1) := by decide +kernel
theorem dX7_sendSlot_47 : decode cX7_sendSlot 47 = .ok (.getfield 9, 3) := by decide +kernel
theorem dX7_sendSlot_50 : decode cX7_sendSlot 50 = .ok (.aload_n 0, 1) := by decide +kernel
theorem dX7_sendSlot_51 : decode cX7_sendSlot 51 = .ok (.invokevirtual 114, 3) := by decide +kernel
theorem dX7_sendSlot_54 : decode cX7_sendSlot 54 = .ok (.aload_n 0, 1) := by decide +kernel
theorem dX7_sendSlot_55 : decode cX7_sendSlot 55 = .ok (.invokevirtual 118, 3) := by decide +kernel
theorem dX7_sendSlot_58 : decode cX7_sendSlot 58 = .ok (.invokevirtual 121, 3) := by decide +kernel
theorem dX7_sendSlot_61 : decode cX7_sendSlot 61 = .ok (.aload_n 2, 1) := by decide +kernel
theorem dX7_sendSlot_62 : decode cX7_sendSlot 62 = .ok (.getfield 127, 3) := by decide +kernel
theorem dX7_sendSlot_65 : decode cX7_sendSlot 65 = .ok (.iconst 0, 1) := by decide +kernel
theorem dX7_sendSlot_66 : decode cX7_sendSlot 66 = .ok (.aload_n 0, 1) := by decide +kernel
theorem dX7_sendSlot_67 : decode cX7_sendSlot 67 = .ok (.getfield 21, 3) := by decide +kernel
theorem dX7_sendSlot_70 : decode cX7_sendSlot 70 = .ok (.sipush 255, 3) := by decide +kernel
theorem dX7_sendSlot_73 : decode cX7_sendSlot 73 = .ok (.iand, 1) := by decide +kernel
theorem dX7_sendSlot_74 : decode cX7_sendSlot 74 = .ok (.iastore, 1) := by decide +kernel
theorem dX7_sendSlot_75 : decode cX7_sendSlot 75 = .ok (.iload_n 1, 1) := by decide +kernel
theorem dX7_sendSlot_76 : decode cX7_sendSlot 76 = .ok (.iconst (-1), 1) := by decide +kernel
theorem dX7_sendSlot_77 : decode cX7_sendSlot 77 = .ok (.if_icmp .ne 42, 3) := by decide +kernel
theorem dX7_sendSlot_80 : decode cX7_sendSlot 80 = .ok (.aload_n 2, 1) := by decide +kernel
theorem dX7_sendSlot_81 : decode cX7_sendSlot 81 = .ok (.getfield 127, 3) := by decide +kernel
theorem dX7_sendSlot_84 : decode cX7_sendSlot 84 = .ok (.iconst 1, 1) := by decide +kernel
theorem dX7_sendSlot_85 : decode cX7_sendSlot 85 = .ok (.bipush 7, 2) := by decide +kernel
theorem dX7_sendSlot_87 : decode cX7_sendSlot 87 = .ok (.iastore, 1) := by decide +kernel
theorem dX7_sendSlot_88 : decode cX7_sendSlot 88 = .ok (.aload_n 2, 1) := by decide +kernel
theorem dX7_sendSlot_89 : decode cX7_sendSlot 89 = .ok (.getfield 127, 3) := by decide +kernel
theorem dX7_sendSlot_92 : decode cX7_sendSlot 92 = .ok (.iconst 2, 1) := by decide +kernel
theorem dX7_sendSlot_93 : decode cX7_sendSlot 93 = .ok (.aload_n 0, 1) := by decide +kernel
theorem dX7_sendSlot_94 : decode cX7_sendSlot 94 = .ok (.getfield 24, 3) := by decide +kernel
theorem dX7_sendSlot_97 : decode cX7_sendSlot 97 = .ok (.sipush 255, 3) := by decide +kernel
theorem dX7_sendSlot_100 : decode cX7_sendSlot 100 = .ok (.iand, 1) := by decide +kernel
theorem dX7_sendSlot_101 : decode cX7_sendSlot 101 = .ok (.iastore, 1) := by decide +kernel
theorem dX7_sendSlot_102 : decode cX7_sendSlot 102 = .ok (.aload_n 2, 1) := by decide +kernel
theorem dX7_sendSlot_103 : decode cX7_sendSlot 103 = .ok (.invokevirtual 130, 3) := by decide +kernel
theorem dX7_sendSlot_106 : decode cX7_sendSlot 106 = .ok (.aload_n 0, 1) := by decide +kernel
theorem dX7_sendSlot_107 : decode cX7_sendSlot 107 = .ok (.dup, 1) := by decide +kernel
theorem dX7_sendSlot_108 : decode cX7_sendSlot 108 = .ok (.getfield 24, 3) := by decide +kernel
theorem dX7_sendSlot_111 : decode cX7_sendSlot 111 = .ok (.iconst 1, 1) := by decide +kernel
theorem dX7_sendSlot_112 : decode cX7_sendSlot 112 = .ok (.iadd, 1) := by decide +kernel
theorem dX7_sendSlot_113 : decode cX7_sendSlot 113 = .ok (.putfield 24, 3) := by decide +kernel
theorem dX7_sendSlot_116 : decode cX7_sendSlot 116 = .ok (.goto 24, 3) := by decide +kernel
theorem dX7_sendSlot_119 : decode cX7_sendSlot 119 = .ok (.aload_n 2, 1) := by decide +kernel
theorem dX7_sendSlot_120 : decode cX7_sendSlot 120 = .ok (.getfield 127, 3) := by decide +kernel
theorem dX7_sendSlot_123 : decode cX7_sendSlot 123 = .ok (.iconst 1, 1) := by decide +kernel
theorem dX7_sendSlot_124 : decode cX7_sendSlot 124 = .ok (.iload_n 1, 1) := by decide +kernel
theorem dX7_sendSlot_125 : decode cX7_sendSlot 125 = .ok (.iastore, 1) := by decide +kernel
theorem dX7_sendSlot_126 : decode cX7_sendSlot 126 = .ok (.aload_n 0, 1) := by decide +kernel
theorem dX7_sendSlot_127 : decode cX7_sendSlot 127 = .ok (.getfield 33, 3) := by decide +kernel
theorem dX7_sendSlot_130 : decode cX7_sendSlot 130 = .ok (.iload_n 1, 1) := by decide +kernel
theorem dX7_sendSlot_131 : decode cX7_sendSlot 131 = .ok (.aaload, 1) := by decide +kernel
theorem dX7_sendSlot_132 : decode cX7_sendSlot 132 = .ok (.aload_n 2, 1) := by decide +kernel
theorem dX7_sendSlot_133 : decode cX7_sendSlot 133 = .ok (.aload_n 0, 1) := by decide +kernel
theorem dX7_sendSlot_134 : decode cX7_sendSlot 134 = .ok (.getfield 21, 3) := by decide +kernel
theorem dX7_sendSlot_137 : decode cX7_sendSlot 137 = .ok (.invokevirtual 133, 3) := by decide +kernel
theorem dX7_sendSlot_140 : decode cX7_sendSlot 140 = .ok (.aload_n 2, 1) := by decide +kernel
theorem dX7_sendSlot_141 : decode cX7_sendSlot 141 = .ok (.invokevirtual 137, 3) := by decide +kernel
theorem dX7_sendSlot_144 : decode cX7_sendSlot 144 = .ok (.pop, 1) := by decide +kernel
theorem dX7_sendSlot_145 : decode cX7_sendSlot 145 = .ok (.aload_n 0, 1) := by decide +kernel
theorem dX7_sendSlot_146 : decode cX7_sendSlot 146 = .ok (.dup, 1) := by decide +kernel
theorem dX7_sendSlot_147 : decode cX7_sendSlot 147 = .ok (.getfield 21, 3) := by decide +kernel
theorem dX7_sendSlot_150 : decode cX7_sendSlot 150 = .ok (.iconst 1, 1) := by decide +kernel
theorem dX7_sendSlot_151 : decode cX7_sendSlot 151 = .ok (.iadd, 1) := by decide +kernel
theorem dX7_sendSlot_152 : decode cX7_sendSlot 152 = .ok (.putfield 21, 3) := by decide +kernel
theorem dX7_sendSlot_155 : decode cX7_sendSlot 155 = .ok (.iload_n 1, 1) := by decide +kernel
theorem dX7_sendSlot_156 : decode cX7_sendSlot 156 = .ok (.ireturn, 1) := by decide +kernel
theorem dX8_init_0 : decode cX8_init 0 = .ok (.aload_n 0, 1) := by decide +kernel
theorem dX8_init_1 : decode cX8_init 1 = .ok (.invokespecial 1, 3) := by decide +kernel
theorem dX8_init_4 : decode cX8_init 4 = .ok (.aload_n 0, 1) := by decide +kernel
theorem dX8_init_5 : decode cX8_init 5 = .ok (.iconst 0, 1) := by decide +kernel
theorem dX8_init_6 : decode cX8_init 6 = .ok (.putfield 7, 3) := by decide +kernel
theorem dX8_init_9 : decode cX8_init 9 = .ok (.aload_n 0, 1) := by decide +kernel
theorem dX8_init_10 : decode cX8_init 10 = .ok (.iconst 2, 1) := by decide +kernel
theorem dX8_init_11 : decode cX8_init 11 = .ok (.newarray .long, 2) := by decide +kernel
theorem dX8_init_13 : decode cX8_init 13 = .ok (.putfield 13, 3) := by decide +kernel
theorem dX8_init_16 : decode cX8_init 16 = .ok (.aload_n 0, 1) := by decide +kernel
theorem dX8_init_17 : decode cX8_init 17 = .ok (.iconst 2, 1) := by decide +kernel
theorem dX8_init_18 : decode cX8_init 18 = .ok (.newarray .long, 2) := by decide +kernel
theorem dX8_init_20 : decode cX8_init 20 = .ok (.putfield 17, 3) := by decide +kernel
theorem dX8_init_23 : decode cX8_init 23 = .ok (.return_, 1) := by decide +kernel
theorem dX8_copyFrom_0 : decode cX8_copyFrom 0 = .ok (.aload_n 0, 1) := by decide +kernel
theorem dX8_copyFrom_1 : decode cX8_copyFrom 1 = .ok (.aload_n 1, 1) := by decide +kernel
theorem dX8_copyFrom_2 : decode cX8_copyFrom 2 = .ok (.getfield 7, 3) := by decide +kernel
theorem dX8_copyFrom_5 : decode cX8_copyFrom 5 = .ok (.putfield 7, 3) := by decide +kernel
theorem dX8_copyFrom_8 : decode cX8_copyFrom 8 = .ok (.iconst 0, 1) := by decide +kernel
theorem dX8_copyFrom_9 : decode cX8_copyFrom 9 = .ok (.istore_n 2, 1) := by decide +kernel
theorem dX8_copyFrom_10 : decode cX8_copyFrom 10 = .ok (.iload_n 2, 1) := by decide +kernel
theorem dX8_copyFrom_11 : decode cX8_copyFrom 11 = .ok (.iconst 2, 1) := by decide +kernel
theorem dX8_copyFrom_12 : decode cX8_copyFrom 12 = .ok (.if_icmp .ge 33, 3) := by decide +kernel
theorem dX8_copyFrom_15 : decode cX8_copyFrom 15 = .ok (.aload_n 0, 1) := by decide +kernel
theorem dX8_copyFrom_16 : decode cX8_copyFrom 16 = .ok (.getfield 13, 3) := by decide +kernel
theorem dX8_copyFrom_19 : decode cX8_copyFrom 19 = .ok (.iload_n 2, 1) := by decide +kernel
theorem dX8_copyFrom_20 : decode cX8_copyFrom 20 = .ok (.aload_n 1, 1) := by decide +kernel
theorem dX8_copyFrom_21 : decode cX8_copyFrom 21 = .ok (.getfield 13, 3) := by decide +kernel
theorem dX8_copyFrom_24 : decode cX8_copyFrom 24 = .ok (.iload_n 2, 1) := by decide +kernel
theorem dX8_copyFrom_25 : decode cX8_copyFrom 25 = .ok (.laload, 1) := by decide +kernel
theorem dX8_copyFrom_26 : decode cX8_copyFrom 26 = .ok (.lastore, 1) := by decide +kernel
theorem dX8_copyFrom_27 : decode cX8_copyFrom 27 = .ok (.aload_n 0, 1) := by decide +kernel
theorem dX8_copyFrom_28 : decode cX8_copyFrom 28 = .ok (.getfield 17, 3) := by decide +kernel
theorem dX8_copyFrom_31 : decode cX8_copyFrom 31 = .ok (.iload_n 2, 1) := by decide +kernel
theorem dX8_copyFrom_32 : decode cX8_copyFrom 32 = .ok (.aload_n 1, 1) := by decide +kernel
theorem dX8_copyFrom_33 : decode cX8_copyFrom 33 = .ok (.getfield 17, 3) := by decide +kernel
theorem dX8_copyFrom_36 : decode cX8_copyFrom 36 = .ok (.iload_n 2, 1) := by decide +kernel
theorem dX8_copyFrom_37 : decode cX8_copyFrom 37 = .ok (.laload, 1) := by decide +kernel
theorem dX8_copyFrom_38 : decode cX8_copyFrom 38 = .ok (.lastore, 1) := by decide +kernel
theorem dX8_copyFrom_39 : decode cX8_copyFrom 39 = .ok (.iinc 2 1, 3) := by decide +kernel
theorem dX8_copyFrom_42 : decode cX8_copyFrom 42 = .ok (.goto (-32), 3) := by decide +kernel
theorem dX8_copyFrom_45 : decode cX8_copyFrom 45 = .ok (.return_, 1) := by decide +kernel
theorem dX8_note_0 : decode cX8_note 0 = .ok (.aload_n 0, 1) := by decide +kernel
theorem dX8_note_1 : decode cX8_note 1 = .ok (.getfield 7, 3) := by decide +kernel
theorem dX8_note_4 : decode cX8_note 4 = .ok (.iconst 2, 1) := by decide +kernel
theorem dX8_note_5 : decode cX8_note 5 = .ok (.if_icmp .lt 32, 3) := by decide +kernel
theorem dX8_note_8 : decode cX8_note 8 = .ok (.aload_n 0, 1) := by decide +kernel
theorem dX8_note_9 : decode cX8_note 9 = .ok (.getfield 13, 3) := by decide +kernel
theorem dX8_note_12 : decode cX8_note 12 = .ok (.iconst 0, 1) := by decide +kernel
theorem dX8_note_13 : decode cX8_note 13 = .ok (.aload_n 0, 1) := by decide +kernel
theorem dX8_note_14 : decode cX8_note 14 = .ok (.getfield 13, 3) := by decide +kernel
theorem dX8_note_17 : decode cX8_note 17 = .ok (.iconst 1, 1) := by decide +kernel
theorem dX8_note_18 : decode cX8_note 18 = .ok (.laload, 1) := by decide +kernel
theorem dX8_note_19 : decode cX8_note 19 = .ok (.lastore, 1) := by decide +kernel
theorem dX8_note_20 : decode cX8_note 20 = .ok (.aload_n 0, 1) := by decide +kernel
theorem dX8_note_21 : decode cX8_note 21 = .ok (.getfield 17, 3) := by decide +kernel
theorem dX8_note_24 : decode cX8_note 24 = .ok (.iconst 0, 1) := by decide +kernel
theorem dX8_note_25 : decode cX8_note 25 = .ok (.aload_n 0, 1) := by decide +kernel
theorem dX8_note_26 : decode cX8_note 26 = .ok (.getfield 17, 3) := by decide +kernel
theorem dX8_note_29 : decode cX8_note 29 = .ok (.iconst 1, 1) := by decide +kernel
theorem dX8_note_30 : decode cX8_note 30 = .ok (.laload, 1) := by decide +kernel
theorem dX8_note_31 : decode cX8_note 31 = .ok (.lastore, 1) := by decide +kernel
theorem dX8_note_32 : decode cX8_note 32 = .ok (.aload_n 0, 1) := by decide +kernel
theorem dX8_note_33 : decode cX8_note 33 = .ok (.iconst 1, 1) := by decide +kernel
theorem dX8_note_34 : decode cX8_note 34 = .ok (.putfield 7, 3) := by decide +kernel
theorem dX8_note_37 : decode cX8_note 37 = .ok (.aload_n 0, 1) := by decide +kernel
theorem dX8_note_38 : decode cX8_note 38 = .ok (.getfield 13, 3) := by decide +kernel
theorem dX8_note_41 : decode cX8_note 41 = .ok (.aload_n 0, 1) := by decide +kernel
theorem dX8_note_42 : decode cX8_note 42 = .ok (.getfield 7, 3) := by decide +kernel
theorem dX8_note_45 : decode cX8_note 45 = .ok (.lload_n 1, 1) := by decide +kernel
theorem dX8_note_46 : decode cX8_note 46 = .ok (.lastore, 1) := by decide +kernel
theorem dX8_note_47 : decode cX8_note 47 = .ok (.aload_n 0, 1) := by decide +kernel
theorem dX8_note_48 : decode cX8_note 48 = .ok (.getfield 17, 3) := by decide +kernel
theorem dX8_note_51 : decode cX8_note 51 = .ok (.aload_n 0, 1) := by decide +kernel
theorem dX8_note_52 : decode cX8_note 52 = .ok (.getfield 7, 3) := by decide +kernel
theorem dX8_note_55 : decode cX8_note 55 = .ok (.lload_n 3, 1) := by decide +kernel
theorem dX8_note_56 : decode cX8_note 56 = .ok (.lastore, 1) := by decide +kernel
theorem dX8_note_57 : decode cX8_note 57 = .ok (.aload_n 0, 1) := by decide +kernel
theorem dX8_note_58 : decode cX8_note 58 = .ok (.dup, 1) := by decide +kernel
theorem dX8_note_59 : decode cX8_note 59 = .ok (.getfield 7, 3) := by decide +kernel
theorem dX8_note_62 : decode cX8_note 62 = .ok (.iconst 1, 1) := by decide +kernel
theorem dX8_note_63 : decode cX8_note 63 = .ok (.iadd, 1) := by decide +kernel
theorem dX8_note_64 : decode cX8_note 64 = .ok (.putfield 7, 3) := by decide +kernel
theorem dX8_note_67 : decode cX8_note 67 = .ok (.return_, 1) := by decide +kernel
theorem dX9_init_0 : decode cX9_init 0 = .ok (.aload_n 0, 1) := by decide +kernel
theorem dX9_init_1 : decode cX9_init 1 = .ok (.invokespecial 3, 3) := by decide +kernel
theorem dX9_init_4 : decode cX9_init 4 = .ok (.aload_n 0, 1) := by decide +kernel
theorem dX9_init_5 : decode cX9_init 5 = .ok (.iconst 0, 1) := by decide +kernel
theorem dX9_init_6 : decode cX9_init 6 = .ok (.putfield 9, 3) := by decide +kernel
theorem dX9_init_9 : decode cX9_init 9 = .ok (.aload_n 0, 1) := by decide +kernel
theorem dX9_init_10 : decode cX9_init 10 = .ok (.bipush 60, 2) := by decide +kernel
theorem dX9_init_12 : decode cX9_init 12 = .ok (.anewarray 15, 3) := by decide +kernel
theorem dX9_init_15 : decode cX9_init 15 = .ok (.putfield 17, 3) := by decide +kernel
theorem dX9_init_18 : decode cX9_init 18 = .ok (.iconst 0, 1) := by decide +kernel
theorem dX9_init_19 : decode cX9_init 19 = .ok (.istore_n 1, 1) := by decide +kernel
theorem dX9_init_20 : decode cX9_init 20 = .ok (.iload_n 1, 1) := by decide +kernel
theorem dX9_init_21 : decode cX9_init 21 = .ok (.bipush 60, 2) := by decide +kernel
theorem dX9_init_23 : decode cX9_init 23 = .ok (.if_icmp .ge 22, 3) := by decide +kernel
theorem dX9_init_26 : decode cX9_init 26 = .ok (.aload_n 0, 1) := by decide +kernel
theorem dX9_init_27 : decode cX9_init 27 = .ok (.getfield 17, 3) := by decide +kernel
theorem dX9_init_30 : decode cX9_init 30 = .ok (.iload_n 1, 1) := by decide +kernel
theorem dX9_init_31 : decode cX9_init 31 = .ok (.new 15, 3) := by decide +kernel
theorem dX9_init_34 : decode cX9_init 34 = .ok (.dup, 1) := by decide +kernel
theorem dX9_init_35 : decode cX9_init 35 = .ok (.invokespecial 21, 3) := by decide +kernel
theorem dX9_init_38 : decode cX9_init 38 = .ok (.aastore, 1) := by decide +kernel
theorem dX9_init_39 : decode cX9_init 39 = .ok (.iinc 1 1, 3) := by decide +kernel
theorem dX9_init_42 : decode cX9_init 42 = .ok (.goto (-22), 3) := by decide +kernel
theorem dX9_init_45 : decode cX9_init 45 = .ok (.return_, 1) := by decide +kernel
theorem dX9_copyFrom_0 : decode cX9_copyFrom 0 = .ok (.aload_n 0, 1) := by decide +kernel
theorem dX9_copyFrom_1 : decode cX9_copyFrom 1 = .ok (.aload_n 1, 1) := by decide +kernel
theorem dX9_copyFrom_2 : decode cX9_copyFrom 2 = .ok (.getfield 9, 3) := by decide +kernel
theorem dX9_copyFrom_5 : decode cX9_copyFrom 5 = .ok (.putfield 9, 3) := by decide +kernel
theorem dX9_copyFrom_8 : decode cX9_copyFrom 8 = .ok (.iconst 0, 1) := by decide +kernel
theorem dX9_copyFrom_9 : decode cX9_copyFrom 9 = .ok (.istore_n 2, 1) := by decide +kernel
theorem dX9_copyFrom_10 : decode cX9_copyFrom 10 = .ok (.iload_n 2, 1) := by decide +kernel
theorem dX9_copyFrom_11 : decode cX9_copyFrom 11 = .ok (.aload_n 0, 1) := by decide +kernel
theorem dX9_copyFrom_12 : decode cX9_copyFrom 12 = .ok (.getfield 9, 3) := by decide +kernel
theorem dX9_copyFrom_15 : decode cX9_copyFrom 15 = .ok (.if_icmp .ge 30, 3) := by decide +kernel
theorem dX9_copyFrom_18 : decode cX9_copyFrom 18 = .ok (.iload_n 2, 1) := by decide +kernel
theorem dX9_copyFrom_19 : decode cX9_copyFrom 19 = .ok (.bipush 60, 2) := by decide +kernel
theorem dX9_copyFrom_21 : decode cX9_copyFrom 21 = .ok (.if_icmp .ge 24, 3) := by decide +kernel
theorem dX9_copyFrom_24 : decode cX9_copyFrom 24 = .ok (.aload_n 0, 1) := by decide +kernel
theorem dX9_copyFrom_25 : decode cX9_copyFrom 25 = .ok (.getfield 17, 3) := by decide +kernel
theorem dX9_copyFrom_28 : decode cX9_copyFrom 28 = .ok (.iload_n 2, 1) := by decide +kernel
theorem dX9_copyFrom_29 : decode cX9_copyFrom 29 = .ok (.aaload, 1) := by decide +kernel
theorem dX9_copyFrom_30 : decode cX9_copyFrom 30 = .ok (.aload_n 1, 1) := by decide +kernel
theorem dX9_copyFrom_31 : decode cX9_copyFrom 31 = .ok (.getfield 17, 3) := by decide +kernel
theorem dX9_copyFrom_34 : decode cX9_copyFrom 34 = .ok (.iload_n 2, 1) := by decide +kernel
theorem dX9_copyFrom_35 : decode cX9_copyFrom 35 = .ok (.aaload, 1) := by decide +kernel
theorem dX9_copyFrom_36 : decode cX9_copyFrom 36 = .ok (.invokevirtual 22, 3) := by decide +kernel
theorem dX9_copyFrom_39 : decode cX9_copyFrom 39 = .ok (.iinc 2 1, 3) := by decide +kernel
theorem dX9_copyFrom_42 : decode cX9_copyFrom 42 = .ok (.goto (-32), 3) := by decide +kernel
theorem dX9_copyFrom_45 : decode cX9_copyFrom 45 = .ok (.return_, 1) := by decide +kernel
theorem dX9_append_0 : decode cX9_append 0 = .ok (.aload_n 0, 1) := by decide +kernel
theorem dX9_append_1 : decode cX9_append 1 = .ok (.getfield 9, 3) := by decide +kernel
theorem dX9_append_4 : decode cX9_append 4 = .ok (.bipush 59, 2) := by decide +kernel
theorem dX9_append_6 : decode cX9_append 6 = .ok (.invokestatic 26, 3) := by decide +kernel
theorem dX9_append_9 : decode cX9_append 9 = .ok (.istore_n 1, 1) := by decide +kernel
theorem dX9_append_10 : decode cX9_append 10 = .ok (.aload_n 0, 1) := by decide +kernel
theorem dX9_append_11 : decode cX9_append 11 = .ok (.iload_n 1, 1) := by decide +kernel
theorem dX9_append_12 : decode cX9_append 12 = .ok (.iconst 1, 1) := by decide +kernel
theorem dX9_append_13 : decode cX9_append 13 = .ok (.iadd, 1) := by decide +kernel
theorem dX9_append_14 : decode cX9_append 14 = .ok (.putfield 9, 3) := by decide +kernel
theorem dX9_append_17 : decode cX9_append 17 = .ok (.aload_n 0, 1) := by decide +kernel
theorem dX9_append_18 : decode cX9_append 18 = .ok (.getfield 17, 3) := by decide +kernel
theorem dX9_append_21 : decode cX9_append 21 = .ok (.iload_n 1, 1) := by decide +kernel
theorem dX9_append_22 : decode cX9_append 22 = .ok (.aaload, 1) := by decide +kernel
theorem dX9_append_23 : decode cX9_append 23 = .ok (.areturn, 1) := by decide +kernel
theorem dX9_lostFrames_0 : decode cX9_lostFrames 0 = .ok (.iconst 0, 1) := by decide +kernel
theorem dX9_lostFrames_1 : decode cX9_lostFrames 1 = .ok (.istore_n 1, 1) := by decide +kernel
theorem dX9_lostFrames_2 : decode cX9_lostFrames 2 = .ok (.iconst 0, 1) := by decide +kernel
theorem dX9_lostFrames_3 : decode cX9_lostFrames 3 = .ok (.istore_n 2, 1) := by decide +kernel
theorem dX9_lostFrames_4 : decode cX9_lostFrames 4 = .ok (.iload_n 2, 1) := by decide +kernel
theorem dX9_lostFrames_5 : decode cX9_lostFrames 5 = .ok (.aload_n 0, 1) := by decide +kernel
theorem dX9_lostFrames_6 : decode cX9_lostFrames 6 = .ok (.getfield 9, 3) := by decide +kernel
theorem dX9_lostFrames_9 : decode cX9_lostFrames 9 = .ok (.if_icmp .ge 30, 3) := by decide +kernel
theorem dX9_lostFrames_12 : decode cX9_lostFrames 12 = .ok (.iload_n 2, 1) := by decide +kernel
theorem dX9_lostFrames_13 : decode cX9_lostFrames 13 = .ok (.bipush 60, 2) := by decide +kernel
theorem dX9_lostFrames_15 : decode cX9_lostFrames 15 = .ok (.if_icmp .ge 24, 3) := by decide +kernel
theorem dX9_lostFrames_18 : decode cX9_lostFrames 18 = .ok (.aload_n 0, 1) := by decide +kernel
theorem dX9_lostFrames_19 : decode cX9_lostFrames 19 = .ok (.getfield 17, 3) := by decide +kernel
theorem dX9_lostFrames_22 : decode cX9_lostFrames 22 = .ok (.iload_n 2, 1) := by decide +kernel
theorem dX9_lostFrames_23 : decode cX9_lostFrames 23 = .ok (.aaload, 1) := by decide +kernel
theorem dX9_lostFrames_24 : decode cX9_lostFrames 24 = .ok (.getfield 32, 3) := by decide +kernel
theorem dX9_lostFrames_27 : decode cX9_lostFrames 27 = .ok (.ifCond .eq 6, 3) := by decide +kernel
theorem dX9_lostFrames_30 : decode cX9_lostFrames 30 = .ok (.iinc 1 1, 3) := by decide +kernel
theorem dX9_lostFrames_33 : decode cX9_lostFrames 33 = .ok (.iinc 2 1, 3) := by decide +kernel
theorem dX9_lostFrames_36 : decode cX9_lostFrames 36 = .ok (.goto (-32), 3) := by decide +kernel
theorem dX9_lostFrames_39 : decode cX9_lostFrames 39 = .ok (.iload_n 1, 1) := by decide +kernel
theorem dX9_lostFrames_40 : decode cX9_lostFrames 40 = .ok (.ireturn, 1) := by decide +kernel
theorem dX9_removeFirst_0 : decode cX9_removeFirst 0 = .ok (.iconst 0, 1) := by decide +kernel
theorem dX9_removeFirst_1 : decode cX9_removeFirst 1 = .ok (.istore_n 2, 1) := by decide +kernel
theorem dX9_removeFirst_2 : decode cX9_removeFirst 2 = .ok (.iload_n 2, 1) := by decide +kernel
theorem dX9_removeFirst_3 : decode cX9_removeFirst 3 = .ok (.iload_n 1, 1) := by decide +kernel
theorem dX9_removeFirst_4 : decode cX9_removeFirst 4 = .ok (.iadd, 1) := by decide +kernel
theorem dX9_removeFirst_5 : decode cX9_removeFirst 5 = .ok (.aload_n 0, 1) := by decide +kernel
theorem dX9_removeFirst_6 : decode cX9_removeFirst 6 = .ok (.getfield 9, 3) := by decide +kernel
theorem dX9_removeFirst_9 : decode cX9_removeFirst 9 = .ok (.if_icmp .ge 47, 3) := by decide +kernel
theorem dX9_removeFirst_12 : decode cX9_removeFirst 12 = .ok (.iload_n 2, 1) := by decide +kernel
theorem dX9_removeFirst_13 : decode cX9_removeFirst 13 = .ok (.iload_n 1, 1) := by decide +kernel
theorem dX9_removeFirst_14 : decode cX9_removeFirst 14 = .ok (.iadd, 1) := by decide +kernel
theorem dX9_removeFirst_15 : decode cX9_removeFirst 15 = .ok (.bipush 60, 2) := by decide +kernel
theorem dX9_removeFirst_17 : decode cX9_removeFirst 17 = .ok (.if_icmp .ge 39, 3) := by decide +kernel
theorem dX9_removeFirst_20 : decode cX9_removeFirst 20 = .ok (.aload_n 0, 1) := by decide +kernel
theorem dX9_removeFirst_21 : decode cX9_removeFirst 21 = .ok (.getfield 17, 3) := by decide +kernel
theorem dX9_removeFirst_24 : decode cX9_removeFirst 24 = .ok (.iload_n 2, 1) := by decide +kernel
theorem dX9_removeFirst_25 : decode cX9_removeFirst 25 = .ok (.aaload, 1) := by decide +kernel
theorem dX9_removeFirst_26 : decode cX9_removeFirst 26 = .ok (.astore_n 3, 1) := by decide +kernel
theorem dX9_removeFirst_27 : decode cX9_removeFirst 27 = .ok (.aload_n 0, 1) := by decide +kernel
theorem dX9_removeFirst_28 : decode cX9_removeFirst 28 = .ok (.getfield 17, 3) := by decide +kernel
theorem dX9_removeFirst_31 : decode cX9_removeFirst 31 = .ok (.iload_n 2, 1) := by decide +kernel
theorem dX9_removeFirst_32 : decode cX9_removeFirst 32 = .ok (.aload_n 0, 1) := by decide +kernel
theorem dX9_removeFirst_33 : decode cX9_removeFirst 33 = .ok (.getfield 17, 3) := by decide +kernel
theorem dX9_removeFirst_36 : decode cX9_removeFirst 36 = .ok (.iload_n 2, 1) := by decide +kernel
theorem dX9_removeFirst_37 : decode cX9_removeFirst 37 = .ok (.iload_n 1, 1) := by decide +kernel
theorem dX9_removeFirst_38 : decode cX9_removeFirst 38 = .ok (.iadd, 1) := by decide +kernel
theorem dX9_removeFirst_39 : decode cX9_removeFirst 39 = .ok (.aaload, 1) := by decide +kernel
theorem dX9_removeFirst_40 : decode cX9_removeFirst 40 = .ok (.aastore, 1) := by decide +kernel
theorem dX9_removeFirst_41 : decode cX9_removeFirst 41 = .ok (.aload_n 0, 1) := by decide +kernel
theorem dX9_removeFirst_42 : decode cX9_removeFirst 42 = .ok (.getfield 17, 3) := by decide +kernel
theorem dX9_removeFirst_45 : decode cX9_removeFirst 45 = .ok (.iload_n 2, 1) := by decide +kernel
theorem dX9_removeFirst_46 : decode cX9_removeFirst 46 = .ok (.iload_n 1, 1) := by decide +kernel
theorem dX9_removeFirst_47 : decode cX9_removeFirst 47 = .ok (.iadd, 1) := by decide +kernel
theorem dX9_removeFirst_48 : decode cX9_removeFirst 48 = .ok (.aload_n 3, 1) := by decide +kernel
theorem dX9_removeFirst_49 : decode cX9_removeFirst 49 = .ok (.aastore, 1) := by decide +kernel
theorem dX9_removeFirst_50 : decode cX9_removeFirst 50 = .ok (.iinc 2 1, 3) := by decide +kernel
theorem dX9_removeFirst_53 : decode cX9_removeFirst 53 = .ok (.goto (-51), 3) := by decide +kernel
theorem dX9_removeFirst_56 : decode cX9_removeFirst 56 = .ok (.aload_n 0, 1) := by decide +kernel
theorem dX9_removeFirst_57 : decode cX9_removeFirst 57 = .ok (.iconst 0, 1) := by decide +kernel
theorem dX9_removeFirst_58 : decode cX9_removeFirst 58 = .ok (.aload_n 0, 1) := by decide +kernel
theorem dX9_removeFirst_59 : decode cX9_removeFirst 59 = .ok (.getfield 9, 3) := by decide +kernel
theorem dX9_removeFirst_62 : decode cX9_removeFirst 62 = .ok (.iload_n 1, 1) := by decide +kernel
theorem dX9_removeFirst_63 : decode cX9_removeFirst 63 = .ok (.isub, 1) := by decide +kernel
theorem dX9_removeFirst_64 : decode cX9_removeFirst 64 = .ok (.invokestatic 36, 3) := by decide +kernel
theorem dX9_removeFirst_67 : decode cX9_removeFirst 67 = .ok (.putfield 9, 3) := by decide +kernel
theorem dX9_removeFirst_70 : decode cX9_removeFirst 70 = .ok (.return_, 1) := by decide +kernel
theorem dJ9_floorDiv_f86c9_0 : decode cJ9_floorDiv_f86c9 0 = .ok (.lload_n 0, 1) := by decide +kernel
theorem dJ9_floorDiv_f86c9_1 : decode cJ9_floorDiv_f86c9 1 = .ok (.lload_n 2, 1) := by decide +kernel
theorem dJ9_floorDiv_f86c9_2 : decode cJ9_floorDiv_f86c9 2 = .ok (.ldiv, 1) := by decide +kernel
theorem dJ9_floorDiv_f86c9_3 : decode cJ9_floorDiv_f86c9 3 = .ok (.lstore 4, 2) := by decide +kernel
theorem dJ9_floorDiv_f86c9_5 : decode cJ9_floorDiv_f86c9 5 = .ok (.lload_n 0, 1) := by decide +kernel
theorem dJ9_floorDiv_f86c9_6 : decode cJ9_floorDiv_f86c9 6 = .ok (.lload_n 2, 1) := by decide +kernel
theorem dJ9_floorDiv_f86c9_7 : decode cJ9_floorDiv_f86c9 7 = .ok (.lxor, 1) := by decide +kernel
theorem dJ9_floorDiv_f86c9_8 : decode cJ9_floorDiv_f86c9 8 = .ok (.lconst 0, 1) := by decide +kernel
theorem dJ9_floorDiv_f86c9_9 : decode cJ9_floorDiv_f86c9 9 = .ok (.lcmp, 1) := by decide +kernel
theorem dJ9_floorDiv_f86c9_10 : decode cJ9_floorDiv_f86c9 10 = .ok (.ifCond .ge 17, 3) := by decide +kernel
theorem dJ9_floorDiv_f86c9_13 : decode cJ9_floorDiv_f86c9 13 = .ok (.lload 4, 2) := by decide +kernel
theorem dJ9_floorDiv_f86c9_15 : decode cJ9_floorDiv_f86c9 15 = .ok (.lload_n 2, 1) := by decide +kernel
theorem dJ9_floorDiv_f86c9_16 : decode cJ9_floorDiv_f86c9 16 = .ok (.lmul, 1) := by decide +kernel
theorem dJ9_floorDiv_f86c9_17 : decode cJ9_floorDiv_f86c9 17 = .ok (.lload_n 0, 1) := by decide +kernel
theorem dJ9_floorDiv_f86c9_18 : decode cJ9_floorDiv_f86c9 18 = .ok (.lcmp, 1) := by decide +kernel
theorem dJ9_floorDiv_f86c9_19 : decode cJ9_floorDiv_f86c9 19 = .ok (.ifCond .eq 8, 3) := by decide +kernel
theorem dJ9_floorDiv_f86c9_22 : decode cJ9_floorDiv_f86c9 22 = .ok (.lload 4, 2) := by decide +kernel
theorem dJ9_floorDiv_f86c9_24 : decode cJ9_floorDiv_f86c9 24 = .ok (.lconst 1, 1) := by decide +kernel
theorem dJ9_floorDiv_f86c9_25 : decode cJ9_floorDiv_f86c9 25 = .ok (.lsub, 1) := by decide +kernel
theorem dJ9_floorDiv_f86c9_26 : decode cJ9_floorDiv_f86c9 26 = .ok (.lreturn, 1) := by decide +kernel
theorem dJ9_floorDiv_f86c9_27 : decode cJ9_floorDiv_f86c9 27 = .ok (.lload 4, 2) := by decide +kernel
theorem dJ9_floorDiv_f86c9_29 : decode cJ9_floorDiv_f86c9 29 = .ok (.lreturn, 1) := by decide +kernel
theorem dJ9_max_7cf53_0 : decode cJ9_max_7cf53 0 = .ok (.iload_n 0, 1) := by decide +kernel
theorem dJ9_max_7cf53_1 : decode cJ9_max_7cf53 1 = .ok (.iload_n 1, 1) := by decide +kernel
theorem dJ9_max_7cf53_2 : decode cJ9_max_7cf53 2 = .ok (.if_icmp .lt 7, 3) := by decide +kernel
theorem dJ9_max_7cf53_5 : decode cJ9_max_7cf53 5 = .ok (.iload_n 0, 1) := by decide +kernel
theorem dJ9_max_7cf53_6 : decode cJ9_max_7cf53 6 = .ok (.goto 4, 3) := by decide +kernel
theorem dJ9_max_7cf53_9 : decode cJ9_max_7cf53 9 = .ok (.iload_n 1, 1) := by decide +kernel
theorem dJ9_max_7cf53_10 : decode cJ9_max_7cf53 10 = .ok (.ireturn, 1) := by decide +kernel
theorem dJ9_min_7cf53_0 : decode cJ9_min_7cf53 0 = .ok (.iload_n 0, 1) := by decide +kernel
theorem dJ9_min_7cf53_1 : decode cJ9_min_7cf53 1 = .ok (.iload_n 1, 1) := by decide +kernel
theorem dJ9_min_7cf53_2 : decode cJ9_min_7cf53 2 = .ok (.if_icmp .gt 7, 3) := by decide +kernel
theorem dJ9_min_7cf53_5 : decode cJ9_min_7cf53 5 = .ok (.iload_n 0, 1) := by decide +kernel
theorem dJ9_min_7cf53_6 : decode cJ9_min_7cf53 6 = .ok (.goto 4, 3) := by decide +kernel
theorem dJ9_min_7cf53_9 : decode cJ9_min_7cf53 9 = .ok (.iload_n 1, 1) := by decide +kernel
theorem dJ9_min_7cf53_10 : decode cJ9_min_7cf53 10 = .ok (.ireturn, 1) := by decide +kernel
end
section
theorem dX10_init_0 : decode cX10_init 0 = .ok (.aload_n 0, 1) := by decide +kernel
theorem dX10_init_1 : decode cX10_init 1 = .ok (.invokespecial 1, 3) := by decide +kernel
theorem dX10_init_4 : decode cX10_init 4 = .ok (.aload_n 0, 1) := by decide +kernel
theorem dX10_init_5 : decode cX10_init 5 = .ok (.new 7, 3) := by decide +kernel
theorem dX10_init_8 : decode cX10_init 8 = .ok (.dup, 1) := by decide +kernel
theorem dX10_init_9 : decode cX10_init 9 = .ok (.invokespecial 9, 3) := by decide +kernel
theorem dX10_init_12 : decode cX10_init 12 = .ok (.putfield 10, 3) := by decide +kernel
theorem dX10_init_15 : decode cX10_init 15 = .ok (.aload_n 0, 1) := by decide +kernel
theorem dX10_init_16 : decode cX10_init 16 = .ok (.iconst 3, 1) := by decide +kernel
theorem dX10_init_17 : decode cX10_init 17 = .ok (.anewarray 7, 3) := by decide +kernel
theorem dX10_init_20 : decode cX10_init 20 = .ok (.putfield 16, 3) := by decide +kernel
theorem dX10_init_23 : decode cX10_init 23 = .ok (.iconst 0, 1) := by decide +kernel
theorem dX10_init_24 : decode cX10_init 24 = .ok (.istore_n 1, 1) := by decide +kernel
theorem dX10_init_25 : decode cX10_init 25 = .ok (.iload_n 1, 1) := by decide +kernel
theorem dX10_init_26 : decode cX10_init 26 = .ok (.iconst 3, 1) := by decide +kernel
theorem dX10_init_27 : decode cX10_init 27 = .ok (.if_icmp .ge 22, 3) := by decide +kernel
theorem dX10_init_30 : decode cX10_init 30 = .ok (.aload_n 0, 1) := by decide +kernel
theorem dX10_init_31 : decode cX10_init 31 = .ok (.getfield 16, 3) := by decide +kernel
theorem dX10_init_34 : decode cX10_init 34 = .ok (.iload_n 1, 1) := by decide +kernel
theorem dX10_init_35 : decode cX10_init 35 = .ok (.new 7, 3) := by decide +kernel
theorem dX10_init_38 : decode cX10_init 38 = .ok (.dup, 1) := by decide +kernel
theorem dX10_init_39 : decode cX10_init 39 = .ok (.invokespecial 9, 3) := by decide +kernel
theorem dX10_init_42 : decode cX10_init 42 = .ok (.aastore, 1) := by decide +kernel
theorem dX10_init_43 : decode cX10_init 43 = .ok (.iinc 1 1, 3) := by decide +kernel
theorem dX10_init_46 : decode cX10_init 46 = .ok (.goto (-21), 3) := by decide +kernel
theorem dX10_init_49 : decode cX10_init 49 = .ok (.aload_n 0, 1) := by decide +kernel
theorem dX10_init_50 : decode cX10_init 50 = .ok (.iconst 0, 1) := by decide +kernel
theorem dX10_init_51 : decode cX10_init 51 = .ok (.putfield 20, 3) := by decide +kernel
theorem dX10_init_54 : decode cX10_init 54 = .ok (.return_, 1) := by decide +kernel
theorem dX10_setFrameLength_0 : decode cX10_setFrameLength 0 = .ok (.iload_n 1, 1) := by decide +kernel
theorem dX10_setFrameLength_1 : decode cX10_setFrameLength 1 = .ok (.bipush 8, 2) := by decide +kernel
theorem dX10_setFrameLength_3 : decode cX10_setFrameLength 3 = .ok (.bipush 40, 2) := by decide +kernel
theorem dX10_setFrameLength_5 : decode cX10_setFrameLength 5 = .ok (.invokestatic 24, 3) := by decide +kernel
theorem dX10_setFrameLength_8 : decode cX10_setFrameLength 8 = .ok (.ifCond .eq 13, 3) := by decide +kernel
theorem dX10_setFrameLength_11 : decode cX10_setFrameLength 11 = .ok (.new 28, 3) := by decide +kernel
theorem dX10_setFrameLength_14 : decode cX10_setFrameLength 14 = .ok (.dup, 1) := by decide +kernel
theorem dX10_setFrameLength_15 : decode cX10_setFrameLength 15 = .ok (.ldc 30, 2) := by decide +kernel
theorem dX10_setFrameLength_17 : decode cX10_setFrameLength 17 = .ok (.invokespecial 32, 3) := by decide +kernel
theorem dX10_setFrameLength_20 : decode cX10_setFrameLength 20 = .ok (.athrow, 1) := by decide +kernel
theorem dX10_setFrameLength_21 : decode cX10_setFrameLength 21 = .ok (.aload_n 0, 1) := by decide +kernel
theorem dX10_setFrameLength_22 : decode cX10_setFrameLength 22 = .ok (.getfield 10, 3) := by decide +kernel
theorem dX10_setFrameLength_25 : decode cX10_setFrameLength 25 = .ok (.invokevirtual 35, 3) := by decide +kernel
theorem dX10_setFrameLength_28 : decode cX10_setFrameLength 28 = .ok (.ifCond .eq 13, 3) := by decide +kernel
theorem dX10_setFrameLength_31 : decode cX10_setFrameLength 31 = .ok (.new 39, 3) := by decide +kernel
theorem dX10_setFrameLength_34 : decode cX10_setFrameLength 34 = .ok (.dup, 1) := by decide +kernel
theorem dX10_setFrameLength_35 : decode cX10_setFrameLength 35 = .ok (.ldc 41, 2) := by decide +kernel
theorem dX10_setFrameLength_37 : decode cX10_setFrameLength 37 = .ok (.invokespecial 43, 3) := by decide +kernel
theorem dX10_setFrameLength_40 : decode cX10_setFrameLength 40 = .ok (.athrow, 1) := by decide +kernel
theorem dX10_setFrameLength_41 : decode cX10_setFrameLength 41 = .ok (.aload_n 0, 1) := by decide +kernel
theorem dX10_setFrameLength_42 : decode cX10_setFrameLength 42 = .ok (.invokevirtual 44, 3) := by decide +kernel
theorem dX10_setFrameLength_45 : decode cX10_setFrameLength 45 = .ok (.aload_n 0, 1) := by decide +kernel
theorem dX10_setFrameLength_46 : decode cX10_setFrameLength 46 = .ok (.getfield 10, 3) := by decide +kernel
theorem dX10_setFrameLength_49 : decode cX10_setFrameLength 49 = .ok (.getfield 47, 3) := by decide +kernel
theorem dX10_setFrameLength_52 : decode cX10_setFrameLength 52 = .ok (.istore_n 2, 1) := by decide +kernel
theorem dX10_setFrameLength_53 : decode cX10_setFrameLength 53 = .ok (.aload_n 0, 1) := by decide +kernel
theorem dX10_setFrameLength_54 : decode cX10_setFrameLength 54 = .ok (.getfield 10, 3) := by decide +kernel
theorem dX10_setFrameLength_57 : decode cX10_setFrameLength 57 = .ok (.iload_n 1, 1) := by decide +kernel
theorem dX10_setFrameLength_58 : decode cX10_setFrameLength 58 = .ok (.putfield 47, 3) := by decide +kernel
theorem dX10_setFrameLength_61 : decode cX10_setFrameLength 61 = .ok (.iload_n 2, 1) := by decide +kernel
theorem dX10_setFrameLength_62 : decode cX10_setFrameLength 62 = .ok (.ireturn, 1) := by decide +kernel
theorem dX10_setChannel_0 : decode cX10_setChannel 0 = .ok (.iload_n 1, 1) := by decide +kernel
theorem dX10_setChannel_1 : decode cX10_setChannel 1 = .ok (.iconst 0, 1) := by decide +kernel
theorem dX10_setChannel_2 : decode cX10_setChannel 2 = .ok (.iconst 3, 1) := by decide +kernel
theorem dX10_setChannel_3 : decode cX10_setChannel 3 = .ok (.invokestatic 24, 3) := by decide +kernel
theorem dX10_setChannel_6 : decode cX10_setChannel 6 = .ok (.ifCond .eq 13, 3) := by decide +kernel
theorem dX10_setChannel_9 : decode cX10_setChannel 9 = .ok (.new 50, 3) := by decide +kernel
theorem dX10_setChannel_12 : decode cX10_setChannel 12 = .ok (.dup, 1) := by decide +kernel
theorem dX10_setChannel_13 : decode cX10_setChannel 13 = .ok (.ldc 52, 2) := by decide +kernel
theorem dX10_setChannel_15 : decode cX10_setChannel 15 = .ok (.invokespecial 54, 3) := by decide +kernel
theorem dX10_setChannel_18 : decode cX10_setChannel 18 = .ok (.athrow, 1) := by decide +kernel
theorem dX10_setChannel_19 : decode cX10_setChannel 19 = .ok (.iload_n 2, 1) := by decide +kernel
theorem dX10_setChannel_20 : decode cX10_setChannel 20 = .ok (.iconst 0, 1) := by decide +kernel
theorem dX10_setChannel_21 : decode cX10_setChannel 21 = .ok (.bipush 9, 2) := by decide +kernel
theorem dX10_setChannel_23 : decode cX10_setChannel 23 = .ok (.invokestatic 24, 3) := by decide +kernel
theorem dX10_setChannel_26 : decode cX10_setChannel 26 = .ok (.ifCond .ne 24, 3) := by decide +kernel
theorem dX10_setChannel_29 : decode cX10_setChannel 29 = .ok (.iload_n 3, 1) := by decide +kernel
theorem dX10_setChannel_30 : decode cX10_setChannel 30 = .ok (.iconst 0, 1) := by decide +kernel
theorem dX10_setChannel_31 : decode cX10_setChannel 31 = .ok (.bipush 50, 2) := by decide +kernel
theorem dX10_setChannel_33 : decode cX10_setChannel 33 = .ok (.invokestatic 24, 3) := by decide +kernel
theorem dX10_setChannel_36 : decode cX10_setChannel 36 = .ok (.ifCond .ne 14, 3) := by decide +kernel
theorem dX10_setChannel_39 : decode cX10_setChannel 39 = .ok (.iload 4, 2) := by decide +kernel
theorem dX10_setChannel_41 : decode cX10_setChannel 41 = .ok (.iconst 0, 1) := by decide +kernel
theorem dX10_setChannel_42 : decode cX10_setChannel 42 = .ok (.bipush 50, 2) := by decide +kernel
theorem dX10_setChannel_44 : decode cX10_setChannel 44 = .ok (.invokestatic 24, 3) := by decide +kernel
theorem dX10_setChannel_47 : decode cX10_setChannel 47 = .ok (.ifCond .eq 13, 3) := by decide +kernel
theorem dX10_setChannel_50 : decode cX10_setChannel 50 = .ok (.new 28, 3) := by decide +kernel
theorem dX10_setChannel_53 : decode cX10_setChannel 53 = .ok (.dup, 1) := by decide +kernel
theorem dX10_setChannel_54 : decode cX10_setChannel 54 = .ok (.ldc 55, 2) := by decide +kernel
theorem dX10_setChannel_56 : decode cX10_setChannel 56 = .ok (.invokespecial 32, 3) := by decide +kernel
theorem dX10_setChannel_59 : decode cX10_setChannel 59 = .ok (.athrow, 1) := by decide +kernel
theorem dX10_setChannel_60 : decode cX10_setChannel 60 = .ok (.aload_n 0, 1) := by decide +kernel
theorem dX10_setChannel_61 : decode cX10_setChannel 61 = .ok (.invokevirtual 44, 3) := by decide +kernel
theorem dX10_setChannel_64 : decode cX10_setChannel 64 = .ok (.aload_n 0, 1) := by decide +kernel
theorem dX10_setChannel_65 : decode cX10_setChannel 65 = .ok (.getfield 10, 3) := by decide +kernel
theorem dX10_setChannel_68 : decode cX10_setChannel 68 = .ok (.getfield 57, 3) := by decide +kernel
theorem dX10_setChannel_71 : decode cX10_setChannel 71 = .ok (.iload_n 1, 1) := by decide +kernel
theorem dX10_setChannel_72 : decode cX10_setChannel 72 = .ok (.aaload, 1) := by decide +kernel
theorem dX10_setChannel_73 : decode cX10_setChannel 73 = .ok (.astore 5, 2) := by decide +kernel
theorem dX10_setChannel_75 : decode cX10_setChannel 75 = .ok (.aload 5, 2) := by decide +kernel
theorem dX10_setChannel_77 : decode cX10_setChannel 77 = .ok (.getfield 61, 3) := by decide +kernel
theorem dX10_setChannel_80 : decode cX10_setChannel 80 = .ok (.istore 6, 2) := by decide +kernel
theorem dX10_setChannel_82 : decode cX10_setChannel 82 = .ok (.aload 5, 2) := by decide +kernel
theorem dX10_setChannel_84 : decode cX10_setChannel 84 = .ok (.iload_n 2, 1) := by decide +kernel
theorem dX10_setChannel_85 : decode cX10_setChannel 85 = .ok (.putfield 61, 3) := by decide +kernel
theorem dX10_setChannel_88 : decode cX10_setChannel 88 = .ok (.aload 5, 2) := by decide +kernel
theorem dX10_setChannel_90 : decode cX10_setChannel 90 = .ok (.iload_n 3, 1) := by decide +kernel
theorem dX10_setChannel_91 : decode cX10_setChannel 91 = .ok (.putfield 66, 3) := by decide +kernel
theorem dX10_setChannel_94 : decode cX10_setChannel 94 = .ok (.aload 5, 2) := by decide +kernel
theorem dX10_setChannel_96 : decode cX10_setChannel 96 = .ok (.iload 4, 2) := by decide +kernel
theorem dX10_setChannel_98 : decode cX10_setChannel 98 = .ok (.putfield 69, 3) := by decide +kernel
theorem dX10_setChannel_101 : decode cX10_setChannel 101 = .ok (.iload 6, 2) := by decide +kernel
theorem dX10_setChannel_103 : decode cX10_setChannel 103 = .ok (.ireturn, 1) := by decide +kernel
theorem dX10_setClock_0 : decode cX10_setClock 0 = .ok (.iload_n 1, 1) := by decide +kernel
theorem dX10_setClock_1 : decode cX10_setClock 1 = .ok (.sipush (-1000), 3) := by decide +kernel
theorem dX10_setClock_4 : decode cX10_setClock 4 = .ok (.sipush 1000, 3) := by decide +kernel
theorem dX10_setClock_7 : decode cX10_setClock 7 = .ok (.invokestatic 24, 3) := by decide +kernel
theorem dX10_setClock_10 : decode cX10_setClock 10 = .ok (.ifCond .ne 13, 3) := by decide +kernel
theorem dX10_setClock_13 : decode cX10_setClock 13 = .ok (.iload_n 2, 1) := by decide +kernel
theorem dX10_setClock_14 : decode cX10_setClock 14 = .ok (.iconst 0, 1) := by decide +kernel
theorem dX10_setClock_15 : decode cX10_setClock 15 = .ok (.ldc 72, 2) := by decide +kernel
theorem dX10_setClock_17 : decode cX10_setClock 17 = .ok (.invokestatic 24, 3) := by decide +kernel
theorem dX10_setClock_20 : decode cX10_setClock 20 = .ok (.ifCond .eq 13, 3) := by decide +kernel
theorem dX10_setClock_23 : decode cX10_setClock 23 = .ok (.new 28, 3) := by decide +kernel
theorem dX10_setClock_26 : decode cX10_setClock 26 = .ok (.dup, 1) := by decide +kernel
theorem dX10_setClock_27 : decode cX10_setClock 27 = .ok (.ldc 73, 2) := by decide +kernel
theorem dX10_setClock_29 : decode cX10_setClock 29 = .ok (.invokespecial 32, 3) := by decide +kernel
theorem dX10_setClock_32 : decode cX10_setClock 32 = .ok (.athrow, 1) := by decide +kernel
theorem dX10_setClock_33 : decode cX10_setClock 33 = .ok (.aload_n 0, 1) := by decide +kernel
theorem dX10_setClock_34 : decode cX10_setClock 34 = .ok (.invokevirtual 44, 3) := by decide +kernel
theorem dX10_setClock_37 : decode cX10_setClock 37 = .ok (.aload_n 0, 1) := by decide +kernel
theorem dX10_setClock_38 : decode cX10_setClock 38 = .ok (.getfield 10, 3) := by decide +kernel
theorem dX10_setClock_41 : decode cX10_setClock 41 = .ok (.getfield 75, 3) := by decide +kernel
theorem dX10_setClock_44 : decode cX10_setClock 44 = .ok (.istore_n 3, 1) := by decide +kernel
theorem dX10_setClock_45 : decode cX10_setClock 45 = .ok (.aload_n 0, 1) := by decide +kernel
theorem dX10_setClock_46 : decode cX10_setClock 46 = .ok (.getfield 10, 3) := by decide +kernel
theorem dX10_setClock_49 : decode cX10_setClock 49 = .ok (.iload_n 1, 1) := by decide +kernel
theorem dX10_setClock_50 : decode cX10_setClock 50 = .ok (.putfield 75, 3) := by decide +kernel
theorem dX10_setClock_53 : decode cX10_setClock 53 = .ok (.aload_n 0, 1) := by decide +kernel
theorem dX10_setClock_54 : decode cX10_setClock 54 = .ok (.getfield 10, 3) := by decide +kernel
theorem dX10_setClock_57 : decode cX10_setClock 57 = .ok (.iload_n 2, 1) := by decide +kernel
theorem dX10_setClock_58 : decode cX10_setClock 58 = .ok (.putfield 78, 3) := by decide +kernel
theorem dX10_setClock_61 : decode cX10_setClock 61 = .ok (.iload_n 3, 1) := by decide +kernel
theorem dX10_setClock_62 : decode cX10_setClock 62 = .ok (.ireturn, 1) := by decide +kernel
theorem dX10_addPacket_0 : decode cX10_addPacket 0 = .ok (.iload_n 1, 1) := by decide +kernel
theorem dX10_addPacket_1 : decode cX10_addPacket 1 = .ok (.iconst 0, 1) := by decide +kernel
theorem dX10_addPacket_2 : decode cX10_addPacket 2 = .ok (.iconst 3, 1) := by decide +kernel
theorem dX10_addPacket_3 : decode cX10_addPacket 3 = .ok (.invokestatic 24, 3) := by decide +kernel
theorem dX10_addPacket_6 : decode cX10_addPacket 6 = .ok (.ifCond .eq 13, 3) := by decide +kernel
theorem dX10_addPacket_9 : decode cX10_addPacket 9 = .ok (.new 50, 3) := by decide +kernel
theorem dX10_addPacket_12 : decode cX10_addPacket 12 = .ok (.dup, 1) := by decide +kernel
theorem dX10_addPacket_13 : decode cX10_addPacket 13 = .ok (.ldc 52, 2) := by decide +kernel
theorem dX10_addPacket_15 : decode cX10_addPacket 15 = .ok (.invokespecial 54, 3) := by decide +kernel
theorem dX10_addPacket_18 : decode cX10_addPacket 18 = .ok (.athrow, 1) := by decide +kernel
theorem dX10_addPacket_19 : decode cX10_addPacket 19 = .ok (.iload_n 2, 1) := by decide +kernel
theorem dX10_addPacket_20 : decode cX10_addPacket 20 = .ok (.iconst 0, 1) := by decide +kernel
theorem dX10_addPacket_21 : decode cX10_addPacket 21 = .ok (.bipush 14, 2) := by decide +kernel
theorem dX10_addPacket_23 : decode cX10_addPacket 23 = .ok (.invokestatic 24, 3) := by decide +kernel
theorem dX10_addPacket_26 : decode cX10_addPacket 26 = .ok (.ifCond .ne 25, 3) := by decide +kernel
theorem dX10_addPacket_29 : decode cX10_addPacket 29 = .ok (.iload_n 3, 1) := by decide +kernel
theorem dX10_addPacket_30 : decode cX10_addPacket 30 = .ok (.iconst 1, 1) := by decide +kernel
theorem dX10_addPacket_31 : decode cX10_addPacket 31 = .ok (.bipush 50, 2) := by decide +kernel
theorem dX10_addPacket_33 : decode cX10_addPacket 33 = .ok (.invokestatic 24, 3) := by decide +kernel
theorem dX10_addPacket_36 : decode cX10_addPacket 36 = .ok (.ifCond .ne 15, 3) := by decide +kernel
theorem dX10_addPacket_39 : decode cX10_addPacket 39 = .ok (.iload 4, 2) := by decide +kernel
theorem dX10_addPacket_41 : decode cX10_addPacket 41 = .ok (.iconst 0, 1) := by decide +kernel
theorem dX10_addPacket_42 : decode cX10_addPacket 42 = .ok (.sipush 255, 3) := by decide +kernel
theorem dX10_addPacket_45 : decode cX10_addPacket 45 = .ok (.invokestatic 24, 3) := by decide +kernel
theorem dX10_addPacket_48 : decode cX10_addPacket 48 = .ok (.ifCond .eq 13, 3) := by decide +kernel
theorem dX10_addPacket_51 : decode cX10_addPacket 51 = .ok (.new 28, 3) := by decide +kernel
theorem dX10_addPacket_54 : decode cX10_addPacket 54 = .ok (.dup, 1) := by decide +kernel
theorem dX10_addPacket_55 : decode cX10_addPacket 55 = .ok (.ldc 81, 2) := by decide +kernel
theorem dX10_addPacket_57 : decode cX10_addPacket 57 = .ok (.invokespecial 32, 3) := by decide +kernel
theorem dX10_addPacket_60 : decode cX10_addPacket 60 = .ok (.athrow, 1) := by decide +kernel
theorem dX10_addPacket_61 : decode cX10_addPacket 61 = .ok (.aload_n 0, 1) := by decide +kernel
theorem dX10_addPacket_62 : decode cX10_addPacket 62 = .ok (.getfield 10, 3) := by decide +kernel
theorem dX10_addPacket_65 : decode cX10_addPacket 65 = .ok (.getfield 57, 3) := by decide +kernel
theorem dX10_addPacket_68 : decode cX10_addPacket 68 = .ok (.iload_n 1, 1) := by decide +kernel
theorem dX10_addPacket_69 : decode cX10_addPacket 69 = .ok (.aaload, 1) := by decide +kernel
theorem dX10_addPacket_70 : decode cX10_addPacket 70 = .ok (.invokevirtual 83, 3) := by decide +kernel
theorem dX10_addPacket_73 : decode cX10_addPacket 73 = .ok (.bipush 12, 2) := by decide +kernel
theorem dX10_addPacket_75 : decode cX10_addPacket 75 = .ok (.if_icmp .lt 13, 3) := by decide +kernel
theorem dX10_addPacket_78 : decode cX10_addPacket 78 = .ok (.new 39, 3) := by decide +kernel
theorem dX10_addPacket_81 : decode cX10_addPacket 81 = .ok (.dup, 1) := by decide +kernel
theorem dX10_addPacket_82 : decode cX10_addPacket 82 = .ok (.ldc 87, 2) := by decide +kernel
theorem dX10_addPacket_84 : decode cX10_addPacket 84 = .ok (.invokespecial 43, 3) := by decide +kernel
theorem dX10_addPacket_87 : decode cX10_addPacket 87 = .ok (.athrow, 1) := by decide +kernel
theorem dX10_addPacket_88 : decode cX10_addPacket 88 = .ok (.aload_n 0, 1) := by decide +kernel
theorem dX10_addPacket_89 : decode cX10_addPacket 89 = .ok (.invokevirtual 44, 3) := by decide +kernel
theorem dX10_addPacket_92 : decode cX10_addPacket 92 = .ok (.aload_n 0, 1) := by decide +kernel
theorem dX10_addPacket_93 : decode cX10_addPacket 93 = .ok (.getfield 10, 3) := by decide +kernel
theorem dX10_addPacket_96 : decode cX10_addPacket 96 = .ok (.iload_n 1, 1) := by decide +kernel
theorem dX10_addPacket_97 : decode cX10_addPacket 97 = .ok (.iload_n 2, 1) := by decide +kernel
theorem dX10_addPacket_98 : decode cX10_addPacket 98 = .ok (.iload_n 3, 1) := by decide +kernel
theorem dX10_addPacket_99 : decode cX10_addPacket 99 = .ok (.iload 4, 2) := by decide +kernel
theorem dX10_addPacket_101 : decode cX10_addPacket 101 = .ok (.invokevirtual 89, 3) := by decide +kernel
theorem dX10_addPacket_104 : decode cX10_addPacket 104 = .ok (.ireturn, 1) := by decide +kernel
theorem dX10_queue_0 : decode cX10_queue 0 = .ok (.iload_n 1, 1) := by decide +kernel
theorem dX10_queue_1 : decode cX10_queue 1 = .ok (.iconst 0, 1) := by decide +kernel
theorem dX10_queue_2 : decode cX10_queue 2 = .ok (.iconst 3, 1) := by decide +kernel
theorem dX10_queue_3 : decode cX10_queue 3 = .ok (.invokestatic 24, 3) := by decide +kernel
theorem dX10_queue_6 : decode cX10_queue 6 = .ok (.ifCond .eq 13, 3) := by decide +kernel
theorem dX10_queue_9 : decode cX10_queue 9 = .ok (.new 50, 3) := by decide +kernel
theorem dX10_queue_12 : decode cX10_queue 12 = .ok (.dup, 1) := by decide +kernel
theorem dX10_queue_13 : decode cX10_queue 13 = .ok (.ldc 52, 2) := by decide +kernel
theorem dX10_queue_15 : decode cX10_queue 15 = .ok (.invokespecial 54, 3) := by decide +kernel
theorem dX10_queue_18 : decode cX10_queue 18 = .ok (.athrow, 1) := by decide +kernel
theorem dX10_queue_19 : decode cX10_queue 19 = .ok (.aload_n 0, 1) := by decide +kernel
theorem dX10_queue_20 : decode cX10_queue 20 = .ok (.getfield 10, 3) := by decide +kernel
theorem dX10_queue_23 : decode cX10_queue 23 = .ok (.getfield 57, 3) := by decide +kernel
theorem dX10_queue_26 : decode cX10_queue 26 = .ok (.iload_n 1, 1) := by decide +kernel
theorem dX10_queue_27 : decode cX10_queue 27 = .ok (.aaload, 1) := by decide +kernel
theorem dX10_queue_28 : decode cX10_queue 28 = .ok (.astore_n 3, 1) := by decide +kernel
theorem dX10_queue_29 : decode cX10_queue 29 = .ok (.iload_n 2, 1) := by decide +kernel
theorem dX10_queue_30 : decode cX10_queue 30 = .ok (.tableswitch 41 0 2 #[26, 31, 36], 26) := by decide +kernel
theorem dX10_queue_56 : decode cX10_queue 56 = .ok (.aload_n 3, 1) := by decide +kernel
theorem dX10_queue_57 : decode cX10_queue 57 = .ok (.invokevirtual 83, 3) := by decide +kernel
theorem dX10_queue_60 : decode cX10_queue 60 = .ok (.ireturn, 1) := by decide +kernel
theorem dX10_queue_61 : decode cX10_queue 61 = .ok (.aload_n 3, 1) := by decide +kernel
theorem dX10_queue_62 : decode cX10_queue 62 = .ok (.getfield 93, 3) := by decide +kernel
theorem dX10_queue_65 : decode cX10_queue 65 = .ok (.ireturn, 1) := by decide +kernel
theorem dX10_queue_66 : decode cX10_queue 66 = .ok (.aload_n 3, 1) := by decide +kernel
theorem dX10_queue_67 : decode cX10_queue 67 = .ok (.getfield 96, 3) := by decide +kernel
theorem dX10_queue_70 : decode cX10_queue 70 = .ok (.ireturn, 1) := by decide +kernel
theorem dX10_queue_71 : decode cX10_queue 71 = .ok (.new 28, 3) := by decide +kernel
theorem dX10_queue_74 : decode cX10_queue 74 = .ok (.dup, 1) := by decide +kernel
theorem dX10_queue_75 : decode cX10_queue 75 = .ok (.ldc 99, 2) := by decide +kernel
theorem dX10_queue_77 : decode cX10_queue 77 = .ok (.invokespecial 32, 3) := by decide +kernel
theorem dX10_queue_80 : decode cX10_queue 80 = .ok (.athrow, 1) := by decide +kernel
theorem dX10_nextChannel_0 : decode cX10_nextChannel 0 = .ok (.aload_n 0, 1) := by decide +kernel
theorem dX10_nextChannel_1 : decode cX10_nextChannel 1 = .ok (.getfield 10, 3) := by decide +kernel
theorem dX10_nextChannel_4 : decode cX10_nextChannel 4 = .ok (.invokevirtual 101, 3) := by decide +kernel
theorem dX10_nextChannel_7 : decode cX10_nextChannel 7 = .ok (.ireturn, 1) := by decide +kernel
theorem dX10_send_0 : decode cX10_send 0 = .ok (.iload_n 1, 1) := by decide +kernel
theorem dX10_send_1 : decode cX10_send 1 = .ok (.iconst 1, 1) := by decide +kernel
theorem dX10_send_2 : decode cX10_send 2 = .ok (.bipush 60, 2) := by decide +kernel
theorem dX10_send_4 : decode cX10_send 4 = .ok (.invokestatic 24, 3) := by decide +kernel
theorem dX10_send_7 : decode cX10_send 7 = .ok (.ifCond .eq 13, 3) := by decide +kernel
theorem dX10_send_10 : decode cX10_send 10 = .ok (.new 28, 3) := by decide +kernel
theorem dX10_send_13 : decode cX10_send 13 = .ok (.dup, 1) := by decide +kernel
theorem dX10_send_14 : decode cX10_send 14 = .ok (.ldc 104, 2) := by decide +kernel
theorem dX10_send_16 : decode cX10_send 16 = .ok (.invokespecial 32, 3) := by decide +kernel
theorem dX10_send_19 : decode cX10_send 19 = .ok (.athrow, 1) := by decide +kernel
theorem dX10_send_20 : decode cX10_send 20 = .ok (.aload_n 0, 1) := by decide +kernel
theorem dX10_send_21 : decode cX10_send 21 = .ok (.getfield 10, 3) := by decide +kernel
theorem dX10_send_24 : decode cX10_send 24 = .ok (.getfield 106, 3) := by decide +kernel
theorem dX10_send_27 : decode cX10_send 27 = .ok (.getfield 110, 3) := by decide +kernel
theorem dX10_send_30 : decode cX10_send 30 = .ok (.iload_n 1, 1) := by decide +kernel
theorem dX10_send_31 : decode cX10_send 31 = .ok (.iadd, 1) := by decide +kernel
theorem dX10_send_32 : decode cX10_send 32 = .ok (.bipush 60, 2) := by decide +kernel
theorem dX10_send_34 : decode cX10_send 34 = .ok (.if_icmp .le 13, 3) := by decide +kernel
theorem dX10_send_37 : decode cX10_send 37 = .ok (.new 39, 3) := by decide +kernel
theorem dX10_send_40 : decode cX10_send 40 = .ok (.dup, 1) := by decide +kernel
theorem dX10_send_41 : decode cX10_send 41 = .ok (.ldc 115, 2) := by decide +kernel
theorem dX10_send_43 : decode cX10_send 43 = .ok (.invokespecial 43, 3) := by decide +kernel
theorem dX10_send_46 : decode cX10_send 46 = .ok (.athrow, 1) := by decide +kernel
theorem dX10_send_47 : decode cX10_send 47 = .ok (.aload_n 0, 1) := by decide +kernel
theorem dX10_send_48 : decode cX10_send 48 = .ok (.invokevirtual 44, 3) := by decide +kernel
theorem dX10_send_51 : decode cX10_send 51 = .ok (.iconst 0, 1) := by decide +kernel
theorem dX10_send_52 : decode cX10_send 52 = .ok (.istore_n 2, 1) := by decide +kernel
theorem dX10_send_53 : decode cX10_send 53 = .ok (.iconst 0, 1) := by decide +kernel
theorem dX10_send_54 : decode cX10_send 54 = .ok (.istore_n 3, 1) := by decide +kernel
theorem dX10_send_55 : decode cX10_send 55 = .ok (.iload_n 3, 1) := by decide +kernel
theorem dX10_send_56 : decode cX10_send 56 = .ok (.iload_n 1, 1) := by decide +kernel
theorem dX10_send_57 : decode cX10_send 57 = .ok (.if_icmp .ge 23, 3) := by decide +kernel
theorem dX10_send_60 : decode cX10_send 60 = .ok (.aload_n 0, 1) := by decide +kernel
theorem dX10_send_61 : decode cX10_send 61 = .ok (.getfield 10, 3) := by decide +kernel
theorem dX10_send_64 : decode cX10_send 64 = .ok (.invokevirtual 117, 3) := by decide +kernel
theorem dX10_send_67 : decode cX10_send 67 = .ok (.iconst (-1), 1) := by decide +kernel
theorem dX10_send_68 : decode cX10_send 68 = .ok (.if_icmp .eq 6, 3) := by decide +kernel
theorem dX10_send_71 : decode cX10_send 71 = .ok (.iinc 2 1, 3) := by decide +kernel
theorem dX10_send_74 : decode cX10_send 74 = .ok (.iinc 3 1, 3) := by decide +kernel
theorem dX10_send_77 : decode cX10_send 77 = .ok (.goto (-22), 3) := by decide +kernel
theorem dX10_send_80 : decode cX10_send 80 = .ok (.iload_n 2, 1) := by decide +kernel
theorem dX10_send_81 : decode cX10_send 81 = .ok (.ireturn, 1) := by decide +kernel
theorem dX10_slot_0 : decode cX10_slot 0 = .ok (.aload_n 0, 1) := by decide +kernel
theorem dX10_slot_1 : decode cX10_slot 1 = .ok (.getfield 10, 3) := by decide +kernel
theorem dX10_slot_4 : decode cX10_slot 4 = .ok (.getfield 120, 3) := by decide +kernel
theorem dX10_slot_7 : decode cX10_slot 7 = .ok (.ireturn, 1) := by decide +kernel
theorem dX10_sent_0 : decode cX10_sent 0 = .ok (.iload_n 1, 1) := by decide +kernel
theorem dX10_sent_1 : decode cX10_sent 1 = .ok (.iconst 0, 1) := by decide +kernel
theorem dX10_sent_2 : decode cX10_sent 2 = .ok (.iconst 3, 1) := by decide +kernel
theorem dX10_sent_3 : decode cX10_sent 3 = .ok (.invokestatic 24, 3) := by decide +kernel
theorem dX10_sent_6 : decode cX10_sent 6 = .ok (.ifCond .eq 19, 3) := by decide +kernel
theorem dX10_sent_9 : decode cX10_sent 9 = .ok (.iload_n 1, 1) := by decide +kernel
theorem dX10_sent_10 : decode cX10_sent 10 = .ok (.bipush 7, 2) := by decide +kernel
theorem dX10_sent_12 : decode cX10_sent 12 = .ok (.if_icmp .eq 13, 3) := by decide +kernel
theorem dX10_sent_15 : decode cX10_sent 15 = .ok (.new 50, 3) := by decide +kernel
theorem dX10_sent_18 : decode cX10_sent 18 = .ok (.dup, 1) := by decide +kernel
theorem dX10_sent_19 : decode cX10_sent 19 = .ok (.ldc 52, 2) := by decide +kernel
theorem dX10_sent_21 : decode cX10_sent 21 = .ok (.invokespecial 54, 3) := by decide +kernel
theorem dX10_sent_24 : decode cX10_sent 24 = .ok (.athrow, 1) := by decide +kernel
theorem dX10_sent_25 : decode cX10_sent 25 = .ok (.iload_n 2, 1) := by decide +kernel
theorem dX10_sent_26 : decode cX10_sent 26 = .ok (.iconst 0, 1) := by decide +kernel
theorem dX10_sent_27 : decode cX10_sent 27 = .ok (.iconst 2, 1) := by decide +kernel
theorem dX10_sent_28 : decode cX10_sent 28 = .ok (.invokestatic 24, 3) := by decide +kernel
theorem dX10_sent_31 : decode cX10_sent 31 = .ok (.ifCond .eq 13, 3) := by decide +kernel
theorem dX10_sent_34 : decode cX10_sent 34 = .ok (.new 28, 3) := by decide +kernel
theorem dX10_sent_37 : decode cX10_sent 37 = .ok (.dup, 1) := by decide +kernel
theorem dX10_sent_38 : decode cX10_sent 38 = .ok (.ldc 99, 2) := by decide +kernel
theorem dX10_sent_40 : decode cX10_sent 40 = .ok (.invokespecial 32, 3) := by decide +kernel
theorem dX10_sent_43 : decode cX10_sent 43 = .ok (.athrow, 1) := by decide +kernel
theorem dX10_sent_44 : decode cX10_sent 44 = .ok (.iload_n 1, 1) := by decide +kernel
theorem dX10_sent_45 : decode cX10_sent 45 = .ok (.bipush 7, 2) := by decide +kernel
theorem dX10_sent_47 : decode cX10_sent 47 = .ok (.if_icmp .ne 9, 3) := by decide +kernel
theorem dX10_sent_50 : decode cX10_sent 50 = .ok (.aload_n 0, 1) := by decide +kernel
theorem dX10_sent_51 : decode cX10_sent 51 = .ok (.iload_n 2, 1) := by decide +kernel
theorem dX10_sent_52 : decode cX10_sent 52 = .ok (.invokevirtual 123, 3) := by decide +kernel
theorem dX10_sent_55 : decode cX10_sent 55 = .ok (.ireturn, 1) := by decide +kernel
theorem dX10_sent_56 : decode cX10_sent 56 = .ok (.aload_n 0, 1) := by decide +kernel
theorem dX10_sent_57 : decode cX10_sent 57 = .ok (.getfield 10, 3) := by decide +kernel
theorem dX10_sent_60 : decode cX10_sent 60 = .ok (.getfield 57, 3) := by decide +kernel
theorem dX10_sent_63 : decode cX10_sent 63 = .ok (.iload_n 1, 1) := by decide +kernel
theorem dX10_sent_64 : decode cX10_sent 64 = .ok (.aaload, 1) := by decide +kernel
theorem dX10_sent_65 : decode cX10_sent 65 = .ok (.astore_n 3, 1) := by decide +kernel
theorem dX10_sent_66 : decode cX10_sent 66 = .ok (.iload_n 2, 1) := by decide +kernel
theorem dX10_sent_67 : decode cX10_sent 67 = .ok (.ifCond .ne 8, 3) := by decide +kernel
theorem dX10_sent_70 : decode cX10_sent 70 = .ok (.aload_n 3, 1) := by decide +kernel
theorem dX10_sent_71 : decode cX10_sent 71 = .ok (.getfield 127, 3) := by decide +kernel
theorem dX10_sent_74 : decode cX10_sent 74 = .ok (.ireturn, 1) := by decide +kernel
theorem dX10_sent_75 : decode cX10_sent 75 = .ok (.iload_n 2, 1) := by decide +kernel
theorem dX10_sent_76 : decode cX10_sent 76 = .ok (.iconst 1, 1) := by decide +kernel
theorem dX10_sent_77 : decode cX10_sent 77 = .ok (.if_icmp .ne 10, 3) := by decide +kernel
theorem dX10_sent_80 : decode cX10_sent 80 = .ok (.aload_n 3, 1) := by decide +kernel
theorem dX10_sent_81 : decode cX10_sent 81 = .ok (.getfield 130, 3) := by decide +kernel
theorem dX10_sent_84 : decode cX10_sent 84 = .ok (.goto 7, 3) := by decide +kernel
theorem dX10_sent_87 : decode cX10_sent 87 = .ok (.aload_n 3, 1) := by decide +kernel
theorem dX10_sent_88 : decode cX10_sent 88 = .ok (.getfield 133, 3) := by decide +kernel
theorem dX10_sent_91 : decode cX10_sent 91 = .ok (.ireturn, 1) := by decide +kernel
theorem dX10_sentIdle_0 : decode cX10_sentIdle 0 = .ok (.iload_n 1, 1) := by decide +kernel
theorem dX10_sentIdle_1 : decode cX10_sentIdle 1 = .ok (.ifCond .ne 11, 3) := by decide +kernel
theorem dX10_sentIdle_4 : decode cX10_sentIdle 4 = .ok (.aload_n 0, 1) := by decide +kernel
theorem dX10_sentIdle_5 : decode cX10_sentIdle 5 = .ok (.getfield 10, 3) := by decide +kernel
theorem dX10_sentIdle_8 : decode cX10_sentIdle 8 = .ok (.getfield 136, 3) := by decide +kernel
theorem dX10_sentIdle_11 : decode cX10_sentIdle 11 = .ok (.ireturn, 1) := by decide +kernel
theorem dX10_sentIdle_12 : decode cX10_sentIdle 12 = .ok (.iload_n 1, 1) := by decide +kernel
theorem dX10_sentIdle_13 : decode cX10_sentIdle 13 = .ok (.iconst 1, 1) := by decide +kernel
theorem dX10_sentIdle_14 : decode cX10_sentIdle 14 = .ok (.if_icmp .ne 7, 3) := by decide +kernel
theorem dX10_sentIdle_17 : decode cX10_sentIdle 17 = .ok (.iconst 0, 1) := by decide +kernel
theorem dX10_sentIdle_18 : decode cX10_sentIdle 18 = .ok (.goto 4, 3) := by decide +kernel
theorem dX10_sentIdle_21 : decode cX10_sentIdle 21 = .ok (.iconst (-1), 1) := by decide +kernel
theorem dX10_sentIdle_22 : decode cX10_sentIdle 22 = .ok (.ireturn, 1) := by decide +kernel
theorem dX10_wire_0 : decode cX10_wire 0 = .ok (.aload_n 0, 1) := by decide +kernel
theorem dX10_wire_1 : decode cX10_wire 1 = .ok (.getfield 10, 3) := by decide +kernel
theorem dX10_wire_4 : decode cX10_wire 4 = .ok (.getfield 106, 3) := by decide +kernel
theorem dX10_wire_7 : decode cX10_wire 7 = .ok (.getfield 110, 3) := by decide +kernel
theorem dX10_wire_10 : decode cX10_wire 10 = .ok (.ireturn, 1) := by decide +kernel
theorem dX10_frameByte_0 : decode cX10_frameByte 0 = .ok (.iload_n 1, 1) := by decide +kernel
theorem dX10_frameByte_1 : decode cX10_frameByte 1 = .ok (.iconst 0, 1) := by decide +kernel
theorem dX10_frameByte_2 : decode cX10_frameByte 2 = .ok (.aload_n 0, 1) := by decide +kernel
theorem dX10_frameByte_3 : decode cX10_frameByte 3 = .ok (.getfield 10, 3) := by decide +kernel
theorem dX10_frameByte_6 : decode cX10_frameByte 6 = .ok (.getfield 106, 3) := by decide +kernel
theorem dX10_frameByte_9 : decode cX10_frameByte 9 = .ok (.getfield 110, 3) := by decide +kernel
theorem dX10_frameByte_12 : decode cX10_frameByte 12 = .ok (.iconst 1, 1) := by decide +kernel
theorem dX10_frameByte_13 : decode cX10_frameByte 13 = .ok (.isub, 1) := by decide +kernel
theorem dX10_frameByte_14 : decode cX10_frameByte 14 = .ok (.invokestatic 24, 3) := by decide +kernel
theorem dX10_frameByte_17 : decode cX10_frameByte 17 = .ok (.ifCond .ne 28, 3) := by decide +kernel
theorem dX10_frameByte_20 : decode cX10_frameByte 20 = .ok (.iload_n 2, 1) := by decide +kernel
theorem dX10_frameByte_21 : decode cX10_frameByte 21 = .ok (.iconst 0, 1) := by decide +kernel
theorem dX10_frameByte_22 : decode cX10_frameByte 22 = .ok (.aload_n 0, 1) := by decide +kernel
theorem dX10_frameByte_23 : decode cX10_frameByte 23 = .ok (.getfield 10, 3) := by decide +kernel
theorem dX10_frameByte_26 : decode cX10_frameByte 26 = .ok (.getfield 106, 3) := by decide +kernel
theorem dX10_frameByte_29 : decode cX10_frameByte 29 = .ok (.getfield 139, 3) := by decide +kernel
theorem dX10_frameByte_32 : decode cX10_frameByte 32 = .ok (.iload_n 1, 1) := by decide +kernel
theorem dX10_frameByte_33 : decode cX10_frameByte 33 = .ok (.aaload, 1) := by decide +kernel
theorem dX10_frameByte_34 : decode cX10_frameByte 34 = .ok (.invokevirtual 142, 3) := by decide +kernel
theorem dX10_frameByte_37 : decode cX10_frameByte 37 = .ok (.iconst 1, 1) := by decide +kernel
theorem dX10_frameByte_38 : decode cX10_frameByte 38 = .ok (.isub, 1) := by decide +kernel
theorem dX10_frameByte_39 : decode cX10_frameByte 39 = .ok (.invokestatic 24, 3) := by decide +kernel
theorem dX10_frameByte_42 : decode cX10_frameByte 42 = .ok (.ifCond .eq 13, 3) := by decide +kernel
theorem dX10_frameByte_45 : decode cX10_frameByte 45 = .ok (.new 50, 3) := by decide +kernel
theorem dX10_frameByte_48 : decode cX10_frameByte 48 = .ok (.dup, 1) := by decide +kernel
theorem dX10_frameByte_49 : decode cX10_frameByte 49 = .ok (.ldc 146, 2) := by decide +kernel
theorem dX10_frameByte_51 : decode cX10_frameByte 51 = .ok (.invokespecial 54, 3) := by decide +kernel
theorem dX10_frameByte_54 : decode cX10_frameByte 54 = .ok (.athrow, 1) := by decide +kernel
theorem dX10_frameByte_55 : decode cX10_frameByte 55 = .ok (.aload_n 0, 1) := by decide +kernel
theorem dX10_frameByte_56 : decode cX10_frameByte 56 = .ok (.getfield 10, 3) := by decide +kernel
theorem dX10_frameByte_59 : decode cX10_frameByte 59 = .ok (.getfield 106, 3) := by decide +kernel
theorem dX10_frameByte_62 : decode cX10_frameByte 62 = .ok (.getfield 139, 3) := by decide +kernel
theorem dX10_frameByte_65 : decode cX10_frameByte 65 = .ok (.iload_n 1, 1) := by decide +kernel
theorem dX10_frameByte_66 : decode cX10_frameByte 66 = .ok (.aaload, 1) := by decide +kernel
theorem dX10_frameByte_67 : decode cX10_frameByte 67 = .ok (.getfield 148, 3) := by decide +kernel
theorem dX10_frameByte_70 : decode cX10_frameByte 70 = .ok (.iload_n 2, 1) := by decide +kernel
theorem dX10_frameByte_71 : decode cX10_frameByte 71 = .ok (.iaload, 1) := by decide +kernel
theorem dX10_frameByte_72 : decode cX10_frameByte 72 = .ok (.ireturn, 1) := by decide +kernel
theorem dX10_corrupt_0 : decode cX10_corrupt 0 = .ok (.iload_n 1, 1) := by decide +kernel
theorem dX10_corrupt_1 : decode cX10_corrupt 1 = .ok (.iconst 0, 1) := by decide +kernel
theorem dX10_corrupt_2 : decode cX10_corrupt 2 = .ok (.aload_n 0, 1) := by decide +kernel
theorem dX10_corrupt_3 : decode cX10_corrupt 3 = .ok (.getfield 10, 3) := by decide +kernel
theorem dX10_corrupt_6 : decode cX10_corrupt 6 = .ok (.getfield 106, 3) := by decide +kernel
theorem dX10_corrupt_9 : decode cX10_corrupt 9 = .ok (.getfield 110, 3) := by decide +kernel
theorem dX10_corrupt_12 : decode cX10_corrupt 12 = .ok (.iconst 1, 1) := by decide +kernel
theorem dX10_corrupt_13 : decode cX10_corrupt 13 = .ok (.isub, 1) := by decide +kernel
theorem dX10_corrupt_14 : decode cX10_corrupt 14 = .ok (.invokestatic 24, 3) := by decide +kernel
theorem dX10_corrupt_17 : decode cX10_corrupt 17 = .ok (.ifCond .ne 28, 3) := by decide +kernel
theorem dX10_corrupt_20 : decode cX10_corrupt 20 = .ok (.iload_n 2, 1) := by decide +kernel
theorem dX10_corrupt_21 : decode cX10_corrupt 21 = .ok (.iconst 0, 1) := by decide +kernel
theorem dX10_corrupt_22 : decode cX10_corrupt 22 = .ok (.aload_n 0, 1) := by decide +kernel
theorem dX10_corrupt_23 : decode cX10_corrupt 23 = .ok (.getfield 10, 3) := by decide +kernel
theorem dX10_corrupt_26 : decode cX10_corrupt 26 = .ok (.getfield 106, 3) := by decide +kernel
theorem dX10_corrupt_29 : decode cX10_corrupt 29 = .ok (.getfield 139, 3) := by decide +kernel
theorem dX10_corrupt_32 : decode cX10_corrupt 32 = .ok (.iload_n 1, 1) := by decide +kernel
theorem dX10_corrupt_33 : decode cX10_corrupt 33 = .ok (.aaload, 1) := by decide +kernel
theorem dX10_corrupt_34 : decode cX10_corrupt 34 = .ok (.invokevirtual 142, 3) := by decide +kernel
theorem dX10_corrupt_37 : decode cX10_corrupt 37 = .ok (.iconst 1, 1) := by decide +kernel
theorem dX10_corrupt_38 : decode cX10_corrupt 38 = .ok (.isub, 1) := by decide +kernel
theorem dX10_corrupt_39 : decode cX10_corrupt 39 = .ok (.invokestatic 24, 3) := by decide +kernel
theorem dX10_corrupt_42 : decode cX10_corrupt 42 = .ok (.ifCond .eq 13, 3) := by decide +kernel
theorem dX10_corrupt_45 : decode cX10_corrupt 45 = .ok (.new 50, 3) := by decide +kernel
theorem dX10_corrupt_48 : decode cX10_corrupt 48 = .ok (.dup, 1) := by decide +kernel
theorem dX10_corrupt_49 : decode cX10_corrupt 49 = .ok (.ldc 146, 2) := by decide +kernel
theorem dX10_corrupt_51 : decode cX10_corrupt 51 = .ok (.invokespecial 54, 3) := by decide +kernel
theorem dX10_corrupt_54 : decode cX10_corrupt 54 = .ok (.athrow, 1) := by decide +kernel
theorem dX10_corrupt_55 : decode cX10_corrupt 55 = .ok (.iload_n 3, 1) := by decide +kernel
theorem dX10_corrupt_56 : decode cX10_corrupt 56 = .ok (.iconst 1, 1) := by decide +kernel
theorem dX10_corrupt_57 : decode cX10_corrupt 57 = .ok (.sipush 255, 3) := by decide +kernel
theorem dX10_corrupt_60 : decode cX10_corrupt 60 = .ok (.invokestatic 24, 3) := by decide +kernel
theorem dX10_corrupt_63 : decode cX10_corrupt 63 = .ok (.ifCond .eq 13, 3) := by decide +kernel
theorem dX10_corrupt_66 : decode cX10_corrupt 66 = .ok (.new 28, 3) := by decide +kernel
theorem dX10_corrupt_69 : decode cX10_corrupt 69 = .ok (.dup, 1) := by decide +kernel
theorem dX10_corrupt_70 : decode cX10_corrupt 70 = .ok (.ldc 152, 2) := by decide +kernel
theorem dX10_corrupt_72 : decode cX10_corrupt 72 = .ok (.invokespecial 32, 3) := by decide +kernel
theorem dX10_corrupt_75 : decode cX10_corrupt 75 = .ok (.athrow, 1) := by decide +kernel
theorem dX10_corrupt_76 : decode cX10_corrupt 76 = .ok (.aload_n 0, 1) := by decide +kernel
theorem dX10_corrupt_77 : decode cX10_corrupt 77 = .ok (.invokevirtual 44, 3) := by decide +kernel
theorem dX10_corrupt_80 : decode cX10_corrupt 80 = .ok (.aload_n 0, 1) := by decide +kernel
theorem dX10_corrupt_81 : decode cX10_corrupt 81 = .ok (.getfield 10, 3) := by decide +kernel
theorem dX10_corrupt_84 : decode cX10_corrupt 84 = .ok (.getfield 106, 3) := by decide +kernel
theorem dX10_corrupt_87 : decode cX10_corrupt 87 = .ok (.getfield 139, 3) := by decide +kernel
theorem dX10_corrupt_90 : decode cX10_corrupt 90 = .ok (.iload_n 1, 1) := by decide +kernel
theorem dX10_corrupt_91 : decode cX10_corrupt 91 = .ok (.aaload, 1) := by decide +kernel
theorem dX10_corrupt_92 : decode cX10_corrupt 92 = .ok (.getfield 148, 3) := by decide +kernel
theorem dX10_corrupt_95 : decode cX10_corrupt 95 = .ok (.astore 4, 2) := by decide +kernel
theorem dX10_corrupt_97 : decode cX10_corrupt 97 = .ok (.aload 4, 2) := by decide +kernel
theorem dX10_corrupt_99 : decode cX10_corrupt 99 = .ok (.iload_n 2, 1) := by decide +kernel
theorem dX10_corrupt_100 : decode cX10_corrupt 100 = .ok (.dup2, 1) := by decide +kernel
theorem dX10_corrupt_101 : decode cX10_corrupt 101 = .ok (.iaload, 1) := by decide +kernel
theorem dX10_corrupt_102 : decode cX10_corrupt 102 = .ok (.iload_n 3, 1) := by decide +kernel
theorem dX10_corrupt_103 : decode cX10_corrupt 103 = .ok (.ixor, 1) := by decide +kernel
theorem dX10_corrupt_104 : decode cX10_corrupt 104 = .ok (.iastore, 1) := by decide +kernel
theorem dX10_corrupt_105 : decode cX10_corrupt 105 = .ok (.aload 4, 2) := by decide +kernel
theorem dX10_corrupt_107 : decode cX10_corrupt 107 = .ok (.iload_n 2, 1) := by decide +kernel
theorem dX10_corrupt_108 : decode cX10_corrupt 108 = .ok (.iaload, 1) := by decide +kernel
theorem dX10_corrupt_109 : decode cX10_corrupt 109 = .ok (.ireturn, 1) := by decide +kernel
theorem dX10_repair_0 : decode cX10_repair 0 = .ok (.iload_n 1, 1) := by decide +kernel
theorem dX10_repair_1 : decode cX10_repair 1 = .ok (.iconst 0, 1) := by decide +kernel
theorem dX10_repair_2 : decode cX10_repair 2 = .ok (.aload_n 0, 1) := by decide +kernel
theorem dX10_repair_3 : decode cX10_repair 3 = .ok (.getfield 10, 3) := by decide +kernel
theorem dX10_repair_6 : decode cX10_repair 6 = .ok (.getfield 106, 3) := by decide +kernel
theorem dX10_repair_9 : decode cX10_repair 9 = .ok (.getfield 110, 3) := by decide +kernel
theorem dX10_repair_12 : decode cX10_repair 12 = .ok (.iconst 1, 1) := by decide +kernel
theorem dX10_repair_13 : decode cX10_repair 13 = .ok (.isub, 1) := by decide +kernel
theorem dX10_repair_14 : decode cX10_repair 14 = .ok (.invokestatic 24, 3) := by decide +kernel
theorem dX10_repair_17 : decode cX10_repair 17 = .ok (.ifCond .eq 13, 3) := by decide +kernel
theorem dX10_repair_20 : decode cX10_repair 20 = .ok (.new 50, 3) := by decide +kernel
theorem dX10_repair_23 : decode cX10_repair 23 = .ok (.dup, 1) := by decide +kernel
theorem dX10_repair_24 : decode cX10_repair 24 = .ok (.ldc 154, 2) := by decide +kernel
theorem dX10_repair_26 : decode cX10_repair 26 = .ok (.invokespecial 54, 3) := by decide +kernel
theorem dX10_repair_29 : decode cX10_repair 29 = .ok (.athrow, 1) := by decide +kernel
theorem dX10_repair_30 : decode cX10_repair 30 = .ok (.aload_n 0, 1) := by decide +kernel
theorem dX10_repair_31 : decode cX10_repair 31 = .ok (.invokevirtual 44, 3) := by decide +kernel
theorem dX10_repair_34 : decode cX10_repair 34 = .ok (.aload_n 0, 1) := by decide +kernel
theorem dX10_repair_35 : decode cX10_repair 35 = .ok (.getfield 10, 3) := by decide +kernel
theorem dX10_repair_38 : decode cX10_repair 38 = .ok (.getfield 106, 3) := by decide +kernel
theorem dX10_repair_41 : decode cX10_repair 41 = .ok (.getfield 139, 3) := by decide +kernel
theorem dX10_repair_44 : decode cX10_repair 44 = .ok (.iload_n 1, 1) := by decide +kernel
theorem dX10_repair_45 : decode cX10_repair 45 = .ok (.aaload, 1) := by decide +kernel
theorem dX10_repair_46 : decode cX10_repair 46 = .ok (.invokevirtual 156, 3) := by decide +kernel
theorem dX10_repair_49 : decode cX10_repair 49 = .ok (.ireturn, 1) := by decide +kernel
theorem dX10_lose_0 : decode cX10_lose 0 = .ok (.iload_n 1, 1) := by decide +kernel
theorem dX10_lose_1 : decode cX10_lose 1 = .ok (.iconst 0, 1) := by decide +kernel
theorem dX10_lose_2 : decode cX10_lose 2 = .ok (.aload_n 0, 1) := by decide +kernel
theorem dX10_lose_3 : decode cX10_lose 3 = .ok (.getfield 10, 3) := by decide +kernel
theorem dX10_lose_6 : decode cX10_lose 6 = .ok (.getfield 106, 3) := by decide +kernel
theorem dX10_lose_9 : decode cX10_lose 9 = .ok (.getfield 110, 3) := by decide +kernel
theorem dX10_lose_12 : decode cX10_lose 12 = .ok (.iconst 1, 1) := by decide +kernel
theorem dX10_lose_13 : decode cX10_lose 13 = .ok (.isub, 1) := by decide +kernel
theorem dX10_lose_14 : decode cX10_lose 14 = .ok (.invokestatic 24, 3) := by decide +kernel
theorem dX10_lose_17 : decode cX10_lose 17 = .ok (.ifCond .eq 13, 3) := by decide +kernel
theorem dX10_lose_20 : decode cX10_lose 20 = .ok (.new 50, 3) := by decide +kernel
theorem dX10_lose_23 : decode cX10_lose 23 = .ok (.dup, 1) := by decide +kernel
theorem dX10_lose_24 : decode cX10_lose 24 = .ok (.ldc 154, 2) := by decide +kernel
theorem dX10_lose_26 : decode cX10_lose 26 = .ok (.invokespecial 54, 3) := by decide +kernel
theorem dX10_lose_29 : decode cX10_lose 29 = .ok (.athrow, 1) := by decide +kernel
theorem dX10_lose_30 : decode cX10_lose 30 = .ok (.aload_n 0, 1) := by decide +kernel
theorem dX10_lose_31 : decode cX10_lose 31 = .ok (.invokevirtual 44, 3) := by decide +kernel
theorem dX10_lose_34 : decode cX10_lose 34 = .ok (.aload_n 0, 1) := by decide +kernel
theorem dX10_lose_35 : decode cX10_lose 35 = .ok (.getfield 10, 3) := by decide +kernel
theorem dX10_lose_38 : decode cX10_lose 38 = .ok (.getfield 106, 3) := by decide +kernel
theorem dX10_lose_41 : decode cX10_lose 41 = .ok (.getfield 139, 3) := by decide +kernel
theorem dX10_lose_44 : decode cX10_lose 44 = .ok (.iload_n 1, 1) := by decide +kernel
theorem dX10_lose_45 : decode cX10_lose 45 = .ok (.aaload, 1) := by decide +kernel
theorem dX10_lose_46 : decode cX10_lose 46 = .ok (.iconst 1, 1) := by decide +kernel
theorem dX10_lose_47 : decode cX10_lose 47 = .ok (.putfield 159, 3) := by decide +kernel
theorem dX10_lose_50 : decode cX10_lose 50 = .ok (.aload_n 0, 1) := by decide +kernel
theorem dX10_lose_51 : decode cX10_lose 51 = .ok (.getfield 10, 3) := by decide +kernel
theorem dX10_lose_54 : decode cX10_lose 54 = .ok (.getfield 106, 3) := by decide +kernel
theorem dX10_lose_57 : decode cX10_lose 57 = .ok (.invokevirtual 163, 3) := by decide +kernel
theorem dX10_lose_60 : decode cX10_lose 60 = .ok (.ireturn, 1) := by decide +kernel
theorem dX10_receive_0 : decode cX10_receive 0 = .ok (.iload_n 1, 1) := by decide +kernel
theorem dX10_receive_1 : decode cX10_receive 1 = .ok (.iconst 1, 1) := by decide +kernel
theorem dX10_receive_2 : decode cX10_receive 2 = .ok (.bipush 60, 2) := by decide +kernel
theorem dX10_receive_4 : decode cX10_receive 4 = .ok (.invokestatic 24, 3) := by decide +kernel
theorem dX10_receive_7 : decode cX10_receive 7 = .ok (.ifCond .eq 13, 3) := by decide +kernel
theorem dX10_receive_10 : decode cX10_receive 10 = .ok (.new 28, 3) := by decide +kernel
theorem dX10_receive_13 : decode cX10_receive 13 = .ok (.dup, 1) := by decide +kernel
theorem dX10_receive_14 : decode cX10_receive 14 = .ok (.ldc 166, 2) := by decide +kernel
theorem dX10_receive_16 : decode cX10_receive 16 = .ok (.invokespecial 32, 3) := by decide +kernel
theorem dX10_receive_19 : decode cX10_receive 19 = .ok (.athrow, 1) := by decide +kernel
theorem dX10_receive_20 : decode cX10_receive 20 = .ok (.iload_n 1, 1) := by decide +kernel
theorem dX10_receive_21 : decode cX10_receive 21 = .ok (.aload_n 0, 1) := by decide +kernel
theorem dX10_receive_22 : decode cX10_receive 22 = .ok (.getfield 10, 3) := by decide +kernel
theorem dX10_receive_25 : decode cX10_receive 25 = .ok (.getfield 106, 3) := by decide +kernel
theorem dX10_receive_28 : decode cX10_receive 28 = .ok (.getfield 110, 3) := by decide +kernel
theorem dX10_receive_31 : decode cX10_receive 31 = .ok (.if_icmp .le 13, 3) := by decide +kernel
theorem dX10_receive_34 : decode cX10_receive 34 = .ok (.new 39, 3) := by decide +kernel
theorem dX10_receive_37 : decode cX10_receive 37 = .ok (.dup, 1) := by decide +kernel
theorem dX10_receive_38 : decode cX10_receive 38 = .ok (.ldc 168, 2) := by decide +kernel
theorem dX10_receive_40 : decode cX10_receive 40 = .ok (.invokespecial 43, 3) := by decide +kernel
theorem dX10_receive_43 : decode cX10_receive 43 = .ok (.athrow, 1) := by decide +kernel
theorem dX10_receive_44 : decode cX10_receive 44 = .ok (.aload_n 0, 1) := by decide +kernel
theorem dX10_receive_45 : decode cX10_receive 45 = .ok (.invokevirtual 44, 3) := by decide +kernel
theorem dX10_receive_48 : decode cX10_receive 48 = .ok (.iconst 0, 1) := by decide +kernel
theorem dX10_receive_49 : decode cX10_receive 49 = .ok (.istore_n 2, 1) := by decide +kernel
theorem dX10_receive_50 : decode cX10_receive 50 = .ok (.iconst 0, 1) := by decide +kernel
theorem dX10_receive_51 : decode cX10_receive 51 = .ok (.istore_n 3, 1) := by decide +kernel
theorem dX10_receive_52 : decode cX10_receive 52 = .ok (.iload_n 3, 1) := by decide +kernel
theorem dX10_receive_53 : decode cX10_receive 53 = .ok (.iload_n 1, 1) := by decide +kernel
theorem dX10_receive_54 : decode cX10_receive 54 = .ok (.if_icmp .ge 34, 3) := by decide +kernel
theorem dX10_receive_57 : decode cX10_receive 57 = .ok (.iload_n 2, 1) := by decide +kernel
theorem dX10_receive_58 : decode cX10_receive 58 = .ok (.aload_n 0, 1) := by decide +kernel
theorem dX10_receive_59 : decode cX10_receive 59 = .ok (.getfield 10, 3) := by decide +kernel
theorem dX10_receive_62 : decode cX10_receive 62 = .ok (.getfield 170, 3) := by decide +kernel
theorem dX10_receive_65 : decode cX10_receive 65 = .ok (.aload_n 0, 1) := by decide +kernel
theorem dX10_receive_66 : decode cX10_receive 66 = .ok (.getfield 10, 3) := by decide +kernel
theorem dX10_receive_69 : decode cX10_receive 69 = .ok (.getfield 106, 3) := by decide +kernel
theorem dX10_receive_72 : decode cX10_receive 72 = .ok (.getfield 139, 3) := by decide +kernel
theorem dX10_receive_75 : decode cX10_receive 75 = .ok (.iload_n 3, 1) := by decide +kernel
theorem dX10_receive_76 : decode cX10_receive 76 = .ok (.aaload, 1) := by decide +kernel
theorem dX10_receive_77 : decode cX10_receive 77 = .ok (.invokevirtual 174, 3) := by decide +kernel
theorem dX10_receive_80 : decode cX10_receive 80 = .ok (.iadd, 1) := by decide +kernel
theorem dX10_receive_81 : decode cX10_receive 81 = .ok (.istore_n 2, 1) := by decide +kernel
theorem dX10_receive_82 : decode cX10_receive 82 = .ok (.iinc 3 1, 3) := by decide +kernel
theorem dX10_receive_85 : decode cX10_receive 85 = .ok (.goto (-33), 3) := by decide +kernel
theorem dX10_receive_88 : decode cX10_receive 88 = .ok (.aload_n 0, 1) := by decide +kernel
theorem dX10_receive_89 : decode cX10_receive 89 = .ok (.getfield 10, 3) := by decide +kernel
theorem dX10_receive_92 : decode cX10_receive 92 = .ok (.getfield 106, 3) := by decide +kernel
theorem dX10_receive_95 : decode cX10_receive 95 = .ok (.iload_n 1, 1) := by decide +kernel
theorem dX10_receive_96 : decode cX10_receive 96 = .ok (.invokevirtual 180, 3) := by decide +kernel
theorem dX10_receive_99 : decode cX10_receive 99 = .ok (.iload_n 2, 1) := by decide +kernel
theorem dX10_receive_100 : decode cX10_receive 100 = .ok (.ireturn, 1) := by decide +kernel
theorem dX10_count_0 : decode cX10_count 0 = .ok (.iload_n 1, 1) := by decide +kernel
theorem dX10_count_1 : decode cX10_count 1 = .ok (.iconst 0, 1) := by decide +kernel
theorem dX10_count_2 : decode cX10_count 2 = .ok (.iconst 5, 1) := by decide +kernel
theorem dX10_count_3 : decode cX10_count 3 = .ok (.invokestatic 24, 3) := by decide +kernel
theorem dX10_count_6 : decode cX10_count 6 = .ok (.ifCond .eq 13, 3) := by decide +kernel
theorem dX10_count_9 : decode cX10_count 9 = .ok (.new 28, 3) := by decide +kernel
theorem dX10_count_12 : decode cX10_count 12 = .ok (.dup, 1) := by decide +kernel
theorem dX10_count_13 : decode cX10_count 13 = .ok (.ldc 99, 2) := by decide +kernel
theorem dX10_count_15 : decode cX10_count 15 = .ok (.invokespecial 32, 3) := by decide +kernel
theorem dX10_count_18 : decode cX10_count 18 = .ok (.athrow, 1) := by decide +kernel
theorem dX10_count_19 : decode cX10_count 19 = .ok (.aload_n 0, 1) := by decide +kernel
theorem dX10_count_20 : decode cX10_count 20 = .ok (.getfield 10, 3) := by decide +kernel
theorem dX10_count_23 : decode cX10_count 23 = .ok (.getfield 170, 3) := by decide +kernel
theorem dX10_count_26 : decode cX10_count 26 = .ok (.getfield 184, 3) := by decide +kernel
theorem dX10_count_29 : decode cX10_count 29 = .ok (.iload_n 1, 1) := by decide +kernel
theorem dX10_count_30 : decode cX10_count 30 = .ok (.iaload, 1) := by decide +kernel
theorem dX10_count_31 : decode cX10_count 31 = .ok (.ireturn, 1) := by decide +kernel
theorem dX10_received_0 : decode cX10_received 0 = .ok (.iload_n 1, 1) := by decide +kernel
theorem dX10_received_1 : decode cX10_received 1 = .ok (.iconst 0, 1) := by decide +kernel
theorem dX10_received_2 : decode cX10_received 2 = .ok (.iconst 3, 1) := by decide +kernel
theorem dX10_received_3 : decode cX10_received 3 = .ok (.invokestatic 24, 3) := by decide +kernel
theorem dX10_received_6 : decode cX10_received 6 = .ok (.ifCond .eq 13, 3) := by decide +kernel
theorem dX10_received_9 : decode cX10_received 9 = .ok (.new 50, 3) := by decide +kernel
theorem dX10_received_12 : decode cX10_received 12 = .ok (.dup, 1) := by decide +kernel
theorem dX10_received_13 : decode cX10_received 13 = .ok (.ldc 52, 2) := by decide +kernel
theorem dX10_received_15 : decode cX10_received 15 = .ok (.invokespecial 54, 3) := by decide +kernel
theorem dX10_received_18 : decode cX10_received 18 = .ok (.athrow, 1) := by decide +kernel
theorem dX10_received_19 : decode cX10_received 19 = .ok (.aload_n 0, 1) := by decide +kernel
theorem dX10_received_20 : decode cX10_received 20 = .ok (.getfield 10, 3) := by decide +kernel
theorem dX10_received_23 : decode cX10_received 23 = .ok (.getfield 170, 3) := by decide +kernel
theorem dX10_received_26 : decode cX10_received 26 = .ok (.getfield 187, 3) := by decide +kernel
theorem dX10_received_29 : decode cX10_received 29 = .ok (.iload_n 1, 1) := by decide +kernel
theorem dX10_received_30 : decode cX10_received 30 = .ok (.aaload, 1) := by decide +kernel
theorem dX10_received_31 : decode cX10_received 31 = .ok (.astore_n 3, 1) := by decide +kernel
theorem dX10_received_32 : decode cX10_received 32 = .ok (.iload_n 2, 1) := by decide +kernel
theorem dX10_received_33 : decode cX10_received 33 = .ok (.tableswitch 59 0 3 #[31, 36, 41, 46], 31) := by decide +kernel
theorem dX10_received_64 : decode cX10_received 64 = .ok (.aload_n 3, 1) := by decide +kernel
theorem dX10_received_65 : decode cX10_received 65 = .ok (.getfield 191, 3) := by decide +kernel
theorem dX10_received_68 : decode cX10_received 68 = .ok (.ireturn, 1) := by decide +kernel
theorem dX10_received_69 : decode cX10_received 69 = .ok (.aload_n 3, 1) := by decide +kernel
theorem dX10_received_70 : decode cX10_received 70 = .ok (.getfield 194, 3) := by decide +kernel
theorem dX10_received_73 : decode cX10_received 73 = .ok (.ireturn, 1) := by decide +kernel
theorem dX10_received_74 : decode cX10_received 74 = .ok (.aload_n 3, 1) := by decide +kernel
theorem dX10_received_75 : decode cX10_received 75 = .ok (.getfield 197, 3) := by decide +kernel
theorem dX10_received_78 : decode cX10_received 78 = .ok (.ireturn, 1) := by decide +kernel
theorem dX10_received_79 : decode cX10_received 79 = .ok (.aload_n 3, 1) := by decide +kernel
theorem dX10_received_80 : decode cX10_received 80 = .ok (.getfield 200, 3) := by decide +kernel
theorem dX10_received_83 : decode cX10_received 83 = .ok (.ifCond .eq 7, 3) := by decide +kernel
theorem dX10_received_86 : decode cX10_received 86 = .ok (.iconst 1, 1) := by decide +kernel
theorem dX10_received_87 : decode cX10_received 87 = .ok (.goto 4, 3) := by decide +kernel
theorem dX10_received_90 : decode cX10_received 90 = .ok (.iconst 0, 1) := by decide +kernel
theorem dX10_received_91 : decode cX10_received 91 = .ok (.ireturn, 1) := by decide +kernel
theorem dX10_received_92 : decode cX10_received 92 = .ok (.new 28, 3) := by decide +kernel
theorem dX10_received_95 : decode cX10_received 95 = .ok (.dup, 1) := by decide +kernel
theorem dX10_received_96 : decode cX10_received 96 = .ok (.ldc 99, 2) := by decide +kernel
theorem dX10_received_98 : decode cX10_received 98 = .ok (.invokespecial 32, 3) := by decide +kernel
theorem dX10_received_101 : decode cX10_received 101 = .ok (.athrow, 1) := by decide +kernel
theorem dX10_application_0 : decode cX10_application 0 = .ok (.iload_n 1, 1) := by decide +kernel
theorem dX10_application_1 : decode cX10_application 1 = .ok (.iconst 0, 1) := by decide +kernel
theorem dX10_application_2 : decode cX10_application 2 = .ok (.bipush 14, 2) := by decide +kernel
theorem dX10_application_4 : decode cX10_application 4 = .ok (.invokestatic 24, 3) := by decide +kernel
theorem dX10_application_7 : decode cX10_application 7 = .ok (.ifCond .eq 13, 3) := by decide +kernel
theorem dX10_application_10 : decode cX10_application 10 = .ok (.new 50, 3) := by decide +kernel
theorem dX10_application_13 : decode cX10_application 13 = .ok (.dup, 1) := by decide +kernel
theorem dX10_application_14 : decode cX10_application 14 = .ok (.ldc 203, 2) := by decide +kernel
theorem dX10_application_16 : decode cX10_application 16 = .ok (.invokespecial 54, 3) := by decide +kernel
theorem dX10_application_19 : decode cX10_application 19 = .ok (.athrow, 1) := by decide +kernel
theorem dX10_application_20 : decode cX10_application 20 = .ok (.iload_n 2, 1) := by decide +kernel
theorem dX10_application_21 : decode cX10_application 21 = .ok (.tableswitch 66 0 2 #[27, 40, 53], 27) := by decide +kernel
theorem dX10_application_48 : decode cX10_application 48 = .ok (.aload_n 0, 1) := by decide +kernel
theorem dX10_application_49 : decode cX10_application 49 = .ok (.getfield 10, 3) := by decide +kernel
theorem dX10_application_52 : decode cX10_application 52 = .ok (.getfield 170, 3) := by decide +kernel
theorem dX10_application_55 : decode cX10_application 55 = .ok (.getfield 205, 3) := by decide +kernel
theorem dX10_application_58 : decode cX10_application 58 = .ok (.iload_n 1, 1) := by decide +kernel
theorem dX10_application_59 : decode cX10_application 59 = .ok (.iaload, 1) := by decide +kernel
theorem dX10_application_60 : decode cX10_application 60 = .ok (.ireturn, 1) := by decide +kernel
theorem dX10_application_61 : decode cX10_application 61 = .ok (.aload_n 0, 1) := by decide +kernel
theorem dX10_application_62 : decode cX10_application 62 = .ok (.getfield 10, 3) := by decide +kernel
theorem dX10_application_65 : decode cX10_application 65 = .ok (.getfield 170, 3) := by decide +kernel
theorem dX10_application_68 : decode cX10_application 68 = .ok (.getfield 208, 3) := by decide +kernel
theorem dX10_application_71 : decode cX10_application 71 = .ok (.iload_n 1, 1) := by decide +kernel
theorem dX10_application_72 : decode cX10_application 72 = .ok (.iaload, 1) := by decide +kernel
theorem dX10_application_73 : decode cX10_application 73 = .ok (.ireturn, 1) := by decide +kernel
theorem dX10_application_74 : decode cX10_application 74 = .ok (.aload_n 0, 1) := by decide +kernel
theorem dX10_application_75 : decode cX10_application 75 = .ok (.getfield 10, 3) := by decide +kernel
theorem dX10_application_78 : decode cX10_application 78 = .ok (.getfield 170, 3) := by decide +kernel
theorem dX10_application_81 : decode cX10_application 81 = .ok (.getfield 211, 3) := by decide +kernel
theorem dX10_application_84 : decode cX10_application 84 = .ok (.iload_n 1, 1) := by decide +kernel
theorem dX10_application_85 : decode cX10_application 85 = .ok (.iaload, 1) := by decide +kernel
theorem dX10_application_86 : decode cX10_application 86 = .ok (.ireturn, 1) := by decide +kernel
theorem dX10_application_87 : decode cX10_application 87 = .ok (.new 28, 3) := by decide +kernel
theorem dX10_application_90 : decode cX10_application 90 = .ok (.dup, 1) := by decide +kernel
theorem dX10_application_91 : decode cX10_application 91 = .ok (.ldc 99, 2) := by decide +kernel
theorem dX10_application_93 : decode cX10_application 93 = .ok (.invokespecial 32, 3) := by decide +kernel
theorem dX10_application_96 : decode cX10_application 96 = .ok (.athrow, 1) := by decide +kernel
theorem dX10_packets_0 : decode cX10_packets 0 = .ok (.aload_n 0, 1) := by decide +kernel
theorem dX10_packets_1 : decode cX10_packets 1 = .ok (.getfield 10, 3) := by decide +kernel
theorem dX10_packets_4 : decode cX10_packets 4 = .ok (.getfield 170, 3) := by decide +kernel
theorem dX10_packets_7 : decode cX10_packets 7 = .ok (.getfield 214, 3) := by decide +kernel
theorem dX10_packets_10 : decode cX10_packets 10 = .ok (.getfield 218, 3) := by decide +kernel
theorem dX10_packets_13 : decode cX10_packets 13 = .ok (.ireturn, 1) := by decide +kernel
theorem dX10_packet_0 : decode cX10_packet 0 = .ok (.iload_n 1, 1) := by decide +kernel
theorem dX10_packet_1 : decode cX10_packet 1 = .ok (.iconst 0, 1) := by decide +kernel
theorem dX10_packet_2 : decode cX10_packet 2 = .ok (.aload_n 0, 1) := by decide +kernel
theorem dX10_packet_3 : decode cX10_packet 3 = .ok (.getfield 10, 3) := by decide +kernel
theorem dX10_packet_6 : decode cX10_packet 6 = .ok (.getfield 170, 3) := by decide +kernel
theorem dX10_packet_9 : decode cX10_packet 9 = .ok (.getfield 214, 3) := by decide +kernel
theorem dX10_packet_12 : decode cX10_packet 12 = .ok (.getfield 218, 3) := by decide +kernel
theorem dX10_packet_15 : decode cX10_packet 15 = .ok (.iconst 1, 1) := by decide +kernel
theorem dX10_packet_16 : decode cX10_packet 16 = .ok (.isub, 1) := by decide +kernel
theorem dX10_packet_17 : decode cX10_packet 17 = .ok (.invokestatic 24, 3) := by decide +kernel
theorem dX10_packet_20 : decode cX10_packet 20 = .ok (.ifCond .eq 13, 3) := by decide +kernel
theorem dX10_packet_23 : decode cX10_packet 23 = .ok (.new 50, 3) := by decide +kernel
theorem dX10_packet_26 : decode cX10_packet 26 = .ok (.dup, 1) := by decide +kernel
theorem dX10_packet_27 : decode cX10_packet 27 = .ok (.ldc 221, 2) := by decide +kernel
theorem dX10_packet_29 : decode cX10_packet 29 = .ok (.invokespecial 54, 3) := by decide +kernel
theorem dX10_packet_32 : decode cX10_packet 32 = .ok (.athrow, 1) := by decide +kernel
theorem dX10_packet_33 : decode cX10_packet 33 = .ok (.aload_n 0, 1) := by decide +kernel
theorem dX10_packet_34 : decode cX10_packet 34 = .ok (.getfield 10, 3) := by decide +kernel
theorem dX10_packet_37 : decode cX10_packet 37 = .ok (.getfield 170, 3) := by decide +kernel
theorem dX10_packet_40 : decode cX10_packet 40 = .ok (.getfield 214, 3) := by decide +kernel
theorem dX10_packet_43 : decode cX10_packet 43 = .ok (.getfield 223, 3) := by decide +kernel
theorem dX10_packet_46 : decode cX10_packet 46 = .ok (.iload_n 1, 1) := by decide +kernel
theorem dX10_packet_47 : decode cX10_packet 47 = .ok (.aaload, 1) := by decide +kernel
theorem dX10_packet_48 : decode cX10_packet 48 = .ok (.astore_n 3, 1) := by decide +kernel
theorem dX10_packet_49 : decode cX10_packet 49 = .ok (.iload_n 2, 1) := by decide +kernel
theorem dX10_packet_50 : decode cX10_packet 50 = .ok (.tableswitch 59 0 4 #[34, 39, 44, 49, 54], 34) := by decide +kernel
theorem dX10_packet_84 : decode cX10_packet 84 = .ok (.aload_n 3, 1) := by decide +kernel
theorem dX10_packet_85 : decode cX10_packet 85 = .ok (.getfield 227, 3) := by decide +kernel
theorem dX10_packet_88 : decode cX10_packet 88 = .ok (.ireturn, 1) := by decide +kernel
theorem dX10_packet_89 : decode cX10_packet 89 = .ok (.aload_n 3, 1) := by decide +kernel
theorem dX10_packet_90 : decode cX10_packet 90 = .ok (.getfield 232, 3) := by decide +kernel
theorem dX10_packet_93 : decode cX10_packet 93 = .ok (.ireturn, 1) := by decide +kernel
theorem dX10_packet_94 : decode cX10_packet 94 = .ok (.aload_n 3, 1) := by decide +kernel
theorem dX10_packet_95 : decode cX10_packet 95 = .ok (.getfield 235, 3) := by decide +kernel
theorem dX10_packet_98 : decode cX10_packet 98 = .ok (.ireturn, 1) := by decide +kernel
theorem dX10_packet_99 : decode cX10_packet 99 = .ok (.aload_n 3, 1) := by decide +kernel
theorem dX10_packet_100 : decode cX10_packet 100 = .ok (.getfield 238, 3) := by decide +kernel
theorem dX10_packet_103 : decode cX10_packet 103 = .ok (.ireturn, 1) := by decide +kernel
theorem dX10_packet_104 : decode cX10_packet 104 = .ok (.aload_n 3, 1) := by decide +kernel
theorem dX10_packet_105 : decode cX10_packet 105 = .ok (.invokevirtual 241, 3) := by decide +kernel
theorem dX10_packet_108 : decode cX10_packet 108 = .ok (.ireturn, 1) := by decide +kernel
theorem dX10_packet_109 : decode cX10_packet 109 = .ok (.new 28, 3) := by decide +kernel
theorem dX10_packet_112 : decode cX10_packet 112 = .ok (.dup, 1) := by decide +kernel
theorem dX10_packet_113 : decode cX10_packet 113 = .ok (.ldc 99, 2) := by decide +kernel
theorem dX10_packet_115 : decode cX10_packet 115 = .ok (.invokespecial 32, 3) := by decide +kernel
theorem dX10_packet_118 : decode cX10_packet 118 = .ok (.athrow, 1) := by decide +kernel
theorem dX10_packetByte_0 : decode cX10_packetByte 0 = .ok (.iload_n 1, 1) := by decide +kernel
theorem dX10_packetByte_1 : decode cX10_packetByte 1 = .ok (.iconst 0, 1) := by decide +kernel
theorem dX10_packetByte_2 : decode cX10_packetByte 2 = .ok (.aload_n 0, 1) := by decide +kernel
theorem dX10_packetByte_3 : decode cX10_packetByte 3 = .ok (.getfield 10, 3) := by decide +kernel
theorem dX10_packetByte_6 : decode cX10_packetByte 6 = .ok (.getfield 170, 3) := by decide +kernel
theorem dX10_packetByte_9 : decode cX10_packetByte 9 = .ok (.getfield 214, 3) := by decide +kernel
theorem dX10_packetByte_12 : decode cX10_packetByte 12 = .ok (.getfield 218, 3) := by decide +kernel
theorem dX10_packetByte_15 : decode cX10_packetByte 15 = .ok (.iconst 1, 1) := by decide +kernel
theorem dX10_packetByte_16 : decode cX10_packetByte 16 = .ok (.isub, 1) := by decide +kernel
theorem dX10_packetByte_17 : decode cX10_packetByte 17 = .ok (.invokestatic 24, 3) := by decide +kernel
theorem dX10_packetByte_20 : decode cX10_packetByte 20 = .ok (.ifCond .ne 31, 3) := by decide +kernel
theorem dX10_packetByte_23 : decode cX10_packetByte 23 = .ok (.iload_n 2, 1) := by decide +kernel
theorem dX10_packetByte_24 : decode cX10_packetByte 24 = .ok (.iconst 0, 1) := by decide +kernel
theorem dX10_packetByte_25 : decode cX10_packetByte 25 = .ok (.aload_n 0, 1) := by decide +kernel
theorem dX10_packetByte_26 : decode cX10_packetByte 26 = .ok (.getfield 10, 3) := by decide +kernel
theorem dX10_packetByte_29 : decode cX10_packetByte 29 = .ok (.getfield 170, 3) := by decide +kernel
theorem dX10_packetByte_32 : decode cX10_packetByte 32 = .ok (.getfield 214, 3) := by decide +kernel
theorem dX10_packetByte_35 : decode cX10_packetByte 35 = .ok (.getfield 223, 3) := by decide +kernel
theorem dX10_packetByte_38 : decode cX10_packetByte 38 = .ok (.iload_n 1, 1) := by decide +kernel
theorem dX10_packetByte_39 : decode cX10_packetByte 39 = .ok (.aaload, 1) := by decide +kernel
theorem dX10_packetByte_40 : decode cX10_packetByte 40 = .ok (.getfield 238, 3) := by decide +kernel
theorem dX10_packetByte_43 : decode cX10_packetByte 43 = .ok (.iconst 1, 1) := by decide +kernel
theorem dX10_packetByte_44 : decode cX10_packetByte 44 = .ok (.isub, 1) := by decide +kernel
theorem dX10_packetByte_45 : decode cX10_packetByte 45 = .ok (.invokestatic 24, 3) := by decide +kernel
theorem dX10_packetByte_48 : decode cX10_packetByte 48 = .ok (.ifCond .eq 13, 3) := by decide +kernel
theorem dX10_packetByte_51 : decode cX10_packetByte 51 = .ok (.new 50, 3) := by decide +kernel
theorem dX10_packetByte_54 : decode cX10_packetByte 54 = .ok (.dup, 1) := by decide +kernel
theorem dX10_packetByte_55 : decode cX10_packetByte 55 = .ok (.ldc 244, 2) := by decide +kernel
theorem dX10_packetByte_57 : decode cX10_packetByte 57 = .ok (.invokespecial 54, 3) := by decide +kernel
theorem dX10_packetByte_60 : decode cX10_packetByte 60 = .ok (.athrow, 1) := by decide +kernel
theorem dX10_packetByte_61 : decode cX10_packetByte 61 = .ok (.aload_n 0, 1) := by decide +kernel
theorem dX10_packetByte_62 : decode cX10_packetByte 62 = .ok (.getfield 10, 3) := by decide +kernel
theorem dX10_packetByte_65 : decode cX10_packetByte 65 = .ok (.getfield 170, 3) := by decide +kernel
theorem dX10_packetByte_68 : decode cX10_packetByte 68 = .ok (.getfield 214, 3) := by decide +kernel
theorem dX10_packetByte_71 : decode cX10_packetByte 71 = .ok (.getfield 223, 3) := by decide +kernel
theorem dX10_packetByte_74 : decode cX10_packetByte 74 = .ok (.iload_n 1, 1) := by decide +kernel
theorem dX10_packetByte_75 : decode cX10_packetByte 75 = .ok (.aaload, 1) := by decide +kernel
theorem dX10_packetByte_76 : decode cX10_packetByte 76 = .ok (.getfield 246, 3) := by decide +kernel
theorem dX10_packetByte_79 : decode cX10_packetByte 79 = .ok (.iload_n 2, 1) := by decide +kernel
theorem dX10_packetByte_80 : decode cX10_packetByte 80 = .ok (.iaload, 1) := by decide +kernel
theorem dX10_packetByte_81 : decode cX10_packetByte 81 = .ok (.ireturn, 1) := by decide +kernel
theorem dX10_clock_0 : decode cX10_clock 0 = .ok (.aload_n 0, 1) := by decide +kernel
theorem dX10_clock_1 : decode cX10_clock 1 = .ok (.getfield 10, 3) := by decide +kernel
theorem dX10_clock_4 : decode cX10_clock 4 = .ok (.invokevirtual 249, 3) := by decide +kernel
theorem dX10_clock_7 : decode cX10_clock 7 = .ok (.lreturn, 1) := by decide +kernel
theorem dX10_timePairs_0 : decode cX10_timePairs 0 = .ok (.aload_n 0, 1) := by decide +kernel
theorem dX10_timePairs_1 : decode cX10_timePairs 1 = .ok (.getfield 10, 3) := by decide +kernel
theorem dX10_timePairs_4 : decode cX10_timePairs 4 = .ok (.getfield 170, 3) := by decide +kernel
theorem dX10_timePairs_7 : decode cX10_timePairs 7 = .ok (.getfield 253, 3) := by decide +kernel
theorem dX10_timePairs_10 : decode cX10_timePairs 10 = .ok (.getfield 257, 3) := by decide +kernel
theorem dX10_timePairs_13 : decode cX10_timePairs 13 = .ok (.ireturn, 1) := by decide +kernel
theorem dX10_groundTime_0 : decode cX10_groundTime 0 = .ok (.lload_n 1, 1) := by decide +kernel
theorem dX10_groundTime_1 : decode cX10_groundTime 1 = .ok (.ldc2_w 260, 3) := by decide +kernel
theorem dX10_groundTime_4 : decode cX10_groundTime 4 = .ok (.lcmp, 1) := by decide +kernel
theorem dX10_groundTime_5 : decode cX10_groundTime 5 = .ok (.ifCond .lt 11, 3) := by decide +kernel
theorem dX10_groundTime_8 : decode cX10_groundTime 8 = .ok (.lload_n 1, 1) := by decide +kernel
theorem dX10_groundTime_9 : decode cX10_groundTime 9 = .ok (.ldc2_w 262, 3) := by decide +kernel
theorem dX10_groundTime_12 : decode cX10_groundTime 12 = .ok (.lcmp, 1) := by decide +kernel
theorem dX10_groundTime_13 : decode cX10_groundTime 13 = .ok (.ifCond .le 14, 3) := by decide +kernel
theorem dX10_groundTime_16 : decode cX10_groundTime 16 = .ok (.new 28, 3) := by decide +kernel
theorem dX10_groundTime_19 : decode cX10_groundTime 19 = .ok (.dup, 1) := by decide +kernel
theorem dX10_groundTime_20 : decode cX10_groundTime 20 = .ok (.ldc_w 264, 3) := by decide +kernel
theorem dX10_groundTime_23 : decode cX10_groundTime 23 = .ok (.invokespecial 32, 3) := by decide +kernel
theorem dX10_groundTime_26 : decode cX10_groundTime 26 = .ok (.athrow, 1) := by decide +kernel
theorem dX10_groundTime_27 : decode cX10_groundTime 27 = .ok (.aload_n 0, 1) := by decide +kernel
theorem dX10_groundTime_28 : decode cX10_groundTime 28 = .ok (.getfield 10, 3) := by decide +kernel
theorem dX10_groundTime_31 : decode cX10_groundTime 31 = .ok (.getfield 170, 3) := by decide +kernel
theorem dX10_groundTime_34 : decode cX10_groundTime 34 = .ok (.getfield 253, 3) := by decide +kernel
theorem dX10_groundTime_37 : decode cX10_groundTime 37 = .ok (.astore_n 3, 1) := by decide +kernel
theorem dX10_groundTime_38 : decode cX10_groundTime 38 = .ok (.aload_n 3, 1) := by decide +kernel
theorem dX10_groundTime_39 : decode cX10_groundTime 39 = .ok (.getfield 266, 3) := by decide +kernel
theorem dX10_groundTime_42 : decode cX10_groundTime 42 = .ok (.iconst 1, 1) := by decide +kernel
theorem dX10_groundTime_43 : decode cX10_groundTime 43 = .ok (.laload, 1) := by decide +kernel
theorem dX10_groundTime_44 : decode cX10_groundTime 44 = .ok (.aload_n 3, 1) := by decide +kernel
theorem dX10_groundTime_45 : decode cX10_groundTime 45 = .ok (.getfield 266, 3) := by decide +kernel
theorem dX10_groundTime_48 : decode cX10_groundTime 48 = .ok (.iconst 0, 1) := by decide +kernel
theorem dX10_groundTime_49 : decode cX10_groundTime 49 = .ok (.laload, 1) := by decide +kernel
theorem dX10_groundTime_50 : decode cX10_groundTime 50 = .ok (.lsub, 1) := by decide +kernel
theorem dX10_groundTime_51 : decode cX10_groundTime 51 = .ok (.lstore 4, 2) := by decide +kernel
theorem dX10_groundTime_53 : decode cX10_groundTime 53 = .ok (.aload_n 3, 1) := by decide +kernel
theorem dX10_groundTime_54 : decode cX10_groundTime 54 = .ok (.getfield 257, 3) := by decide +kernel
theorem dX10_groundTime_57 : decode cX10_groundTime 57 = .ok (.iconst 2, 1) := by decide +kernel
theorem dX10_groundTime_58 : decode cX10_groundTime 58 = .ok (.if_icmp .lt 10, 3) := by decide +kernel
theorem dX10_groundTime_61 : decode cX10_groundTime 61 = .ok (.lload 4, 2) := by decide +kernel
theorem dX10_groundTime_63 : decode cX10_groundTime 63 = .ok (.lconst 0, 1) := by decide +kernel
theorem dX10_groundTime_64 : decode cX10_groundTime 64 = .ok (.lcmp, 1) := by decide +kernel
theorem dX10_groundTime_65 : decode cX10_groundTime 65 = .ok (.ifCond .ne 14, 3) := by decide +kernel
theorem dX10_groundTime_68 : decode cX10_groundTime 68 = .ok (.new 39, 3) := by decide +kernel
theorem dX10_groundTime_71 : decode cX10_groundTime 71 = .ok (.dup, 1) := by decide +kernel
theorem dX10_groundTime_72 : decode cX10_groundTime 72 = .ok (.ldc_w 270, 3) := by decide +kernel
theorem dX10_groundTime_75 : decode cX10_groundTime 75 = .ok (.invokespecial 43, 3) := by decide +kernel
theorem dX10_groundTime_78 : decode cX10_groundTime 78 = .ok (.athrow, 1) := by decide +kernel
theorem dX10_groundTime_79 : decode cX10_groundTime 79 = .ok (.aload_n 3, 1) := by decide +kernel
theorem dX10_groundTime_80 : decode cX10_groundTime 80 = .ok (.getfield 272, 3) := by decide +kernel
theorem dX10_groundTime_83 : decode cX10_groundTime 83 = .ok (.iconst 1, 1) := by decide +kernel
theorem dX10_groundTime_84 : decode cX10_groundTime 84 = .ok (.laload, 1) := by decide +kernel
theorem dX10_groundTime_85 : decode cX10_groundTime 85 = .ok (.aload_n 3, 1) := by decide +kernel
theorem dX10_groundTime_86 : decode cX10_groundTime 86 = .ok (.getfield 272, 3) := by decide +kernel
theorem dX10_groundTime_89 : decode cX10_groundTime 89 = .ok (.iconst 0, 1) := by decide +kernel
theorem dX10_groundTime_90 : decode cX10_groundTime 90 = .ok (.laload, 1) := by decide +kernel
theorem dX10_groundTime_91 : decode cX10_groundTime 91 = .ok (.lsub, 1) := by decide +kernel
theorem dX10_groundTime_92 : decode cX10_groundTime 92 = .ok (.lstore 6, 2) := by decide +kernel
theorem dX10_groundTime_94 : decode cX10_groundTime 94 = .ok (.lload_n 1, 1) := by decide +kernel
theorem dX10_groundTime_95 : decode cX10_groundTime 95 = .ok (.aload_n 3, 1) := by decide +kernel
theorem dX10_groundTime_96 : decode cX10_groundTime 96 = .ok (.getfield 266, 3) := by decide +kernel
theorem dX10_groundTime_99 : decode cX10_groundTime 99 = .ok (.iconst 1, 1) := by decide +kernel
theorem dX10_groundTime_100 : decode cX10_groundTime 100 = .ok (.laload, 1) := by decide +kernel
theorem dX10_groundTime_101 : decode cX10_groundTime 101 = .ok (.lsub, 1) := by decide +kernel
theorem dX10_groundTime_102 : decode cX10_groundTime 102 = .ok (.lload 6, 2) := by decide +kernel
theorem dX10_groundTime_104 : decode cX10_groundTime 104 = .ok (.lmul, 1) := by decide +kernel
theorem dX10_groundTime_105 : decode cX10_groundTime 105 = .ok (.lstore 8, 2) := by decide +kernel
theorem dX10_groundTime_107 : decode cX10_groundTime 107 = .ok (.aload_n 3, 1) := by decide +kernel
theorem dX10_groundTime_108 : decode cX10_groundTime 108 = .ok (.getfield 272, 3) := by decide +kernel
theorem dX10_groundTime_111 : decode cX10_groundTime 111 = .ok (.iconst 1, 1) := by decide +kernel
theorem dX10_groundTime_112 : decode cX10_groundTime 112 = .ok (.laload, 1) := by decide +kernel
theorem dX10_groundTime_113 : decode cX10_groundTime 113 = .ok (.lload 8, 2) := by decide +kernel
theorem dX10_groundTime_115 : decode cX10_groundTime 115 = .ok (.lload 4, 2) := by decide +kernel
theorem dX10_groundTime_117 : decode cX10_groundTime 117 = .ok (.invokestatic 275, 3) := by decide +kernel
theorem dX10_groundTime_120 : decode cX10_groundTime 120 = .ok (.ladd, 1) := by decide +kernel
theorem dX10_groundTime_121 : decode cX10_groundTime 121 = .ok (.lreturn, 1) := by decide +kernel
theorem dX10_undo_0 : decode cX10_undo 0 = .ok (.aload_n 0, 1) := by decide +kernel
theorem dX10_undo_1 : decode cX10_undo 1 = .ok (.getfield 20, 3) := by decide +kernel
theorem dX10_undo_4 : decode cX10_undo 4 = .ok (.ifCond .gt 14, 3) := by decide +kernel
theorem dX10_undo_7 : decode cX10_undo 7 = .ok (.new 39, 3) := by decide +kernel
theorem dX10_undo_10 : decode cX10_undo 10 = .ok (.dup, 1) := by decide +kernel
theorem dX10_undo_11 : decode cX10_undo 11 = .ok (.ldc_w 281, 3) := by decide +kernel
theorem dX10_undo_14 : decode cX10_undo 14 = .ok (.invokespecial 43, 3) := by decide +kernel
theorem dX10_undo_17 : decode cX10_undo 17 = .ok (.athrow, 1) := by decide +kernel
theorem dX10_undo_18 : decode cX10_undo 18 = .ok (.aload_n 0, 1) := by decide +kernel
theorem dX10_undo_19 : decode cX10_undo 19 = .ok (.dup, 1) := by decide +kernel
theorem dX10_undo_20 : decode cX10_undo 20 = .ok (.getfield 20, 3) := by decide +kernel
theorem dX10_undo_23 : decode cX10_undo 23 = .ok (.iconst 1, 1) := by decide +kernel
theorem dX10_undo_24 : decode cX10_undo 24 = .ok (.isub, 1) := by decide +kernel
theorem dX10_undo_25 : decode cX10_undo 25 = .ok (.putfield 20, 3) := by decide +kernel
theorem dX10_undo_28 : decode cX10_undo 28 = .ok (.aload_n 0, 1) := by decide +kernel
theorem dX10_undo_29 : decode cX10_undo 29 = .ok (.getfield 10, 3) := by decide +kernel
theorem dX10_undo_32 : decode cX10_undo 32 = .ok (.astore_n 1, 1) := by decide +kernel
theorem dX10_undo_33 : decode cX10_undo 33 = .ok (.aload_n 0, 1) := by decide +kernel
theorem dX10_undo_34 : decode cX10_undo 34 = .ok (.aload_n 0, 1) := by decide +kernel
theorem dX10_undo_35 : decode cX10_undo 35 = .ok (.getfield 16, 3) := by decide +kernel
theorem dX10_undo_38 : decode cX10_undo 38 = .ok (.aload_n 0, 1) := by decide +kernel
theorem dX10_undo_39 : decode cX10_undo 39 = .ok (.getfield 20, 3) := by decide +kernel
theorem dX10_undo_42 : decode cX10_undo 42 = .ok (.aaload, 1) := by decide +kernel
theorem dX10_undo_43 : decode cX10_undo 43 = .ok (.putfield 10, 3) := by decide +kernel
theorem dX10_undo_46 : decode cX10_undo 46 = .ok (.aload_n 0, 1) := by decide +kernel
theorem dX10_undo_47 : decode cX10_undo 47 = .ok (.getfield 16, 3) := by decide +kernel
theorem dX10_undo_50 : decode cX10_undo 50 = .ok (.aload_n 0, 1) := by decide +kernel
theorem dX10_undo_51 : decode cX10_undo 51 = .ok (.getfield 20, 3) := by decide +kernel
theorem dX10_undo_54 : decode cX10_undo 54 = .ok (.aload_n 1, 1) := by decide +kernel
theorem dX10_undo_55 : decode cX10_undo 55 = .ok (.aastore, 1) := by decide +kernel
theorem dX10_undo_56 : decode cX10_undo 56 = .ok (.aload_n 0, 1) := by decide +kernel
theorem dX10_undo_57 : decode cX10_undo 57 = .ok (.getfield 20, 3) := by decide +kernel
theorem dX10_undo_60 : decode cX10_undo 60 = .ok (.ireturn, 1) := by decide +kernel
theorem dX10_digest_0 : decode cX10_digest 0 = .ok (.ldc2_w 283, 3) := by decide +kernel
theorem dX10_digest_3 : decode cX10_digest 3 = .ok (.lstore_n 1, 1) := by decide +kernel
theorem dX10_digest_4 : decode cX10_digest 4 = .ok (.lload_n 1, 1) := by decide +kernel
theorem dX10_digest_5 : decode cX10_digest 5 = .ok (.aload_n 0, 1) := by decide +kernel
theorem dX10_digest_6 : decode cX10_digest 6 = .ok (.getfield 20, 3) := by decide +kernel
theorem dX10_digest_9 : decode cX10_digest 9 = .ok (.i2l, 1) := by decide +kernel
theorem dX10_digest_10 : decode cX10_digest 10 = .ok (.invokestatic 285, 3) := by decide +kernel
theorem dX10_digest_13 : decode cX10_digest 13 = .ok (.lstore_n 1, 1) := by decide +kernel
theorem dX10_digest_14 : decode cX10_digest 14 = .ok (.lload_n 1, 1) := by decide +kernel
theorem dX10_digest_15 : decode cX10_digest 15 = .ok (.aload_n 0, 1) := by decide +kernel
theorem dX10_digest_16 : decode cX10_digest 16 = .ok (.getfield 10, 3) := by decide +kernel
theorem dX10_digest_19 : decode cX10_digest 19 = .ok (.getfield 47, 3) := by decide +kernel
theorem dX10_digest_22 : decode cX10_digest 22 = .ok (.i2l, 1) := by decide +kernel
theorem dX10_digest_23 : decode cX10_digest 23 = .ok (.invokestatic 285, 3) := by decide +kernel
theorem dX10_digest_26 : decode cX10_digest 26 = .ok (.lstore_n 1, 1) := by decide +kernel
theorem dX10_digest_27 : decode cX10_digest 27 = .ok (.lload_n 1, 1) := by decide +kernel
theorem dX10_digest_28 : decode cX10_digest 28 = .ok (.aload_n 0, 1) := by decide +kernel
theorem dX10_digest_29 : decode cX10_digest 29 = .ok (.getfield 10, 3) := by decide +kernel
theorem dX10_digest_32 : decode cX10_digest 32 = .ok (.getfield 75, 3) := by decide +kernel
theorem dX10_digest_35 : decode cX10_digest 35 = .ok (.i2l, 1) := by decide +kernel
theorem dX10_digest_36 : decode cX10_digest 36 = .ok (.invokestatic 285, 3) := by decide +kernel
theorem dX10_digest_39 : decode cX10_digest 39 = .ok (.lstore_n 1, 1) := by decide +kernel
theorem dX10_digest_40 : decode cX10_digest 40 = .ok (.lload_n 1, 1) := by decide +kernel
theorem dX10_digest_41 : decode cX10_digest 41 = .ok (.aload_n 0, 1) := by decide +kernel
theorem dX10_digest_42 : decode cX10_digest 42 = .ok (.getfield 10, 3) := by decide +kernel
theorem dX10_digest_45 : decode cX10_digest 45 = .ok (.getfield 78, 3) := by decide +kernel
theorem dX10_digest_48 : decode cX10_digest 48 = .ok (.i2l, 1) := by decide +kernel
theorem dX10_digest_49 : decode cX10_digest 49 = .ok (.invokestatic 285, 3) := by decide +kernel
theorem dX10_digest_52 : decode cX10_digest 52 = .ok (.lstore_n 1, 1) := by decide +kernel
theorem dX10_digest_53 : decode cX10_digest 53 = .ok (.lload_n 1, 1) := by decide +kernel
theorem dX10_digest_54 : decode cX10_digest 54 = .ok (.aload_n 0, 1) := by decide +kernel
theorem dX10_digest_55 : decode cX10_digest 55 = .ok (.invokevirtual 288, 3) := by decide +kernel
theorem dX10_digest_58 : decode cX10_digest 58 = .ok (.i2l, 1) := by decide +kernel
theorem dX10_digest_59 : decode cX10_digest 59 = .ok (.invokestatic 285, 3) := by decide +kernel
theorem dX10_digest_62 : decode cX10_digest 62 = .ok (.lstore_n 1, 1) := by decide +kernel
theorem dX10_digest_63 : decode cX10_digest 63 = .ok (.lload_n 1, 1) := by decide +kernel
theorem dX10_digest_64 : decode cX10_digest 64 = .ok (.aload_n 0, 1) := by decide +kernel
theorem dX10_digest_65 : decode cX10_digest 65 = .ok (.invokevirtual 290, 3) := by decide +kernel
theorem dX10_digest_68 : decode cX10_digest 68 = .ok (.i2l, 1) := by decide +kernel
theorem dX10_digest_69 : decode cX10_digest 69 = .ok (.invokestatic 285, 3) := by decide +kernel
theorem dX10_digest_72 : decode cX10_digest 72 = .ok (.lstore_n 1, 1) := by decide +kernel
theorem dX10_digest_73 : decode cX10_digest 73 = .ok (.lload_n 1, 1) := by decide +kernel
theorem dX10_digest_74 : decode cX10_digest 74 = .ok (.aload_n 0, 1) := by decide +kernel
theorem dX10_digest_75 : decode cX10_digest 75 = .ok (.invokevirtual 293, 3) := by decide +kernel
theorem dX10_digest_78 : decode cX10_digest 78 = .ok (.invokestatic 285, 3) := by decide +kernel
theorem dX10_digest_81 : decode cX10_digest 81 = .ok (.lstore_n 1, 1) := by decide +kernel
theorem dX10_digest_82 : decode cX10_digest 82 = .ok (.aload_n 0, 1) := by decide +kernel
theorem dX10_digest_83 : decode cX10_digest 83 = .ok (.lload_n 1, 1) := by decide +kernel
theorem dX10_digest_84 : decode cX10_digest 84 = .ok (.invokevirtual 296, 3) := by decide +kernel
theorem dX10_digest_87 : decode cX10_digest 87 = .ok (.lstore_n 1, 1) := by decide +kernel
theorem dX10_digest_88 : decode cX10_digest 88 = .ok (.aload_n 0, 1) := by decide +kernel
theorem dX10_digest_89 : decode cX10_digest 89 = .ok (.lload_n 1, 1) := by decide +kernel
theorem dX10_digest_90 : decode cX10_digest 90 = .ok (.invokevirtual 300, 3) := by decide +kernel
theorem dX10_digest_93 : decode cX10_digest 93 = .ok (.lstore_n 1, 1) := by decide +kernel
theorem dX10_digest_94 : decode cX10_digest 94 = .ok (.aload_n 0, 1) := by decide +kernel
theorem dX10_digest_95 : decode cX10_digest 95 = .ok (.lload_n 1, 1) := by decide +kernel
theorem dX10_digest_96 : decode cX10_digest 96 = .ok (.invokevirtual 303, 3) := by decide +kernel
theorem dX10_digest_99 : decode cX10_digest 99 = .ok (.lstore_n 1, 1) := by decide +kernel
theorem dX10_digest_100 : decode cX10_digest 100 = .ok (.aload_n 0, 1) := by decide +kernel
theorem dX10_digest_101 : decode cX10_digest 101 = .ok (.lload_n 1, 1) := by decide +kernel
theorem dX10_digest_102 : decode cX10_digest 102 = .ok (.invokevirtual 306, 3) := by decide +kernel
theorem dX10_digest_105 : decode cX10_digest 105 = .ok (.lstore_n 1, 1) := by decide +kernel
theorem dX10_digest_106 : decode cX10_digest 106 = .ok (.aload_n 0, 1) := by decide +kernel
theorem dX10_digest_107 : decode cX10_digest 107 = .ok (.lload_n 1, 1) := by decide +kernel
theorem dX10_digest_108 : decode cX10_digest 108 = .ok (.invokevirtual 309, 3) := by decide +kernel
theorem dX10_digest_111 : decode cX10_digest 111 = .ok (.lreturn, 1) := by decide +kernel
theorem dX10_mixChannels_0 : decode cX10_mixChannels 0 = .ok (.lload_n 1, 1) := by decide +kernel
theorem dX10_mixChannels_1 : decode cX10_mixChannels 1 = .ok (.lstore_n 3, 1) := by decide +kernel
theorem dX10_mixChannels_2 : decode cX10_mixChannels 2 = .ok (.iconst 0, 1) := by decide +kernel
theorem dX10_mixChannels_3 : decode cX10_mixChannels 3 = .ok (.istore 5, 2) := by decide +kernel
theorem dX10_mixChannels_5 : decode cX10_mixChannels 5 = .ok (.iload 5, 2) := by decide +kernel
theorem dX10_mixChannels_7 : decode cX10_mixChannels 7 = .ok (.iconst 4, 1) := by decide +kernel
theorem dX10_mixChannels_8 : decode cX10_mixChannels 8 = .ok (.if_icmp .ge 141, 3) := by decide +kernel
theorem dX10_mixChannels_11 : decode cX10_mixChannels 11 = .ok (.aload_n 0, 1) := by decide +kernel
theorem dX10_mixChannels_12 : decode cX10_mixChannels 12 = .ok (.getfield 10, 3) := by decide +kernel
theorem dX10_mixChannels_15 : decode cX10_mixChannels 15 = .ok (.getfield 57, 3) := by decide +kernel
theorem dX10_mixChannels_18 : decode cX10_mixChannels 18 = .ok (.iload 5, 2) := by decide +kernel
theorem dX10_mixChannels_20 : decode cX10_mixChannels 20 = .ok (.aaload, 1) := by decide +kernel
theorem dX10_mixChannels_21 : decode cX10_mixChannels 21 = .ok (.astore 6, 2) := by decide +kernel
theorem dX10_mixChannels_23 : decode cX10_mixChannels 23 = .ok (.lload_n 3, 1) := by decide +kernel
theorem dX10_mixChannels_24 : decode cX10_mixChannels 24 = .ok (.aload 6, 2) := by decide +kernel
theorem dX10_mixChannels_26 : decode cX10_mixChannels 26 = .ok (.getfield 61, 3) := by decide +kernel
theorem dX10_mixChannels_29 : decode cX10_mixChannels 29 = .ok (.i2l, 1) := by decide +kernel
theorem dX10_mixChannels_30 : decode cX10_mixChannels 30 = .ok (.invokestatic 285, 3) := by decide +kernel
theorem dX10_mixChannels_33 : decode cX10_mixChannels 33 = .ok (.lstore_n 3, 1) := by decide +kernel
theorem dX10_mixChannels_34 : decode cX10_mixChannels 34 = .ok (.lload_n 3, 1) := by decide +kernel
theorem dX10_mixChannels_35 : decode cX10_mixChannels 35 = .ok (.aload 6, 2) := by decide +kernel
theorem dX10_mixChannels_37 : decode cX10_mixChannels 37 = .ok (.getfield 66, 3) := by decide +kernel
theorem dX10_mixChannels_40 : decode cX10_mixChannels 40 = .ok (.i2l, 1) := by decide +kernel
theorem dX10_mixChannels_41 : decode cX10_mixChannels 41 = .ok (.invokestatic 285, 3) := by decide +kernel
theorem dX10_mixChannels_44 : decode cX10_mixChannels 44 = .ok (.lstore_n 3, 1) := by decide +kernel
theorem dX10_mixChannels_45 : decode cX10_mixChannels 45 = .ok (.lload_n 3, 1) := by decide +kernel
theorem dX10_mixChannels_46 : decode cX10_mixChannels 46 = .ok (.aload 6, 2) := by decide +kernel
theorem dX10_mixChannels_48 : decode cX10_mixChannels 48 = .ok (.getfield 69, 3) := by decide +kernel
theorem dX10_mixChannels_51 : decode cX10_mixChannels 51 = .ok (.i2l, 1) := by decide +kernel
theorem dX10_mixChannels_52 : decode cX10_mixChannels 52 = .ok (.invokestatic 285, 3) := by decide +kernel
theorem dX10_mixChannels_55 : decode cX10_mixChannels 55 = .ok (.lstore_n 3, 1) := by decide +kernel
theorem dX10_mixChannels_56 : decode cX10_mixChannels 56 = .ok (.iconst 0, 1) := by decide +kernel
theorem dX10_mixChannels_57 : decode cX10_mixChannels 57 = .ok (.istore 7, 2) := by decide +kernel
theorem dX10_mixChannels_59 : decode cX10_mixChannels 59 = .ok (.iload 7, 2) := by decide +kernel
theorem dX10_mixChannels_61 : decode cX10_mixChannels 61 = .ok (.iconst 2, 1) := by decide +kernel
theorem dX10_mixChannels_62 : decode cX10_mixChannels 62 = .ok (.if_icmp .gt 23, 3) := by decide +kernel
theorem dX10_mixChannels_65 : decode cX10_mixChannels 65 = .ok (.lload_n 3, 1) := by decide +kernel
theorem dX10_mixChannels_66 : decode cX10_mixChannels 66 = .ok (.aload_n 0, 1) := by decide +kernel
theorem dX10_mixChannels_67 : decode cX10_mixChannels 67 = .ok (.iload 5, 2) := by decide +kernel
theorem dX10_mixChannels_69 : decode cX10_mixChannels 69 = .ok (.iload 7, 2) := by decide +kernel
theorem dX10_mixChannels_71 : decode cX10_mixChannels 71 = .ok (.invokevirtual 312, 3) := by decide +kernel
theorem dX10_mixChannels_74 : decode cX10_mixChannels 74 = .ok (.i2l, 1) := by decide +kernel
theorem dX10_mixChannels_75 : decode cX10_mixChannels 75 = .ok (.invokestatic 285, 3) := by decide +kernel
theorem dX10_mixChannels_78 : decode cX10_mixChannels 78 = .ok (.lstore_n 3, 1) := by decide +kernel
theorem dX10_mixChannels_79 : decode cX10_mixChannels 79 = .ok (.iinc 7 1, 3) := by decide +kernel
theorem dX10_mixChannels_82 : decode cX10_mixChannels 82 = .ok (.goto (-23), 3) := by decide +kernel
theorem dX10_mixChannels_85 : decode cX10_mixChannels 85 = .ok (.iconst 0, 1) := by decide +kernel
theorem dX10_mixChannels_86 : decode cX10_mixChannels 86 = .ok (.istore 7, 2) := by decide +kernel
theorem dX10_mixChannels_88 : decode cX10_mixChannels 88 = .ok (.iload 7, 2) := by decide +kernel
theorem dX10_mixChannels_90 : decode cX10_mixChannels 90 = .ok (.iconst 2, 1) := by decide +kernel
theorem dX10_mixChannels_91 : decode cX10_mixChannels 91 = .ok (.if_icmp .gt 23, 3) := by decide +kernel
theorem dX10_mixChannels_94 : decode cX10_mixChannels 94 = .ok (.lload_n 3, 1) := by decide +kernel
theorem dX10_mixChannels_95 : decode cX10_mixChannels 95 = .ok (.aload_n 0, 1) := by decide +kernel
theorem dX10_mixChannels_96 : decode cX10_mixChannels 96 = .ok (.iload 5, 2) := by decide +kernel
theorem dX10_mixChannels_98 : decode cX10_mixChannels 98 = .ok (.iload 7, 2) := by decide +kernel
theorem dX10_mixChannels_100 : decode cX10_mixChannels 100 = .ok (.invokevirtual 316, 3) := by decide +kernel
theorem dX10_mixChannels_103 : decode cX10_mixChannels 103 = .ok (.i2l, 1) := by decide +kernel
theorem dX10_mixChannels_104 : decode cX10_mixChannels 104 = .ok (.invokestatic 285, 3) := by decide +kernel
theorem dX10_mixChannels_107 : decode cX10_mixChannels 107 = .ok (.lstore_n 3, 1) := by decide +kernel
theorem dX10_mixChannels_108 : decode cX10_mixChannels 108 = .ok (.iinc 7 1, 3) := by decide +kernel
theorem dX10_mixChannels_111 : decode cX10_mixChannels 111 = .ok (.goto (-23), 3) := by decide +kernel
theorem dX10_mixChannels_114 : decode cX10_mixChannels 114 = .ok (.iconst 0, 1) := by decide +kernel
theorem dX10_mixChannels_115 : decode cX10_mixChannels 115 = .ok (.istore 7, 2) := by decide +kernel
theorem dX10_mixChannels_117 : decode cX10_mixChannels 117 = .ok (.iload 7, 2) := by decide +kernel
theorem dX10_mixChannels_119 : decode cX10_mixChannels 119 = .ok (.iconst 3, 1) := by decide +kernel
theorem dX10_mixChannels_120 : decode cX10_mixChannels 120 = .ok (.if_icmp .gt 23, 3) := by decide +kernel
theorem dX10_mixChannels_123 : decode cX10_mixChannels 123 = .ok (.lload_n 3, 1) := by decide +kernel
theorem dX10_mixChannels_124 : decode cX10_mixChannels 124 = .ok (.aload_n 0, 1) := by decide +kernel
theorem dX10_mixChannels_125 : decode cX10_mixChannels 125 = .ok (.iload 5, 2) := by decide +kernel
theorem dX10_mixChannels_127 : decode cX10_mixChannels 127 = .ok (.iload 7, 2) := by decide +kernel
theorem dX10_mixChannels_129 : decode cX10_mixChannels 129 = .ok (.invokevirtual 319, 3) := by decide +kernel
theorem dX10_mixChannels_132 : decode cX10_mixChannels 132 = .ok (.i2l, 1) := by decide +kernel
theorem dX10_mixChannels_133 : decode cX10_mixChannels 133 = .ok (.invokestatic 285, 3) := by decide +kernel
theorem dX10_mixChannels_136 : decode cX10_mixChannels 136 = .ok (.lstore_n 3, 1) := by decide +kernel
theorem dX10_mixChannels_137 : decode cX10_mixChannels 137 = .ok (.iinc 7 1, 3) := by decide +kernel
theorem dX10_mixChannels_140 : decode cX10_mixChannels 140 = .ok (.goto (-23), 3) := by decide +kernel
theorem dX10_mixChannels_143 : decode cX10_mixChannels 143 = .ok (.iinc 5 1, 3) := by decide +kernel
theorem dX10_mixChannels_146 : decode cX10_mixChannels 146 = .ok (.goto (-141), 3) := by decide +kernel
theorem dX10_mixChannels_149 : decode cX10_mixChannels 149 = .ok (.lload_n 3, 1) := by decide +kernel
theorem dX10_mixChannels_150 : decode cX10_mixChannels 150 = .ok (.aload_n 0, 1) := by decide +kernel
theorem dX10_mixChannels_151 : decode cX10_mixChannels 151 = .ok (.bipush 7, 2) := by decide +kernel
theorem dX10_mixChannels_153 : decode cX10_mixChannels 153 = .ok (.iconst 0, 1) := by decide +kernel
theorem dX10_mixChannels_154 : decode cX10_mixChannels 154 = .ok (.invokevirtual 316, 3) := by decide +kernel
theorem dX10_mixChannels_157 : decode cX10_mixChannels 157 = .ok (.i2l, 1) := by decide +kernel
theorem dX10_mixChannels_158 : decode cX10_mixChannels 158 = .ok (.invokestatic 285, 3) := by decide +kernel
theorem dX10_mixChannels_161 : decode cX10_mixChannels 161 = .ok (.lreturn, 1) := by decide +kernel
theorem dX10_mixWire_0 : decode cX10_mixWire 0 = .ok (.lload_n 1, 1) := by decide +kernel
theorem dX10_mixWire_1 : decode cX10_mixWire 1 = .ok (.aload_n 0, 1) := by decide +kernel
theorem dX10_mixWire_2 : decode cX10_mixWire 2 = .ok (.invokevirtual 322, 3) := by decide +kernel
theorem dX10_mixWire_5 : decode cX10_mixWire 5 = .ok (.i2l, 1) := by decide +kernel
theorem dX10_mixWire_6 : decode cX10_mixWire 6 = .ok (.invokestatic 285, 3) := by decide +kernel
theorem dX10_mixWire_9 : decode cX10_mixWire 9 = .ok (.lstore_n 3, 1) := by decide +kernel
theorem dX10_mixWire_10 : decode cX10_mixWire 10 = .ok (.iconst 0, 1) := by decide +kernel
theorem dX10_mixWire_11 : decode cX10_mixWire 11 = .ok (.istore 5, 2) := by decide +kernel
theorem dX10_mixWire_13 : decode cX10_mixWire 13 = .ok (.iload 5, 2) := by decide +kernel
theorem dX10_mixWire_15 : decode cX10_mixWire 15 = .ok (.aload_n 0, 1) := by decide +kernel
theorem dX10_mixWire_16 : decode cX10_mixWire 16 = .ok (.getfield 10, 3) := by decide +kernel
theorem dX10_mixWire_19 : decode cX10_mixWire 19 = .ok (.getfield 106, 3) := by decide +kernel
theorem dX10_mixWire_22 : decode cX10_mixWire 22 = .ok (.getfield 110, 3) := by decide +kernel
theorem dX10_mixWire_25 : decode cX10_mixWire 25 = .ok (.if_icmp .ge 64, 3) := by decide +kernel
theorem dX10_mixWire_28 : decode cX10_mixWire 28 = .ok (.aload_n 0, 1) := by decide +kernel
theorem dX10_mixWire_29 : decode cX10_mixWire 29 = .ok (.getfield 10, 3) := by decide +kernel
theorem dX10_mixWire_32 : decode cX10_mixWire 32 = .ok (.getfield 106, 3) := by decide +kernel
theorem dX10_mixWire_35 : decode cX10_mixWire 35 = .ok (.getfield 139, 3) := by decide +kernel
theorem dX10_mixWire_38 : decode cX10_mixWire 38 = .ok (.iload 5, 2) := by decide +kernel
theorem dX10_mixWire_40 : decode cX10_mixWire 40 = .ok (.aaload, 1) := by decide +kernel
theorem dX10_mixWire_41 : decode cX10_mixWire 41 = .ok (.astore 6, 2) := by decide +kernel
theorem dX10_mixWire_43 : decode cX10_mixWire 43 = .ok (.lload_n 3, 1) := by decide +kernel
theorem dX10_mixWire_44 : decode cX10_mixWire 44 = .ok (.aload 6, 2) := by decide +kernel
theorem dX10_mixWire_46 : decode cX10_mixWire 46 = .ok (.getfield 159, 3) := by decide +kernel
theorem dX10_mixWire_49 : decode cX10_mixWire 49 = .ok (.ifCond .eq 7, 3) := by decide +kernel
theorem dX10_mixWire_52 : decode cX10_mixWire 52 = .ok (.lconst 1, 1) := by decide +kernel
theorem dX10_mixWire_53 : decode cX10_mixWire 53 = .ok (.goto 4, 3) := by decide +kernel
theorem dX10_mixWire_56 : decode cX10_mixWire 56 = .ok (.lconst 0, 1) := by decide +kernel
theorem dX10_mixWire_57 : decode cX10_mixWire 57 = .ok (.invokestatic 285, 3) := by decide +kernel
theorem dX10_mixWire_60 : decode cX10_mixWire 60 = .ok (.lstore_n 3, 1) := by decide +kernel
theorem dX10_mixWire_61 : decode cX10_mixWire 61 = .ok (.lload_n 3, 1) := by decide +kernel
theorem dX10_mixWire_62 : decode cX10_mixWire 62 = .ok (.aload 6, 2) := by decide +kernel
theorem dX10_mixWire_64 : decode cX10_mixWire 64 = .ok (.invokevirtual 324, 3) := by decide +kernel
theorem dX10_mixWire_67 : decode cX10_mixWire 67 = .ok (.i2l, 1) := by decide +kernel
theorem dX10_mixWire_68 : decode cX10_mixWire 68 = .ok (.invokestatic 285, 3) := by decide +kernel
theorem dX10_mixWire_71 : decode cX10_mixWire 71 = .ok (.lstore_n 3, 1) := by decide +kernel
theorem dX10_mixWire_72 : decode cX10_mixWire 72 = .ok (.lload_n 3, 1) := by decide +kernel
theorem dX10_mixWire_73 : decode cX10_mixWire 73 = .ok (.aload 6, 2) := by decide +kernel
theorem dX10_mixWire_75 : decode cX10_mixWire 75 = .ok (.invokevirtual 327, 3) := by decide +kernel
theorem dX10_mixWire_78 : decode cX10_mixWire 78 = .ok (.i2l, 1) := by decide +kernel
theorem dX10_mixWire_79 : decode cX10_mixWire 79 = .ok (.invokestatic 285, 3) := by decide +kernel
theorem dX10_mixWire_82 : decode cX10_mixWire 82 = .ok (.lstore_n 3, 1) := by decide +kernel
theorem dX10_mixWire_83 : decode cX10_mixWire 83 = .ok (.iinc 5 1, 3) := by decide +kernel
theorem dX10_mixWire_86 : decode cX10_mixWire 86 = .ok (.goto (-73), 3) := by decide +kernel
theorem dX10_mixWire_89 : decode cX10_mixWire 89 = .ok (.lload_n 3, 1) := by decide +kernel
theorem dX10_mixWire_90 : decode cX10_mixWire 90 = .ok (.lreturn, 1) := by decide +kernel
theorem dX10_mixCounts_0 : decode cX10_mixCounts 0 = .ok (.lload_n 1, 1) := by decide +kernel
theorem dX10_mixCounts_1 : decode cX10_mixCounts 1 = .ok (.lstore_n 3, 1) := by decide +kernel
theorem dX10_mixCounts_2 : decode cX10_mixCounts 2 = .ok (.iconst 0, 1) := by decide +kernel
theorem dX10_mixCounts_3 : decode cX10_mixCounts 3 = .ok (.istore 5, 2) := by decide +kernel
theorem dX10_mixCounts_5 : decode cX10_mixCounts 5 = .ok (.iload 5, 2) := by decide +kernel
theorem dX10_mixCounts_7 : decode cX10_mixCounts 7 = .ok (.bipush 6, 2) := by decide +kernel
theorem dX10_mixCounts_9 : decode cX10_mixCounts 9 = .ok (.if_icmp .ge 21, 3) := by decide +kernel
theorem dX10_mixCounts_12 : decode cX10_mixCounts 12 = .ok (.lload_n 3, 1) := by decide +kernel
theorem dX10_mixCounts_13 : decode cX10_mixCounts 13 = .ok (.aload_n 0, 1) := by decide +kernel
theorem dX10_mixCounts_14 : decode cX10_mixCounts 14 = .ok (.iload 5, 2) := by decide +kernel
theorem dX10_mixCounts_16 : decode cX10_mixCounts 16 = .ok (.invokevirtual 330, 3) := by decide +kernel
theorem dX10_mixCounts_19 : decode cX10_mixCounts 19 = .ok (.i2l, 1) := by decide +kernel
theorem dX10_mixCounts_20 : decode cX10_mixCounts 20 = .ok (.invokestatic 285, 3) := by decide +kernel
theorem dX10_mixCounts_23 : decode cX10_mixCounts 23 = .ok (.lstore_n 3, 1) := by decide +kernel
theorem dX10_mixCounts_24 : decode cX10_mixCounts 24 = .ok (.iinc 5 1, 3) := by decide +kernel
theorem dX10_mixCounts_27 : decode cX10_mixCounts 27 = .ok (.goto (-22), 3) := by decide +kernel
theorem dX10_mixCounts_30 : decode cX10_mixCounts 30 = .ok (.iconst 0, 1) := by decide +kernel
theorem dX10_mixCounts_31 : decode cX10_mixCounts 31 = .ok (.istore 5, 2) := by decide +kernel
theorem dX10_mixCounts_33 : decode cX10_mixCounts 33 = .ok (.iload 5, 2) := by decide +kernel
theorem dX10_mixCounts_35 : decode cX10_mixCounts 35 = .ok (.bipush 15, 2) := by decide +kernel
theorem dX10_mixCounts_37 : decode cX10_mixCounts 37 = .ok (.if_icmp .ge 38, 3) := by decide +kernel
theorem dX10_mixCounts_40 : decode cX10_mixCounts 40 = .ok (.iconst 0, 1) := by decide +kernel
theorem dX10_mixCounts_41 : decode cX10_mixCounts 41 = .ok (.istore 6, 2) := by decide +kernel
theorem dX10_mixCounts_43 : decode cX10_mixCounts 43 = .ok (.iload 6, 2) := by decide +kernel
theorem dX10_mixCounts_45 : decode cX10_mixCounts 45 = .ok (.iconst 2, 1) := by decide +kernel
theorem dX10_mixCounts_46 : decode cX10_mixCounts 46 = .ok (.if_icmp .gt 23, 3) := by decide +kernel
theorem dX10_mixCounts_49 : decode cX10_mixCounts 49 = .ok (.lload_n 3, 1) := by decide +kernel
theorem dX10_mixCounts_50 : decode cX10_mixCounts 50 = .ok (.aload_n 0, 1) := by decide +kernel
theorem dX10_mixCounts_51 : decode cX10_mixCounts 51 = .ok (.iload 5, 2) := by decide +kernel
theorem dX10_mixCounts_53 : decode cX10_mixCounts 53 = .ok (.iload 6, 2) := by decide +kernel
theorem dX10_mixCounts_55 : decode cX10_mixCounts 55 = .ok (.invokevirtual 333, 3) := by decide +kernel
theorem dX10_mixCounts_58 : decode cX10_mixCounts 58 = .ok (.i2l, 1) := by decide +kernel
theorem dX10_mixCounts_59 : decode cX10_mixCounts 59 = .ok (.invokestatic 285, 3) := by decide +kernel
theorem dX10_mixCounts_62 : decode cX10_mixCounts 62 = .ok (.lstore_n 3, 1) := by decide +kernel
theorem dX10_mixCounts_63 : decode cX10_mixCounts 63 = .ok (.iinc 6 1, 3) := by decide +kernel
theorem dX10_mixCounts_66 : decode cX10_mixCounts 66 = .ok (.goto (-23), 3) := by decide +kernel
theorem dX10_mixCounts_69 : decode cX10_mixCounts 69 = .ok (.iinc 5 1, 3) := by decide +kernel
theorem dX10_mixCounts_72 : decode cX10_mixCounts 72 = .ok (.goto (-39), 3) := by decide +kernel
theorem dX10_mixCounts_75 : decode cX10_mixCounts 75 = .ok (.lload_n 3, 1) := by decide +kernel
theorem dX10_mixCounts_76 : decode cX10_mixCounts 76 = .ok (.lreturn, 1) := by decide +kernel
theorem dX10_mixPackets_0 : decode cX10_mixPackets 0 = .ok (.lload_n 1, 1) := by decide +kernel
theorem dX10_mixPackets_1 : decode cX10_mixPackets 1 = .ok (.aload_n 0, 1) := by decide +kernel
theorem dX10_mixPackets_2 : decode cX10_mixPackets 2 = .ok (.invokevirtual 335, 3) := by decide +kernel
theorem dX10_mixPackets_5 : decode cX10_mixPackets 5 = .ok (.i2l, 1) := by decide +kernel
theorem dX10_mixPackets_6 : decode cX10_mixPackets 6 = .ok (.invokestatic 285, 3) := by decide +kernel
theorem dX10_mixPackets_9 : decode cX10_mixPackets 9 = .ok (.lstore_n 3, 1) := by decide +kernel
theorem dX10_mixPackets_10 : decode cX10_mixPackets 10 = .ok (.iconst 0, 1) := by decide +kernel
theorem dX10_mixPackets_11 : decode cX10_mixPackets 11 = .ok (.istore 5, 2) := by decide +kernel
theorem dX10_mixPackets_13 : decode cX10_mixPackets 13 = .ok (.iload 5, 2) := by decide +kernel
theorem dX10_mixPackets_15 : decode cX10_mixPackets 15 = .ok (.aload_n 0, 1) := by decide +kernel
theorem dX10_mixPackets_16 : decode cX10_mixPackets 16 = .ok (.invokevirtual 335, 3) := by decide +kernel
theorem dX10_mixPackets_19 : decode cX10_mixPackets 19 = .ok (.if_icmp .ge 38, 3) := by decide +kernel
theorem dX10_mixPackets_22 : decode cX10_mixPackets 22 = .ok (.iconst 0, 1) := by decide +kernel
theorem dX10_mixPackets_23 : decode cX10_mixPackets 23 = .ok (.istore 6, 2) := by decide +kernel
theorem dX10_mixPackets_25 : decode cX10_mixPackets 25 = .ok (.iload 6, 2) := by decide +kernel
theorem dX10_mixPackets_27 : decode cX10_mixPackets 27 = .ok (.iconst 4, 1) := by decide +kernel
theorem dX10_mixPackets_28 : decode cX10_mixPackets 28 = .ok (.if_icmp .gt 23, 3) := by decide +kernel
theorem dX10_mixPackets_31 : decode cX10_mixPackets 31 = .ok (.lload_n 3, 1) := by decide +kernel
theorem dX10_mixPackets_32 : decode cX10_mixPackets 32 = .ok (.aload_n 0, 1) := by decide +kernel
theorem dX10_mixPackets_33 : decode cX10_mixPackets 33 = .ok (.iload 5, 2) := by decide +kernel
theorem dX10_mixPackets_35 : decode cX10_mixPackets 35 = .ok (.iload 6, 2) := by decide +kernel
theorem dX10_mixPackets_37 : decode cX10_mixPackets 37 = .ok (.invokevirtual 338, 3) := by decide +kernel
theorem dX10_mixPackets_40 : decode cX10_mixPackets 40 = .ok (.i2l, 1) := by decide +kernel
theorem dX10_mixPackets_41 : decode cX10_mixPackets 41 = .ok (.invokestatic 285, 3) := by decide +kernel
theorem dX10_mixPackets_44 : decode cX10_mixPackets 44 = .ok (.lstore_n 3, 1) := by decide +kernel
theorem dX10_mixPackets_45 : decode cX10_mixPackets 45 = .ok (.iinc 6 1, 3) := by decide +kernel
theorem dX10_mixPackets_48 : decode cX10_mixPackets 48 = .ok (.goto (-23), 3) := by decide +kernel
theorem dX10_mixPackets_51 : decode cX10_mixPackets 51 = .ok (.iinc 5 1, 3) := by decide +kernel
theorem dX10_mixPackets_54 : decode cX10_mixPackets 54 = .ok (.goto (-41), 3) := by decide +kernel
theorem dX10_mixPackets_57 : decode cX10_mixPackets 57 = .ok (.lload_n 3, 1) := by decide +kernel
theorem dX10_mixPackets_58 : decode cX10_mixPackets 58 = .ok (.lreturn, 1) := by decide +kernel
theorem dX10_mixTimes_0 : decode cX10_mixTimes 0 = .ok (.aload_n 0, 1) := by decide +kernel
theorem dX10_mixTimes_1 : decode cX10_mixTimes 1 = .ok (.getfield 10, 3) := by decide +kernel
theorem dX10_mixTimes_4 : decode cX10_mixTimes 4 = .ok (.getfield 170, 3) := by decide +kernel
theorem dX10_mixTimes_7 : decode cX10_mixTimes 7 = .ok (.getfield 253, 3) := by decide +kernel
theorem dX10_mixTimes_10 : decode cX10_mixTimes 10 = .ok (.astore_n 3, 1) := by decide +kernel
theorem dX10_mixTimes_11 : decode cX10_mixTimes 11 = .ok (.lload_n 1, 1) := by decide +kernel
theorem dX10_mixTimes_12 : decode cX10_mixTimes 12 = .ok (.aload_n 3, 1) := by decide +kernel
theorem dX10_mixTimes_13 : decode cX10_mixTimes 13 = .ok (.getfield 257, 3) := by decide +kernel
theorem dX10_mixTimes_16 : decode cX10_mixTimes 16 = .ok (.i2l, 1) := by decide +kernel
theorem dX10_mixTimes_17 : decode cX10_mixTimes 17 = .ok (.invokestatic 285, 3) := by decide +kernel
theorem dX10_mixTimes_20 : decode cX10_mixTimes 20 = .ok (.lstore 4, 2) := by decide +kernel
theorem dX10_mixTimes_22 : decode cX10_mixTimes 22 = .ok (.iconst 0, 1) := by decide +kernel
theorem dX10_mixTimes_23 : decode cX10_mixTimes 23 = .ok (.istore 6, 2) := by decide +kernel
theorem dX10_mixTimes_25 : decode cX10_mixTimes 25 = .ok (.iload 6, 2) := by decide +kernel
theorem dX10_mixTimes_27 : decode cX10_mixTimes 27 = .ok (.aload_n 3, 1) := by decide +kernel
theorem dX10_mixTimes_28 : decode cX10_mixTimes 28 = .ok (.getfield 257, 3) := by decide +kernel
theorem dX10_mixTimes_31 : decode cX10_mixTimes 31 = .ok (.if_icmp .ge 37, 3) := by decide +kernel
theorem dX10_mixTimes_34 : decode cX10_mixTimes 34 = .ok (.lload 4, 2) := by decide +kernel
theorem dX10_mixTimes_36 : decode cX10_mixTimes 36 = .ok (.aload_n 3, 1) := by decide +kernel
theorem dX10_mixTimes_37 : decode cX10_mixTimes 37 = .ok (.getfield 266, 3) := by decide +kernel
theorem dX10_mixTimes_40 : decode cX10_mixTimes 40 = .ok (.iload 6, 2) := by decide +kernel
theorem dX10_mixTimes_42 : decode cX10_mixTimes 42 = .ok (.laload, 1) := by decide +kernel
theorem dX10_mixTimes_43 : decode cX10_mixTimes 43 = .ok (.invokestatic 285, 3) := by decide +kernel
theorem dX10_mixTimes_46 : decode cX10_mixTimes 46 = .ok (.lstore 4, 2) := by decide +kernel
theorem dX10_mixTimes_48 : decode cX10_mixTimes 48 = .ok (.lload 4, 2) := by decide +kernel
theorem dX10_mixTimes_50 : decode cX10_mixTimes 50 = .ok (.aload_n 3, 1) := by decide +kernel
theorem dX10_mixTimes_51 : decode cX10_mixTimes 51 = .ok (.getfield 272, 3) := by decide +kernel
theorem dX10_mixTimes_54 : decode cX10_mixTimes 54 = .ok (.iload 6, 2) := by decide +kernel
theorem dX10_mixTimes_56 : decode cX10_mixTimes 56 = .ok (.laload, 1) := by decide +kernel
theorem dX10_mixTimes_57 : decode cX10_mixTimes 57 = .ok (.invokestatic 285, 3) := by decide +kernel
theorem dX10_mixTimes_60 : decode cX10_mixTimes 60 = .ok (.lstore 4, 2) := by decide +kernel
theorem dX10_mixTimes_62 : decode cX10_mixTimes 62 = .ok (.iinc 6 1, 3) := by decide +kernel
theorem dX10_mixTimes_65 : decode cX10_mixTimes 65 = .ok (.goto (-40), 3) := by decide +kernel
theorem dX10_mixTimes_68 : decode cX10_mixTimes 68 = .ok (.lload 4, 2) := by decide +kernel
theorem dX10_mixTimes_70 : decode cX10_mixTimes 70 = .ok (.lreturn, 1) := by decide +kernel
theorem dX10_mix_0 : decode cX10_mix 0 = .ok (.ldc2_w 341, 3) := by decide +kernel
theorem dX10_mix_3 : decode cX10_mix 3 = .ok (.lload_n 0, 1) := by decide +kernel
theorem dX10_mix_4 : decode cX10_mix 4 = .ok (.lmul, 1) := by decide +kernel
theorem dX10_mix_5 : decode cX10_mix 5 = .ok (.lload_n 2, 1) := by decide +kernel
theorem dX10_mix_6 : decode cX10_mix 6 = .ok (.ladd, 1) := by decide +kernel
theorem dX10_mix_7 : decode cX10_mix 7 = .ok (.lreturn, 1) := by decide +kernel
theorem dX10_outside_0 : decode cX10_outside 0 = .ok (.iload_n 0, 1) := by decide +kernel
theorem dX10_outside_1 : decode cX10_outside 1 = .ok (.iload_n 1, 1) := by decide +kernel
theorem dX10_outside_2 : decode cX10_outside 2 = .ok (.if_icmp .lt 8, 3) := by decide +kernel
theorem dX10_outside_5 : decode cX10_outside 5 = .ok (.iload_n 0, 1) := by decide +kernel
theorem dX10_outside_6 : decode cX10_outside 6 = .ok (.iload_n 2, 1) := by decide +kernel
theorem dX10_outside_7 : decode cX10_outside 7 = .ok (.if_icmp .le 7, 3) := by decide +kernel
theorem dX10_outside_10 : decode cX10_outside 10 = .ok (.iconst 1, 1) := by decide +kernel
theorem dX10_outside_11 : decode cX10_outside 11 = .ok (.goto 4, 3) := by decide +kernel
theorem dX10_outside_14 : decode cX10_outside 14 = .ok (.iconst 0, 1) := by decide +kernel
theorem dX10_outside_15 : decode cX10_outside 15 = .ok (.ireturn, 1) := by decide +kernel
theorem dX10_saveState_0 : decode cX10_saveState 0 = .ok (.aload_n 0, 1) := by decide +kernel
theorem dX10_saveState_1 : decode cX10_saveState 1 = .ok (.getfield 20, 3) := by decide +kernel
theorem dX10_saveState_4 : decode cX10_saveState 4 = .ok (.iconst 3, 1) := by decide +kernel
theorem dX10_saveState_5 : decode cX10_saveState 5 = .ok (.if_icmp .lt 49, 3) := by decide +kernel
theorem dX10_saveState_8 : decode cX10_saveState 8 = .ok (.aload_n 0, 1) := by decide +kernel
theorem dX10_saveState_9 : decode cX10_saveState 9 = .ok (.getfield 16, 3) := by decide +kernel
theorem dX10_saveState_12 : decode cX10_saveState 12 = .ok (.iconst 0, 1) := by decide +kernel
theorem dX10_saveState_13 : decode cX10_saveState 13 = .ok (.aaload, 1) := by decide +kernel
theorem dX10_saveState_14 : decode cX10_saveState 14 = .ok (.astore_n 1, 1) := by decide +kernel
theorem dX10_saveState_15 : decode cX10_saveState 15 = .ok (.iconst 1, 1) := by decide +kernel
theorem dX10_saveState_16 : decode cX10_saveState 16 = .ok (.istore_n 2, 1) := by decide +kernel
theorem dX10_saveState_17 : decode cX10_saveState 17 = .ok (.iload_n 2, 1) := by decide +kernel
theorem dX10_saveState_18 : decode cX10_saveState 18 = .ok (.iconst 3, 1) := by decide +kernel
theorem dX10_saveState_19 : decode cX10_saveState 19 = .ok (.if_icmp .ge 23, 3) := by decide +kernel
theorem dX10_saveState_22 : decode cX10_saveState 22 = .ok (.aload_n 0, 1) := by decide +kernel
theorem dX10_saveState_23 : decode cX10_saveState 23 = .ok (.getfield 16, 3) := by decide +kernel
theorem dX10_saveState_26 : decode cX10_saveState 26 = .ok (.iload_n 2, 1) := by decide +kernel
theorem dX10_saveState_27 : decode cX10_saveState 27 = .ok (.iconst 1, 1) := by decide +kernel
theorem dX10_saveState_28 : decode cX10_saveState 28 = .ok (.isub, 1) := by decide +kernel
theorem dX10_saveState_29 : decode cX10_saveState 29 = .ok (.aload_n 0, 1) := by decide +kernel
theorem dX10_saveState_30 : decode cX10_saveState 30 = .ok (.getfield 16, 3) := by decide +kernel
theorem dX10_saveState_33 : decode cX10_saveState 33 = .ok (.iload_n 2, 1) := by decide +kernel
theorem dX10_saveState_34 : decode cX10_saveState 34 = .ok (.aaload, 1) := by decide +kernel
theorem dX10_saveState_35 : decode cX10_saveState 35 = .ok (.aastore, 1) := by decide +kernel
theorem dX10_saveState_36 : decode cX10_saveState 36 = .ok (.iinc 2 1, 3) := by decide +kernel
theorem dX10_saveState_39 : decode cX10_saveState 39 = .ok (.goto (-22), 3) := by decide +kernel
theorem dX10_saveState_42 : decode cX10_saveState 42 = .ok (.aload_n 0, 1) := by decide +kernel
theorem dX10_saveState_43 : decode cX10_saveState 43 = .ok (.getfield 16, 3) := by decide +kernel
theorem dX10_saveState_46 : decode cX10_saveState 46 = .ok (.iconst 2, 1) := by decide +kernel
theorem dX10_saveState_47 : decode cX10_saveState 47 = .ok (.aload_n 1, 1) := by decide +kernel
theorem dX10_saveState_48 : decode cX10_saveState 48 = .ok (.aastore, 1) := by decide +kernel
theorem dX10_saveState_49 : decode cX10_saveState 49 = .ok (.aload_n 0, 1) := by decide +kernel
theorem dX10_saveState_50 : decode cX10_saveState 50 = .ok (.iconst 2, 1) := by decide +kernel
theorem dX10_saveState_51 : decode cX10_saveState 51 = .ok (.putfield 20, 3) := by decide +kernel
theorem dX10_saveState_54 : decode cX10_saveState 54 = .ok (.aload_n 0, 1) := by decide +kernel
theorem dX10_saveState_55 : decode cX10_saveState 55 = .ok (.getfield 16, 3) := by decide +kernel
theorem dX10_saveState_58 : decode cX10_saveState 58 = .ok (.aload_n 0, 1) := by decide +kernel
theorem dX10_saveState_59 : decode cX10_saveState 59 = .ok (.getfield 20, 3) := by decide +kernel
theorem dX10_saveState_62 : decode cX10_saveState 62 = .ok (.aaload, 1) := by decide +kernel
theorem dX10_saveState_63 : decode cX10_saveState 63 = .ok (.aload_n 0, 1) := by decide +kernel
theorem dX10_saveState_64 : decode cX10_saveState 64 = .ok (.getfield 10, 3) := by decide +kernel
theorem dX10_saveState_67 : decode cX10_saveState 67 = .ok (.invokevirtual 343, 3) := by decide +kernel
theorem dX10_saveState_70 : decode cX10_saveState 70 = .ok (.aload_n 0, 1) := by decide +kernel
theorem dX10_saveState_71 : decode cX10_saveState 71 = .ok (.dup, 1) := by decide +kernel
theorem dX10_saveState_72 : decode cX10_saveState 72 = .ok (.getfield 20, 3) := by decide +kernel
theorem dX10_saveState_75 : decode cX10_saveState 75 = .ok (.iconst 1, 1) := by decide +kernel
theorem dX10_saveState_76 : decode cX10_saveState 76 = .ok (.iadd, 1) := by decide +kernel
theorem dX10_saveState_77 : decode cX10_saveState 77 = .ok (.putfield 20, 3) := by decide +kernel
theorem dX10_saveState_80 : decode cX10_saveState 80 = .ok (.return_, 1) := by decide +kernel
end
section
theorem dX11_init_0 : decode cX11_init 0 = .ok (.aload_n 0, 1) := by decide +kernel
theorem dX11_init_1 : decode cX11_init 1 = .ok (.invokespecial 1, 3) := by decide +kernel
theorem dX11_init_4 : decode cX11_init 4 = .ok (.aload_n 0, 1) := by decide +kernel
theorem dX11_init_5 : decode cX11_init 5 = .ok (.sipush 12309, 3) := by decide +kernel
theorem dX11_init_8 : decode cX11_init 8 = .ok (.newarray .int, 2) := by decide +kernel
theorem dX11_init_10 : decode cX11_init 10 = .ok (.putfield 7, 3) := by decide +kernel
theorem dX11_init_13 : decode cX11_init 13 = .ok (.aload_n 0, 1) := by decide +kernel
theorem dX11_init_14 : decode cX11_init 14 = .ok (.ldc 13, 2) := by decide +kernel
theorem dX11_init_16 : decode cX11_init 16 = .ok (.newarray .int, 2) := by decide +kernel
theorem dX11_init_18 : decode cX11_init 18 = .ok (.putfield 14, 3) := by decide +kernel
theorem dX11_init_21 : decode cX11_init 21 = .ok (.aload_n 0, 1) := by decide +kernel
theorem dX11_init_22 : decode cX11_init 22 = .ok (.getfield 7, 3) := by decide +kernel
theorem dX11_init_25 : decode cX11_init 25 = .ok (.iconst 0, 1) := by decide +kernel
theorem dX11_init_26 : decode cX11_init 26 = .ok (.bipush 16, 2) := by decide +kernel
theorem dX11_init_28 : decode cX11_init 28 = .ok (.iastore, 1) := by decide +kernel
theorem dX11_init_29 : decode cX11_init 29 = .ok (.aload_n 0, 1) := by decide +kernel
theorem dX11_init_30 : decode cX11_init 30 = .ok (.getfield 7, 3) := by decide +kernel
theorem dX11_init_33 : decode cX11_init 33 = .ok (.iconst 2, 1) := by decide +kernel
theorem dX11_init_34 : decode cX11_init 34 = .ok (.sipush 250, 3) := by decide +kernel
theorem dX11_init_37 : decode cX11_init 37 = .ok (.iastore, 1) := by decide +kernel
theorem dX11_init_38 : decode cX11_init 38 = .ok (.aload_n 0, 1) := by decide +kernel
theorem dX11_init_39 : decode cX11_init 39 = .ok (.getfield 7, 3) := by decide +kernel
theorem dX11_init_42 : decode cX11_init 42 = .ok (.sipush 3389, 3) := by decide +kernel
theorem dX11_init_45 : decode cX11_init 45 = .ok (.iconst (-1), 1) := by decide +kernel
theorem dX11_init_46 : decode cX11_init 46 = .ok (.iastore, 1) := by decide +kernel
theorem dX11_init_47 : decode cX11_init 47 = .ok (.iconst 0, 1) := by decide +kernel
theorem dX11_init_48 : decode cX11_init 48 = .ok (.istore_n 1, 1) := by decide +kernel
theorem dX11_init_49 : decode cX11_init 49 = .ok (.iload_n 1, 1) := by decide +kernel
theorem dX11_init_50 : decode cX11_init 50 = .ok (.iconst 5, 1) := by decide +kernel
theorem dX11_init_51 : decode cX11_init 51 = .ok (.if_icmp .ge 20, 3) := by decide +kernel
theorem dX11_init_54 : decode cX11_init 54 = .ok (.aload_n 0, 1) := by decide +kernel
theorem dX11_init_55 : decode cX11_init 55 = .ok (.getfield 7, 3) := by decide +kernel
theorem dX11_init_58 : decode cX11_init 58 = .ok (.sipush 3390, 3) := by decide +kernel
theorem dX11_init_61 : decode cX11_init 61 = .ok (.iload_n 1, 1) := by decide +kernel
theorem dX11_init_62 : decode cX11_init 62 = .ok (.iadd, 1) := by decide +kernel
theorem dX11_init_63 : decode cX11_init 63 = .ok (.iconst (-1), 1) := by decide +kernel
theorem dX11_init_64 : decode cX11_init 64 = .ok (.iastore, 1) := by decide +kernel
theorem dX11_init_65 : decode cX11_init 65 = .ok (.iinc 1 1, 3) := by decide +kernel
theorem dX11_init_68 : decode cX11_init 68 = .ok (.goto (-19), 3) := by decide +kernel
theorem dX11_init_71 : decode cX11_init 71 = .ok (.iconst 0, 1) := by decide +kernel
theorem dX11_init_72 : decode cX11_init 72 = .ok (.istore_n 1, 1) := by decide +kernel
theorem dX11_init_73 : decode cX11_init 73 = .ok (.iload_n 1, 1) := by decide +kernel
theorem dX11_init_74 : decode cX11_init 74 = .ok (.iconst 4, 1) := by decide +kernel
theorem dX11_init_75 : decode cX11_init 75 = .ok (.if_icmp .ge 30, 3) := by decide +kernel
theorem dX11_init_78 : decode cX11_init 78 = .ok (.aload_n 0, 1) := by decide +kernel
theorem dX11_init_79 : decode cX11_init 79 = .ok (.getfield 7, 3) := by decide +kernel
theorem dX11_init_82 : decode cX11_init 82 = .ok (.bipush 29, 2) := by decide +kernel
theorem dX11_init_84 : decode cX11_init 84 = .ok (.iload_n 1, 1) := by decide +kernel
theorem dX11_init_85 : decode cX11_init 85 = .ok (.iadd, 1) := by decide +kernel
theorem dX11_init_86 : decode cX11_init 86 = .ok (.bipush 50, 2) := by decide +kernel
theorem dX11_init_88 : decode cX11_init 88 = .ok (.iastore, 1) := by decide +kernel
theorem dX11_init_89 : decode cX11_init 89 = .ok (.aload_n 0, 1) := by decide +kernel
theorem dX11_init_90 : decode cX11_init 90 = .ok (.getfield 7, 3) := by decide +kernel
theorem dX11_init_93 : decode cX11_init 93 = .ok (.bipush 50, 2) := by decide +kernel
theorem dX11_init_95 : decode cX11_init 95 = .ok (.iload_n 1, 1) := by decide +kernel
theorem dX11_init_96 : decode cX11_init 96 = .ok (.iadd, 1) := by decide +kernel
theorem dX11_init_97 : decode cX11_init 97 = .ok (.iconst (-1), 1) := by decide +kernel
theorem dX11_init_98 : decode cX11_init 98 = .ok (.iastore, 1) := by decide +kernel
theorem dX11_init_99 : decode cX11_init 99 = .ok (.iinc 1 1, 3) := by decide +kernel
theorem dX11_init_102 : decode cX11_init 102 = .ok (.goto (-29), 3) := by decide +kernel
theorem dX11_init_105 : decode cX11_init 105 = .ok (.iconst 0, 1) := by decide +kernel
theorem dX11_init_106 : decode cX11_init 106 = .ok (.istore_n 1, 1) := by decide +kernel
theorem dX11_init_107 : decode cX11_init 107 = .ok (.iload_n 1, 1) := by decide +kernel
theorem dX11_init_108 : decode cX11_init 108 = .ok (.bipush 15, 2) := by decide +kernel
theorem dX11_init_110 : decode cX11_init 110 = .ok (.if_icmp .ge 24, 3) := by decide +kernel
theorem dX11_init_113 : decode cX11_init 113 = .ok (.aload_n 0, 1) := by decide +kernel
theorem dX11_init_114 : decode cX11_init 114 = .ok (.getfield 7, 3) := by decide +kernel
theorem dX11_init_117 : decode cX11_init 117 = .ok (.sipush 4443, 3) := by decide +kernel
theorem dX11_init_120 : decode cX11_init 120 = .ok (.iconst 4, 1) := by decide +kernel
theorem dX11_init_121 : decode cX11_init 121 = .ok (.iload_n 1, 1) := by decide +kernel
theorem dX11_init_122 : decode cX11_init 122 = .ok (.imul, 1) := by decide +kernel
theorem dX11_init_123 : decode cX11_init 123 = .ok (.iadd, 1) := by decide +kernel
theorem dX11_init_124 : decode cX11_init 124 = .ok (.iconst 3, 1) := by decide +kernel
theorem dX11_init_125 : decode cX11_init 125 = .ok (.iadd, 1) := by decide +kernel
theorem dX11_init_126 : decode cX11_init 126 = .ok (.iconst (-1), 1) := by decide +kernel
theorem dX11_init_127 : decode cX11_init 127 = .ok (.iastore, 1) := by decide +kernel
theorem dX11_init_128 : decode cX11_init 128 = .ok (.iinc 1 1, 3) := by decide +kernel
theorem dX11_init_131 : decode cX11_init 131 = .ok (.goto (-24), 3) := by decide +kernel
theorem dX11_init_134 : decode cX11_init 134 = .ok (.return_, 1) := by decide +kernel
theorem dX11_thrown_0 : decode cX11_thrown 0 = .ok (.aload_n 0, 1) := by decide +kernel
theorem dX11_thrown_1 : decode cX11_thrown 1 = .ok (.getfield 17, 3) := by decide +kernel
theorem dX11_thrown_4 : decode cX11_thrown 4 = .ok (.ireturn, 1) := by decide +kernel
theorem dX11_refused_0 : decode cX11_refused 0 = .ok (.aload_n 0, 1) := by decide +kernel
theorem dX11_refused_1 : decode cX11_refused 1 = .ok (.iload_n 1, 1) := by decide +kernel
theorem dX11_refused_2 : decode cX11_refused 2 = .ok (.putfield 17, 3) := by decide +kernel
theorem dX11_refused_5 : decode cX11_refused 5 = .ok (.iload_n 1, 1) := by decide +kernel
theorem dX11_refused_6 : decode cX11_refused 6 = .ok (.ifCond .le 7, 3) := by decide +kernel
theorem dX11_refused_9 : decode cX11_refused 9 = .ok (.iconst 1, 1) := by decide +kernel
theorem dX11_refused_10 : decode cX11_refused 10 = .ok (.goto 4, 3) := by decide +kernel
theorem dX11_refused_13 : decode cX11_refused 13 = .ok (.iconst 0, 1) := by decide +kernel
theorem dX11_refused_14 : decode cX11_refused 14 = .ok (.ireturn, 1) := by decide +kernel
theorem dX11_within_0 : decode cX11_within 0 = .ok (.lload_n 0, 1) := by decide +kernel
theorem dX11_within_1 : decode cX11_within 1 = .ok (.lload_n 2, 1) := by decide +kernel
theorem dX11_within_2 : decode cX11_within 2 = .ok (.lcmp, 1) := by decide +kernel
theorem dX11_within_3 : decode cX11_within 3 = .ok (.ifCond .lt 14, 3) := by decide +kernel
theorem dX11_within_6 : decode cX11_within 6 = .ok (.lload_n 0, 1) := by decide +kernel
theorem dX11_within_7 : decode cX11_within 7 = .ok (.lload 4, 2) := by decide +kernel
theorem dX11_within_9 : decode cX11_within 9 = .ok (.lcmp, 1) := by decide +kernel
theorem dX11_within_10 : decode cX11_within 10 = .ok (.ifCond .gt 7, 3) := by decide +kernel
theorem dX11_within_13 : decode cX11_within 13 = .ok (.iconst 1, 1) := by decide +kernel
theorem dX11_within_14 : decode cX11_within 14 = .ok (.goto 4, 3) := by decide +kernel
theorem dX11_within_17 : decode cX11_within 17 = .ok (.iconst 0, 1) := by decide +kernel
theorem dX11_within_18 : decode cX11_within 18 = .ok (.ireturn, 1) := by decide +kernel
theorem dX11_isChannel_0 : decode cX11_isChannel 0 = .ok (.iload_n 0, 1) := by decide +kernel
theorem dX11_isChannel_1 : decode cX11_isChannel 1 = .ok (.i2l, 1) := by decide +kernel
theorem dX11_isChannel_2 : decode cX11_isChannel 2 = .ok (.lconst 0, 1) := by decide +kernel
theorem dX11_isChannel_3 : decode cX11_isChannel 3 = .ok (.ldc2_w 21, 3) := by decide +kernel
theorem dX11_isChannel_6 : decode cX11_isChannel 6 = .ok (.invokestatic 23, 3) := by decide +kernel
theorem dX11_isChannel_9 : decode cX11_isChannel 9 = .ok (.ireturn, 1) := by decide +kernel
theorem dX11_floor_0 : decode cX11_floor 0 = .ok (.lload_n 0, 1) := by decide +kernel
theorem dX11_floor_1 : decode cX11_floor 1 = .ok (.lload_n 2, 1) := by decide +kernel
theorem dX11_floor_2 : decode cX11_floor 2 = .ok (.ldiv, 1) := by decide +kernel
theorem dX11_floor_3 : decode cX11_floor 3 = .ok (.lstore 4, 2) := by decide +kernel
theorem dX11_floor_5 : decode cX11_floor 5 = .ok (.lload 4, 2) := by decide +kernel
theorem dX11_floor_7 : decode cX11_floor 7 = .ok (.lload_n 2, 1) := by decide +kernel
theorem dX11_floor_8 : decode cX11_floor 8 = .ok (.lmul, 1) := by decide +kernel
theorem dX11_floor_9 : decode cX11_floor 9 = .ok (.lload_n 0, 1) := by decide +kernel
theorem dX11_floor_10 : decode cX11_floor 10 = .ok (.lcmp, 1) := by decide +kernel
theorem dX11_floor_11 : decode cX11_floor 11 = .ok (.ifCond .eq 35, 3) := by decide +kernel
theorem dX11_floor_14 : decode cX11_floor 14 = .ok (.lload_n 0, 1) := by decide +kernel
theorem dX11_floor_15 : decode cX11_floor 15 = .ok (.lconst 0, 1) := by decide +kernel
theorem dX11_floor_16 : decode cX11_floor 16 = .ok (.lcmp, 1) := by decide +kernel
theorem dX11_floor_17 : decode cX11_floor 17 = .ok (.ifCond .ge 7, 3) := by decide +kernel
theorem dX11_floor_20 : decode cX11_floor 20 = .ok (.iconst 1, 1) := by decide +kernel
theorem dX11_floor_21 : decode cX11_floor 21 = .ok (.goto 4, 3) := by decide +kernel
theorem dX11_floor_24 : decode cX11_floor 24 = .ok (.iconst 0, 1) := by decide +kernel
theorem dX11_floor_25 : decode cX11_floor 25 = .ok (.lload_n 2, 1) := by decide +kernel
theorem dX11_floor_26 : decode cX11_floor 26 = .ok (.lconst 0, 1) := by decide +kernel
theorem dX11_floor_27 : decode cX11_floor 27 = .ok (.lcmp, 1) := by decide +kernel
theorem dX11_floor_28 : decode cX11_floor 28 = .ok (.ifCond .ge 7, 3) := by decide +kernel
theorem dX11_floor_31 : decode cX11_floor 31 = .ok (.iconst 1, 1) := by decide +kernel
theorem dX11_floor_32 : decode cX11_floor 32 = .ok (.goto 4, 3) := by decide +kernel
theorem dX11_floor_35 : decode cX11_floor 35 = .ok (.iconst 0, 1) := by decide +kernel
theorem dX11_floor_36 : decode cX11_floor 36 = .ok (.if_icmp .eq 10, 3) := by decide +kernel
theorem dX11_floor_39 : decode cX11_floor 39 = .ok (.lload 4, 2) := by decide +kernel
theorem dX11_floor_41 : decode cX11_floor 41 = .ok (.lconst 1, 1) := by decide +kernel
theorem dX11_floor_42 : decode cX11_floor 42 = .ok (.lsub, 1) := by decide +kernel
theorem dX11_floor_43 : decode cX11_floor 43 = .ok (.goto 5, 3) := by decide +kernel
theorem dX11_floor_46 : decode cX11_floor 46 = .ok (.lload 4, 2) := by decide +kernel
theorem dX11_floor_48 : decode cX11_floor 48 = .ok (.lreturn, 1) := by decide +kernel
theorem dX11_saves_0 : decode cX11_saves 0 = .ok (.aload_n 0, 1) := by decide +kernel
theorem dX11_saves_1 : decode cX11_saves 1 = .ok (.getfield 27, 3) := by decide +kernel
theorem dX11_saves_4 : decode cX11_saves 4 = .ok (.iconst 3, 1) := by decide +kernel
theorem dX11_saves_5 : decode cX11_saves 5 = .ok (.if_icmp .ne 44, 3) := by decide +kernel
theorem dX11_saves_8 : decode cX11_saves 8 = .ok (.iconst 0, 1) := by decide +kernel
theorem dX11_saves_9 : decode cX11_saves 9 = .ok (.istore_n 1, 1) := by decide +kernel
theorem dX11_saves_10 : decode cX11_saves 10 = .ok (.iload_n 1, 1) := by decide +kernel
theorem dX11_saves_11 : decode cX11_saves 11 = .ok (.sipush 24618, 3) := by decide +kernel
theorem dX11_saves_14 : decode cX11_saves 14 = .ok (.if_icmp .ge 25, 3) := by decide +kernel
theorem dX11_saves_17 : decode cX11_saves 17 = .ok (.aload_n 0, 1) := by decide +kernel
theorem dX11_saves_18 : decode cX11_saves 18 = .ok (.getfield 14, 3) := by decide +kernel
theorem dX11_saves_21 : decode cX11_saves 21 = .ok (.iload_n 1, 1) := by decide +kernel
theorem dX11_saves_22 : decode cX11_saves 22 = .ok (.aload_n 0, 1) := by decide +kernel
theorem dX11_saves_23 : decode cX11_saves 23 = .ok (.getfield 14, 3) := by decide +kernel
theorem dX11_saves_26 : decode cX11_saves 26 = .ok (.iload_n 1, 1) := by decide +kernel
theorem dX11_saves_27 : decode cX11_saves 27 = .ok (.sipush 12309, 3) := by decide +kernel
theorem dX11_saves_30 : decode cX11_saves 30 = .ok (.iadd, 1) := by decide +kernel
theorem dX11_saves_31 : decode cX11_saves 31 = .ok (.iaload, 1) := by decide +kernel
theorem dX11_saves_32 : decode cX11_saves 32 = .ok (.iastore, 1) := by decide +kernel
theorem dX11_saves_33 : decode cX11_saves 33 = .ok (.iinc 1 1, 3) := by decide +kernel
theorem dX11_saves_36 : decode cX11_saves 36 = .ok (.goto (-26), 3) := by decide +kernel
theorem dX11_saves_39 : decode cX11_saves 39 = .ok (.aload_n 0, 1) := by decide +kernel
theorem dX11_saves_40 : decode cX11_saves 40 = .ok (.dup, 1) := by decide +kernel
theorem dX11_saves_41 : decode cX11_saves 41 = .ok (.getfield 27, 3) := by decide +kernel
theorem dX11_saves_44 : decode cX11_saves 44 = .ok (.iconst 1, 1) := by decide +kernel
theorem dX11_saves_45 : decode cX11_saves 45 = .ok (.isub, 1) := by decide +kernel
theorem dX11_saves_46 : decode cX11_saves 46 = .ok (.putfield 27, 3) := by decide +kernel
theorem dX11_saves_49 : decode cX11_saves 49 = .ok (.iconst 0, 1) := by decide +kernel
theorem dX11_saves_50 : decode cX11_saves 50 = .ok (.istore_n 1, 1) := by decide +kernel
theorem dX11_saves_51 : decode cX11_saves 51 = .ok (.iload_n 1, 1) := by decide +kernel
theorem dX11_saves_52 : decode cX11_saves 52 = .ok (.sipush 12309, 3) := by decide +kernel
theorem dX11_saves_55 : decode cX11_saves 55 = .ok (.if_icmp .ge 30, 3) := by decide +kernel
theorem dX11_saves_58 : decode cX11_saves 58 = .ok (.aload_n 0, 1) := by decide +kernel
theorem dX11_saves_59 : decode cX11_saves 59 = .ok (.getfield 14, 3) := by decide +kernel
theorem dX11_saves_62 : decode cX11_saves 62 = .ok (.sipush 12309, 3) := by decide +kernel
theorem dX11_saves_65 : decode cX11_saves 65 = .ok (.aload_n 0, 1) := by decide +kernel
theorem dX11_saves_66 : decode cX11_saves 66 = .ok (.getfield 27, 3) := by decide +kernel
theorem dX11_saves_69 : decode cX11_saves 69 = .ok (.imul, 1) := by decide +kernel
theorem dX11_saves_70 : decode cX11_saves 70 = .ok (.iload_n 1, 1) := by decide +kernel
theorem dX11_saves_71 : decode cX11_saves 71 = .ok (.iadd, 1) := by decide +kernel
theorem dX11_saves_72 : decode cX11_saves 72 = .ok (.aload_n 0, 1) := by decide +kernel
theorem dX11_saves_73 : decode cX11_saves 73 = .ok (.getfield 7, 3) := by decide +kernel
theorem dX11_saves_76 : decode cX11_saves 76 = .ok (.iload_n 1, 1) := by decide +kernel
theorem dX11_saves_77 : decode cX11_saves 77 = .ok (.iaload, 1) := by decide +kernel
theorem dX11_saves_78 : decode cX11_saves 78 = .ok (.iastore, 1) := by decide +kernel
theorem dX11_saves_79 : decode cX11_saves 79 = .ok (.iinc 1 1, 3) := by decide +kernel
theorem dX11_saves_82 : decode cX11_saves 82 = .ok (.goto (-31), 3) := by decide +kernel
theorem dX11_saves_85 : decode cX11_saves 85 = .ok (.aload_n 0, 1) := by decide +kernel
theorem dX11_saves_86 : decode cX11_saves 86 = .ok (.dup, 1) := by decide +kernel
theorem dX11_saves_87 : decode cX11_saves 87 = .ok (.getfield 27, 3) := by decide +kernel
theorem dX11_saves_90 : decode cX11_saves 90 = .ok (.iconst 1, 1) := by decide +kernel
theorem dX11_saves_91 : decode cX11_saves 91 = .ok (.iadd, 1) := by decide +kernel
theorem dX11_saves_92 : decode cX11_saves 92 = .ok (.putfield 27, 3) := by decide +kernel
theorem dX11_saves_95 : decode cX11_saves 95 = .ok (.return_, 1) := by decide +kernel
theorem dX11_undo_0 : decode cX11_undo 0 = .ok (.aload_n 0, 1) := by decide +kernel
theorem dX11_undo_1 : decode cX11_undo 1 = .ok (.aload_n 0, 1) := by decide +kernel
theorem dX11_undo_2 : decode cX11_undo 2 = .ok (.getfield 27, 3) := by decide +kernel
theorem dX11_undo_5 : decode cX11_undo 5 = .ok (.ifCond .ne 7, 3) := by decide +kernel
theorem dX11_undo_8 : decode cX11_undo 8 = .ok (.iconst 1, 1) := by decide +kernel
theorem dX11_undo_9 : decode cX11_undo 9 = .ok (.goto 4, 3) := by decide +kernel
theorem dX11_undo_12 : decode cX11_undo 12 = .ok (.iconst 0, 1) := by decide +kernel
theorem dX11_undo_13 : decode cX11_undo 13 = .ok (.invokevirtual 30, 3) := by decide +kernel
theorem dX11_undo_16 : decode cX11_undo 16 = .ok (.ifCond .eq 5, 3) := by decide +kernel
theorem dX11_undo_19 : decode cX11_undo 19 = .ok (.iconst 0, 1) := by decide +kernel
theorem dX11_undo_20 : decode cX11_undo 20 = .ok (.ireturn, 1) := by decide +kernel
theorem dX11_undo_21 : decode cX11_undo 21 = .ok (.aload_n 0, 1) := by decide +kernel
theorem dX11_undo_22 : decode cX11_undo 22 = .ok (.dup, 1) := by decide +kernel
theorem dX11_undo_23 : decode cX11_undo 23 = .ok (.getfield 27, 3) := by decide +kernel
theorem dX11_undo_26 : decode cX11_undo 26 = .ok (.iconst 1, 1) := by decide +kernel
theorem dX11_undo_27 : decode cX11_undo 27 = .ok (.isub, 1) := by decide +kernel
theorem dX11_undo_28 : decode cX11_undo 28 = .ok (.putfield 27, 3) := by decide +kernel
theorem dX11_undo_31 : decode cX11_undo 31 = .ok (.iconst 0, 1) := by decide +kernel
theorem dX11_undo_32 : decode cX11_undo 32 = .ok (.istore_n 1, 1) := by decide +kernel
theorem dX11_undo_33 : decode cX11_undo 33 = .ok (.iload_n 1, 1) := by decide +kernel
theorem dX11_undo_34 : decode cX11_undo 34 = .ok (.sipush 12309, 3) := by decide +kernel
theorem dX11_undo_37 : decode cX11_undo 37 = .ok (.if_icmp .ge 30, 3) := by decide +kernel
theorem dX11_undo_40 : decode cX11_undo 40 = .ok (.aload_n 0, 1) := by decide +kernel
theorem dX11_undo_41 : decode cX11_undo 41 = .ok (.getfield 7, 3) := by decide +kernel
theorem dX11_undo_44 : decode cX11_undo 44 = .ok (.iload_n 1, 1) := by decide +kernel
theorem dX11_undo_45 : decode cX11_undo 45 = .ok (.aload_n 0, 1) := by decide +kernel
theorem dX11_undo_46 : decode cX11_undo 46 = .ok (.getfield 14, 3) := by decide +kernel
theorem dX11_undo_49 : decode cX11_undo 49 = .ok (.sipush 12309, 3) := by decide +kernel
theorem dX11_undo_52 : decode cX11_undo 52 = .ok (.aload_n 0, 1) := by decide +kernel
theorem dX11_undo_53 : decode cX11_undo 53 = .ok (.getfield 27, 3) := by decide +kernel
theorem dX11_undo_56 : decode cX11_undo 56 = .ok (.imul, 1) := by decide +kernel
theorem dX11_undo_57 : decode cX11_undo 57 = .ok (.iload_n 1, 1) := by decide +kernel
theorem dX11_undo_58 : decode cX11_undo 58 = .ok (.iadd, 1) := by decide +kernel
theorem dX11_undo_59 : decode cX11_undo 59 = .ok (.iaload, 1) := by decide +kernel
theorem dX11_undo_60 : decode cX11_undo 60 = .ok (.iastore, 1) := by decide +kernel
theorem dX11_undo_61 : decode cX11_undo 61 = .ok (.iinc 1 1, 3) := by decide +kernel
theorem dX11_undo_64 : decode cX11_undo 64 = .ok (.goto (-31), 3) := by decide +kernel
theorem dX11_undo_67 : decode cX11_undo 67 = .ok (.aload_n 0, 1) := by decide +kernel
theorem dX11_undo_68 : decode cX11_undo 68 = .ok (.getfield 27, 3) := by decide +kernel
theorem dX11_undo_71 : decode cX11_undo 71 = .ok (.ireturn, 1) := by decide +kernel
theorem dX11_at_0 : decode cX11_at 0 = .ok (.bipush 62, 2) := by decide +kernel
theorem dX11_at_2 : decode cX11_at 2 = .ok (.bipush 80, 2) := by decide +kernel
theorem dX11_at_4 : decode cX11_at 4 = .ok (.iload_n 0, 1) := by decide +kernel
theorem dX11_at_5 : decode cX11_at 5 = .ok (.imul, 1) := by decide +kernel
theorem dX11_at_6 : decode cX11_at 6 = .ok (.iadd, 1) := by decide +kernel
theorem dX11_at_7 : decode cX11_at 7 = .ok (.iconst 5, 1) := by decide +kernel
theorem dX11_at_8 : decode cX11_at 8 = .ok (.iload_n 1, 1) := by decide +kernel
theorem dX11_at_9 : decode cX11_at 9 = .ok (.imul, 1) := by decide +kernel
theorem dX11_at_10 : decode cX11_at 10 = .ok (.iadd, 1) := by decide +kernel
theorem dX11_at_11 : decode cX11_at 11 = .ok (.ireturn, 1) := by decide +kernel
theorem dX11_pending_0 : decode cX11_pending 0 = .ok (.aload_n 0, 1) := by decide +kernel
theorem dX11_pending_1 : decode cX11_pending 1 = .ok (.getfield 7, 3) := by decide +kernel
theorem dX11_pending_4 : decode cX11_pending 4 = .ok (.bipush 58, 2) := by decide +kernel
theorem dX11_pending_6 : decode cX11_pending 6 = .ok (.iload_n 1, 1) := by decide +kernel
theorem dX11_pending_7 : decode cX11_pending 7 = .ok (.iadd, 1) := by decide +kernel
theorem dX11_pending_8 : decode cX11_pending 8 = .ok (.iaload, 1) := by decide +kernel
theorem dX11_pending_9 : decode cX11_pending 9 = .ok (.ineg, 1) := by decide +kernel
theorem dX11_pending_10 : decode cX11_pending 10 = .ok (.istore_n 2, 1) := by decide +kernel
theorem dX11_pending_11 : decode cX11_pending 11 = .ok (.iconst 0, 1) := by decide +kernel
theorem dX11_pending_12 : decode cX11_pending 12 = .ok (.istore_n 3, 1) := by decide +kernel
theorem dX11_pending_13 : decode cX11_pending 13 = .ok (.iload_n 3, 1) := by decide +kernel
theorem dX11_pending_14 : decode cX11_pending 14 = .ok (.aload_n 0, 1) := by decide +kernel
theorem dX11_pending_15 : decode cX11_pending 15 = .ok (.getfield 7, 3) := by decide +kernel
theorem dX11_pending_18 : decode cX11_pending 18 = .ok (.bipush 54, 2) := by decide +kernel
theorem dX11_pending_20 : decode cX11_pending 20 = .ok (.iload_n 1, 1) := by decide +kernel
theorem dX11_pending_21 : decode cX11_pending 21 = .ok (.iadd, 1) := by decide +kernel
theorem dX11_pending_22 : decode cX11_pending 22 = .ok (.iaload, 1) := by decide +kernel
theorem dX11_pending_23 : decode cX11_pending 23 = .ok (.if_icmp .ge 26, 3) := by decide +kernel
theorem dX11_pending_26 : decode cX11_pending 26 = .ok (.iload_n 2, 1) := by decide +kernel
theorem dX11_pending_27 : decode cX11_pending 27 = .ok (.iconst 3, 1) := by decide +kernel
theorem dX11_pending_28 : decode cX11_pending 28 = .ok (.aload_n 0, 1) := by decide +kernel
theorem dX11_pending_29 : decode cX11_pending 29 = .ok (.getfield 7, 3) := by decide +kernel
theorem dX11_pending_32 : decode cX11_pending 32 = .ok (.iload_n 1, 1) := by decide +kernel
theorem dX11_pending_33 : decode cX11_pending 33 = .ok (.iload_n 3, 1) := by decide +kernel
theorem dX11_pending_34 : decode cX11_pending 34 = .ok (.invokestatic 34, 3) := by decide +kernel
theorem dX11_pending_37 : decode cX11_pending 37 = .ok (.iconst 2, 1) := by decide +kernel
theorem dX11_pending_38 : decode cX11_pending 38 = .ok (.iadd, 1) := by decide +kernel
theorem dX11_pending_39 : decode cX11_pending 39 = .ok (.iaload, 1) := by decide +kernel
theorem dX11_pending_40 : decode cX11_pending 40 = .ok (.iadd, 1) := by decide +kernel
theorem dX11_pending_41 : decode cX11_pending 41 = .ok (.iadd, 1) := by decide +kernel
theorem dX11_pending_42 : decode cX11_pending 42 = .ok (.istore_n 2, 1) := by decide +kernel
theorem dX11_pending_43 : decode cX11_pending 43 = .ok (.iinc 3 1, 3) := by decide +kernel
theorem dX11_pending_46 : decode cX11_pending 46 = .ok (.goto (-33), 3) := by decide +kernel
theorem dX11_pending_49 : decode cX11_pending 49 = .ok (.iload_n 2, 1) := by decide +kernel
theorem dX11_pending_50 : decode cX11_pending 50 = .ok (.ireturn, 1) := by decide +kernel
theorem dX11_packetsIn_0 : decode cX11_packetsIn 0 = .ok (.iconst 0, 1) := by decide +kernel
theorem dX11_packetsIn_1 : decode cX11_packetsIn 1 = .ok (.istore_n 2, 1) := by decide +kernel
theorem dX11_packetsIn_2 : decode cX11_packetsIn 2 = .ok (.iconst 0, 1) := by decide +kernel
theorem dX11_packetsIn_3 : decode cX11_packetsIn 3 = .ok (.istore_n 3, 1) := by decide +kernel
theorem dX11_packetsIn_4 : decode cX11_packetsIn 4 = .ok (.iload_n 3, 1) := by decide +kernel
theorem dX11_packetsIn_5 : decode cX11_packetsIn 5 = .ok (.aload_n 0, 1) := by decide +kernel
theorem dX11_packetsIn_6 : decode cX11_packetsIn 6 = .ok (.getfield 7, 3) := by decide +kernel
theorem dX11_packetsIn_9 : decode cX11_packetsIn 9 = .ok (.bipush 54, 2) := by decide +kernel
theorem dX11_packetsIn_11 : decode cX11_packetsIn 11 = .ok (.iload_n 1, 1) := by decide +kernel
theorem dX11_packetsIn_12 : decode cX11_packetsIn 12 = .ok (.iadd, 1) := by decide +kernel
theorem dX11_packetsIn_13 : decode cX11_packetsIn 13 = .ok (.iaload, 1) := by decide +kernel
theorem dX11_packetsIn_14 : decode cX11_packetsIn 14 = .ok (.if_icmp .ge 32, 3) := by decide +kernel
theorem dX11_packetsIn_17 : decode cX11_packetsIn 17 = .ok (.iload_n 2, 1) := by decide +kernel
theorem dX11_packetsIn_18 : decode cX11_packetsIn 18 = .ok (.aload_n 0, 1) := by decide +kernel
theorem dX11_packetsIn_19 : decode cX11_packetsIn 19 = .ok (.getfield 7, 3) := by decide +kernel
theorem dX11_packetsIn_22 : decode cX11_packetsIn 22 = .ok (.iload_n 1, 1) := by decide +kernel
theorem dX11_packetsIn_23 : decode cX11_packetsIn 23 = .ok (.iload_n 3, 1) := by decide +kernel
theorem dX11_packetsIn_24 : decode cX11_packetsIn 24 = .ok (.invokestatic 34, 3) := by decide +kernel
theorem dX11_packetsIn_27 : decode cX11_packetsIn 27 = .ok (.iaload, 1) := by decide +kernel
theorem dX11_packetsIn_28 : decode cX11_packetsIn 28 = .ok (.bipush 15, 2) := by decide +kernel
theorem dX11_packetsIn_30 : decode cX11_packetsIn 30 = .ok (.if_icmp .ge 7, 3) := by decide +kernel
theorem dX11_packetsIn_33 : decode cX11_packetsIn 33 = .ok (.iconst 1, 1) := by decide +kernel
theorem dX11_packetsIn_34 : decode cX11_packetsIn 34 = .ok (.goto 4, 3) := by decide +kernel
theorem dX11_packetsIn_37 : decode cX11_packetsIn 37 = .ok (.iconst 0, 1) := by decide +kernel
theorem dX11_packetsIn_38 : decode cX11_packetsIn 38 = .ok (.iadd, 1) := by decide +kernel
theorem dX11_packetsIn_39 : decode cX11_packetsIn 39 = .ok (.istore_n 2, 1) := by decide +kernel
theorem dX11_packetsIn_40 : decode cX11_packetsIn 40 = .ok (.iinc 3 1, 3) := by decide +kernel
theorem dX11_packetsIn_43 : decode cX11_packetsIn 43 = .ok (.goto (-39), 3) := by decide +kernel
theorem dX11_packetsIn_46 : decode cX11_packetsIn 46 = .ok (.iload_n 2, 1) := by decide +kernel
theorem dX11_packetsIn_47 : decode cX11_packetsIn 47 = .ok (.ireturn, 1) := by decide +kernel
theorem dX11_puts_0 : decode cX11_puts 0 = .ok (.iload_n 1, 1) := by decide +kernel
theorem dX11_puts_1 : decode cX11_puts 1 = .ok (.aload_n 0, 1) := by decide +kernel
theorem dX11_puts_2 : decode cX11_puts 2 = .ok (.getfield 7, 3) := by decide +kernel
theorem dX11_puts_5 : decode cX11_puts 5 = .ok (.bipush 54, 2) := by decide +kernel
theorem dX11_puts_7 : decode cX11_puts 7 = .ok (.iload_n 1, 1) := by decide +kernel
theorem dX11_puts_8 : decode cX11_puts 8 = .ok (.iadd, 1) := by decide +kernel
theorem dX11_puts_9 : decode cX11_puts 9 = .ok (.iaload, 1) := by decide +kernel
theorem dX11_puts_10 : decode cX11_puts 10 = .ok (.invokestatic 34, 3) := by decide +kernel
theorem dX11_puts_13 : decode cX11_puts 13 = .ok (.istore 6, 2) := by decide +kernel
theorem dX11_puts_15 : decode cX11_puts 15 = .ok (.aload_n 0, 1) := by decide +kernel
theorem dX11_puts_16 : decode cX11_puts 16 = .ok (.getfield 7, 3) := by decide +kernel
theorem dX11_puts_19 : decode cX11_puts 19 = .ok (.iload 6, 2) := by decide +kernel
theorem dX11_puts_21 : decode cX11_puts 21 = .ok (.iload_n 2, 1) := by decide +kernel
theorem dX11_puts_22 : decode cX11_puts 22 = .ok (.iastore, 1) := by decide +kernel
theorem dX11_puts_23 : decode cX11_puts 23 = .ok (.aload_n 0, 1) := by decide +kernel
theorem dX11_puts_24 : decode cX11_puts 24 = .ok (.getfield 7, 3) := by decide +kernel
theorem dX11_puts_27 : decode cX11_puts 27 = .ok (.iload 6, 2) := by decide +kernel
theorem dX11_puts_29 : decode cX11_puts 29 = .ok (.iconst 1, 1) := by decide +kernel
theorem dX11_puts_30 : decode cX11_puts 30 = .ok (.iadd, 1) := by decide +kernel
theorem dX11_puts_31 : decode cX11_puts 31 = .ok (.iload_n 3, 1) := by decide +kernel
theorem dX11_puts_32 : decode cX11_puts 32 = .ok (.iastore, 1) := by decide +kernel
theorem dX11_puts_33 : decode cX11_puts 33 = .ok (.aload_n 0, 1) := by decide +kernel
theorem dX11_puts_34 : decode cX11_puts 34 = .ok (.getfield 7, 3) := by decide +kernel
theorem dX11_puts_37 : decode cX11_puts 37 = .ok (.iload 6, 2) := by decide +kernel
theorem dX11_puts_39 : decode cX11_puts 39 = .ok (.iconst 2, 1) := by decide +kernel
theorem dX11_puts_40 : decode cX11_puts 40 = .ok (.iadd, 1) := by decide +kernel
theorem dX11_puts_41 : decode cX11_puts 41 = .ok (.iload 4, 2) := by decide +kernel
theorem dX11_puts_43 : decode cX11_puts 43 = .ok (.iastore, 1) := by decide +kernel
theorem dX11_puts_44 : decode cX11_puts 44 = .ok (.aload_n 0, 1) := by decide +kernel
theorem dX11_puts_45 : decode cX11_puts 45 = .ok (.getfield 7, 3) := by decide +kernel
theorem dX11_puts_48 : decode cX11_puts 48 = .ok (.iload 6, 2) := by decide +kernel
theorem dX11_puts_50 : decode cX11_puts 50 = .ok (.iconst 3, 1) := by decide +kernel
theorem dX11_puts_51 : decode cX11_puts 51 = .ok (.iadd, 1) := by decide +kernel
theorem dX11_puts_52 : decode cX11_puts 52 = .ok (.iload 5, 2) := by decide +kernel
theorem dX11_puts_54 : decode cX11_puts 54 = .ok (.iastore, 1) := by decide +kernel
theorem dX11_puts_55 : decode cX11_puts 55 = .ok (.aload_n 0, 1) := by decide +kernel
theorem dX11_puts_56 : decode cX11_puts 56 = .ok (.getfield 7, 3) := by decide +kernel
theorem dX11_puts_59 : decode cX11_puts 59 = .ok (.iload 6, 2) := by decide +kernel
theorem dX11_puts_61 : decode cX11_puts 61 = .ok (.iconst 4, 1) := by decide +kernel
theorem dX11_puts_62 : decode cX11_puts 62 = .ok (.iadd, 1) := by decide +kernel
theorem dX11_puts_63 : decode cX11_puts 63 = .ok (.aload_n 0, 1) := by decide +kernel
theorem dX11_puts_64 : decode cX11_puts 64 = .ok (.getfield 7, 3) := by decide +kernel
theorem dX11_puts_67 : decode cX11_puts 67 = .ok (.iconst 3, 1) := by decide +kernel
theorem dX11_puts_68 : decode cX11_puts 68 = .ok (.iaload, 1) := by decide +kernel
theorem dX11_puts_69 : decode cX11_puts 69 = .ok (.iastore, 1) := by decide +kernel
theorem dX11_puts_70 : decode cX11_puts 70 = .ok (.aload_n 0, 1) := by decide +kernel
theorem dX11_puts_71 : decode cX11_puts 71 = .ok (.getfield 7, 3) := by decide +kernel
theorem dX11_puts_74 : decode cX11_puts 74 = .ok (.bipush 54, 2) := by decide +kernel
theorem dX11_puts_76 : decode cX11_puts 76 = .ok (.iload_n 1, 1) := by decide +kernel
theorem dX11_puts_77 : decode cX11_puts 77 = .ok (.iadd, 1) := by decide +kernel
theorem dX11_puts_78 : decode cX11_puts 78 = .ok (.dup2, 1) := by decide +kernel
theorem dX11_puts_79 : decode cX11_puts 79 = .ok (.iaload, 1) := by decide +kernel
theorem dX11_puts_80 : decode cX11_puts 80 = .ok (.iconst 1, 1) := by decide +kernel
theorem dX11_puts_81 : decode cX11_puts 81 = .ok (.iadd, 1) := by decide +kernel
theorem dX11_puts_82 : decode cX11_puts 82 = .ok (.iastore, 1) := by decide +kernel
theorem dX11_puts_83 : decode cX11_puts 83 = .ok (.return_, 1) := by decide +kernel
theorem dX11_byteOf_0 : decode cX11_byteOf 0 = .ok (.iload_n 1, 1) := by decide +kernel
theorem dX11_byteOf_1 : decode cX11_byteOf 1 = .ok (.iconst 0, 1) := by decide +kernel
theorem dX11_byteOf_2 : decode cX11_byteOf 2 = .ok (.invokestatic 34, 3) := by decide +kernel
theorem dX11_byteOf_5 : decode cX11_byteOf 5 = .ok (.istore_n 3, 1) := by decide +kernel
theorem dX11_byteOf_6 : decode cX11_byteOf 6 = .ok (.iload_n 2, 1) := by decide +kernel
theorem dX11_byteOf_7 : decode cX11_byteOf 7 = .ok (.iconst 3, 1) := by decide +kernel
theorem dX11_byteOf_8 : decode cX11_byteOf 8 = .ok (.if_icmp .ge 12, 3) := by decide +kernel
theorem dX11_byteOf_11 : decode cX11_byteOf 11 = .ok (.aload_n 0, 1) := by decide +kernel
theorem dX11_byteOf_12 : decode cX11_byteOf 12 = .ok (.getfield 7, 3) := by decide +kernel
theorem dX11_byteOf_15 : decode cX11_byteOf 15 = .ok (.iload_n 3, 1) := by decide +kernel
theorem dX11_byteOf_16 : decode cX11_byteOf 16 = .ok (.iload_n 2, 1) := by decide +kernel
theorem dX11_byteOf_17 : decode cX11_byteOf 17 = .ok (.iadd, 1) := by decide +kernel
theorem dX11_byteOf_18 : decode cX11_byteOf 18 = .ok (.iaload, 1) := by decide +kernel
theorem dX11_byteOf_19 : decode cX11_byteOf 19 = .ok (.ireturn, 1) := by decide +kernel
theorem dX11_byteOf_20 : decode cX11_byteOf 20 = .ok (.aload_n 0, 1) := by decide +kernel
theorem dX11_byteOf_21 : decode cX11_byteOf 21 = .ok (.getfield 7, 3) := by decide +kernel
theorem dX11_byteOf_24 : decode cX11_byteOf 24 = .ok (.iload_n 3, 1) := by decide +kernel
theorem dX11_byteOf_25 : decode cX11_byteOf 25 = .ok (.iaload, 1) := by decide +kernel
theorem dX11_byteOf_26 : decode cX11_byteOf 26 = .ok (.bipush 15, 2) := by decide +kernel
theorem dX11_byteOf_28 : decode cX11_byteOf 28 = .ok (.if_icmp .ne 9, 3) := by decide +kernel
theorem dX11_byteOf_31 : decode cX11_byteOf 31 = .ok (.sipush 170, 3) := by decide +kernel
theorem dX11_byteOf_34 : decode cX11_byteOf 34 = .ok (.goto 22, 3) := by decide +kernel
theorem dX11_byteOf_37 : decode cX11_byteOf 37 = .ok (.aload_n 0, 1) := by decide +kernel
theorem dX11_byteOf_38 : decode cX11_byteOf 38 = .ok (.getfield 7, 3) := by decide +kernel
theorem dX11_byteOf_41 : decode cX11_byteOf 41 = .ok (.iload_n 3, 1) := by decide +kernel
theorem dX11_byteOf_42 : decode cX11_byteOf 42 = .ok (.iconst 3, 1) := by decide +kernel
theorem dX11_byteOf_43 : decode cX11_byteOf 43 = .ok (.iadd, 1) := by decide +kernel
theorem dX11_byteOf_44 : decode cX11_byteOf 44 = .ok (.iaload, 1) := by decide +kernel
theorem dX11_byteOf_45 : decode cX11_byteOf 45 = .ok (.bipush 7, 2) := by decide +kernel
theorem dX11_byteOf_47 : decode cX11_byteOf 47 = .ok (.iload_n 2, 1) := by decide +kernel
theorem dX11_byteOf_48 : decode cX11_byteOf 48 = .ok (.iconst 3, 1) := by decide +kernel
theorem dX11_byteOf_49 : decode cX11_byteOf 49 = .ok (.isub, 1) := by decide +kernel
theorem dX11_byteOf_50 : decode cX11_byteOf 50 = .ok (.imul, 1) := by decide +kernel
theorem dX11_byteOf_51 : decode cX11_byteOf 51 = .ok (.iadd, 1) := by decide +kernel
theorem dX11_byteOf_52 : decode cX11_byteOf 52 = .ok (.sipush 256, 3) := by decide +kernel
theorem dX11_byteOf_55 : decode cX11_byteOf 55 = .ok (.irem, 1) := by decide +kernel
theorem dX11_byteOf_56 : decode cX11_byteOf 56 = .ok (.ireturn, 1) := by decide +kernel
theorem dX11_takes_0 : decode cX11_takes 0 = .ok (.aload_n 0, 1) := by decide +kernel
theorem dX11_takes_1 : decode cX11_takes 1 = .ok (.getfield 7, 3) := by decide +kernel
theorem dX11_takes_4 : decode cX11_takes 4 = .ok (.bipush 58, 2) := by decide +kernel
theorem dX11_takes_6 : decode cX11_takes 6 = .ok (.iload_n 1, 1) := by decide +kernel
theorem dX11_takes_7 : decode cX11_takes 7 = .ok (.iadd, 1) := by decide +kernel
theorem dX11_takes_8 : decode cX11_takes 8 = .ok (.iaload, 1) := by decide +kernel
theorem dX11_takes_9 : decode cX11_takes 9 = .ok (.istore_n 2, 1) := by decide +kernel
theorem dX11_takes_10 : decode cX11_takes 10 = .ok (.aload_n 0, 1) := by decide +kernel
theorem dX11_takes_11 : decode cX11_takes 11 = .ok (.iload_n 1, 1) := by decide +kernel
theorem dX11_takes_12 : decode cX11_takes 12 = .ok (.iload_n 2, 1) := by decide +kernel
theorem dX11_takes_13 : decode cX11_takes 13 = .ok (.invokevirtual 38, 3) := by decide +kernel
theorem dX11_takes_16 : decode cX11_takes 16 = .ok (.istore_n 3, 1) := by decide +kernel
theorem dX11_takes_17 : decode cX11_takes 17 = .ok (.aload_n 0, 1) := by decide +kernel
theorem dX11_takes_18 : decode cX11_takes 18 = .ok (.getfield 7, 3) := by decide +kernel
theorem dX11_takes_21 : decode cX11_takes 21 = .ok (.iload_n 1, 1) := by decide +kernel
theorem dX11_takes_22 : decode cX11_takes 22 = .ok (.iconst 0, 1) := by decide +kernel
theorem dX11_takes_23 : decode cX11_takes 23 = .ok (.invokestatic 34, 3) := by decide +kernel
theorem dX11_takes_26 : decode cX11_takes 26 = .ok (.iaload, 1) := by decide +kernel
theorem dX11_takes_27 : decode cX11_takes 27 = .ok (.bipush 15, 2) := by decide +kernel
theorem dX11_takes_29 : decode cX11_takes 29 = .ok (.if_icmp .ne 7, 3) := by decide +kernel
theorem dX11_takes_32 : decode cX11_takes 32 = .ok (.iconst 1, 1) := by decide +kernel
theorem dX11_takes_33 : decode cX11_takes 33 = .ok (.goto 4, 3) := by decide +kernel
theorem dX11_takes_36 : decode cX11_takes 36 = .ok (.iconst 0, 1) := by decide +kernel
theorem dX11_takes_37 : decode cX11_takes 37 = .ok (.istore 4, 2) := by decide +kernel
theorem dX11_takes_39 : decode cX11_takes 39 = .ok (.aload_n 0, 1) := by decide +kernel
theorem dX11_takes_40 : decode cX11_takes 40 = .ok (.getfield 7, 3) := by decide +kernel
theorem dX11_takes_43 : decode cX11_takes 43 = .ok (.bipush 46, 2) := by decide +kernel
theorem dX11_takes_45 : decode cX11_takes 45 = .ok (.iload_n 1, 1) := by decide +kernel
theorem dX11_takes_46 : decode cX11_takes 46 = .ok (.iadd, 1) := by decide +kernel
theorem dX11_takes_47 : decode cX11_takes 47 = .ok (.dup2, 1) := by decide +kernel
theorem dX11_takes_48 : decode cX11_takes 48 = .ok (.iaload, 1) := by decide +kernel
theorem dX11_takes_49 : decode cX11_takes 49 = .ok (.iload 4, 2) := by decide +kernel
theorem dX11_takes_51 : decode cX11_takes 51 = .ok (.ifCond .eq 7, 3) := by decide +kernel
theorem dX11_takes_54 : decode cX11_takes 54 = .ok (.iconst 1, 1) := by decide +kernel
theorem dX11_takes_55 : decode cX11_takes 55 = .ok (.goto 4, 3) := by decide +kernel
theorem dX11_takes_58 : decode cX11_takes 58 = .ok (.iconst 0, 1) := by decide +kernel
theorem dX11_takes_59 : decode cX11_takes 59 = .ok (.iadd, 1) := by decide +kernel
theorem dX11_takes_60 : decode cX11_takes 60 = .ok (.iastore, 1) := by decide +kernel
theorem dX11_takes_61 : decode cX11_takes 61 = .ok (.aload_n 0, 1) := by decide +kernel
theorem dX11_takes_62 : decode cX11_takes 62 = .ok (.getfield 7, 3) := by decide +kernel
theorem dX11_takes_65 : decode cX11_takes 65 = .ok (.bipush 58, 2) := by decide +kernel
theorem dX11_takes_67 : decode cX11_takes 67 = .ok (.iload_n 1, 1) := by decide +kernel
theorem dX11_takes_68 : decode cX11_takes 68 = .ok (.iadd, 1) := by decide +kernel
theorem dX11_takes_69 : decode cX11_takes 69 = .ok (.dup2, 1) := by decide +kernel
theorem dX11_takes_70 : decode cX11_takes 70 = .ok (.iaload, 1) := by decide +kernel
theorem dX11_takes_71 : decode cX11_takes 71 = .ok (.iconst 1, 1) := by decide +kernel
theorem dX11_takes_72 : decode cX11_takes 72 = .ok (.iadd, 1) := by decide +kernel
theorem dX11_takes_73 : decode cX11_takes 73 = .ok (.iastore, 1) := by decide +kernel
theorem dX11_takes_74 : decode cX11_takes 74 = .ok (.aload_n 0, 1) := by decide +kernel
theorem dX11_takes_75 : decode cX11_takes 75 = .ok (.getfield 7, 3) := by decide +kernel
theorem dX11_takes_78 : decode cX11_takes 78 = .ok (.bipush 58, 2) := by decide +kernel
theorem dX11_takes_80 : decode cX11_takes 80 = .ok (.iload_n 1, 1) := by decide +kernel
theorem dX11_takes_81 : decode cX11_takes 81 = .ok (.iadd, 1) := by decide +kernel
theorem dX11_takes_82 : decode cX11_takes 82 = .ok (.iaload, 1) := by decide +kernel
theorem dX11_takes_83 : decode cX11_takes 83 = .ok (.iconst 3, 1) := by decide +kernel
theorem dX11_takes_84 : decode cX11_takes 84 = .ok (.aload_n 0, 1) := by decide +kernel
theorem dX11_takes_85 : decode cX11_takes 85 = .ok (.getfield 7, 3) := by decide +kernel
theorem dX11_takes_88 : decode cX11_takes 88 = .ok (.iload_n 1, 1) := by decide +kernel
theorem dX11_takes_89 : decode cX11_takes 89 = .ok (.iconst 0, 1) := by decide +kernel
theorem dX11_takes_90 : decode cX11_takes 90 = .ok (.invokestatic 34, 3) := by decide +kernel
theorem dX11_takes_93 : decode cX11_takes 93 = .ok (.iconst 2, 1) := by decide +kernel
theorem dX11_takes_94 : decode cX11_takes 94 = .ok (.iadd, 1) := by decide +kernel
theorem dX11_takes_95 : decode cX11_takes 95 = .ok (.iaload, 1) := by decide +kernel
theorem dX11_takes_96 : decode cX11_takes 96 = .ok (.iadd, 1) := by decide +kernel
theorem dX11_takes_97 : decode cX11_takes 97 = .ok (.if_icmp .ne 136, 3) := by decide +kernel
theorem dX11_takes_100 : decode cX11_takes 100 = .ok (.aload_n 0, 1) := by decide +kernel
theorem dX11_takes_101 : decode cX11_takes 101 = .ok (.getfield 7, 3) := by decide +kernel
theorem dX11_takes_104 : decode cX11_takes 104 = .ok (.iconst 3, 1) := by decide +kernel
theorem dX11_takes_105 : decode cX11_takes 105 = .ok (.iaload, 1) := by decide +kernel
theorem dX11_takes_106 : decode cX11_takes 106 = .ok (.aload_n 0, 1) := by decide +kernel
theorem dX11_takes_107 : decode cX11_takes 107 = .ok (.getfield 7, 3) := by decide +kernel
theorem dX11_takes_110 : decode cX11_takes 110 = .ok (.iload_n 1, 1) := by decide +kernel
theorem dX11_takes_111 : decode cX11_takes 111 = .ok (.iconst 0, 1) := by decide +kernel
theorem dX11_takes_112 : decode cX11_takes 112 = .ok (.invokestatic 34, 3) := by decide +kernel
theorem dX11_takes_115 : decode cX11_takes 115 = .ok (.iconst 4, 1) := by decide +kernel
theorem dX11_takes_116 : decode cX11_takes 116 = .ok (.iadd, 1) := by decide +kernel
theorem dX11_takes_117 : decode cX11_takes 117 = .ok (.iaload, 1) := by decide +kernel
theorem dX11_takes_118 : decode cX11_takes 118 = .ok (.isub, 1) := by decide +kernel
theorem dX11_takes_119 : decode cX11_takes 119 = .ok (.istore 5, 2) := by decide +kernel
theorem dX11_takes_121 : decode cX11_takes 121 = .ok (.aload_n 0, 1) := by decide +kernel
theorem dX11_takes_122 : decode cX11_takes 122 = .ok (.getfield 7, 3) := by decide +kernel
theorem dX11_takes_125 : decode cX11_takes 125 = .ok (.bipush 50, 2) := by decide +kernel
theorem dX11_takes_127 : decode cX11_takes 127 = .ok (.iload_n 1, 1) := by decide +kernel
theorem dX11_takes_128 : decode cX11_takes 128 = .ok (.iadd, 1) := by decide +kernel
theorem dX11_takes_129 : decode cX11_takes 129 = .ok (.iload 4, 2) := by decide +kernel
theorem dX11_takes_131 : decode cX11_takes 131 = .ok (.ifCond .ne 22, 3) := by decide +kernel
theorem dX11_takes_134 : decode cX11_takes 134 = .ok (.iload 5, 2) := by decide +kernel
theorem dX11_takes_136 : decode cX11_takes 136 = .ok (.aload_n 0, 1) := by decide +kernel
theorem dX11_takes_137 : decode cX11_takes 137 = .ok (.getfield 7, 3) := by decide +kernel
theorem dX11_takes_140 : decode cX11_takes 140 = .ok (.bipush 50, 2) := by decide +kernel
theorem dX11_takes_142 : decode cX11_takes 142 = .ok (.iload_n 1, 1) := by decide +kernel
theorem dX11_takes_143 : decode cX11_takes 143 = .ok (.iadd, 1) := by decide +kernel
theorem dX11_takes_144 : decode cX11_takes 144 = .ok (.iaload, 1) := by decide +kernel
theorem dX11_takes_145 : decode cX11_takes 145 = .ok (.if_icmp .le 8, 3) := by decide +kernel
theorem dX11_takes_148 : decode cX11_takes 148 = .ok (.iload 5, 2) := by decide +kernel
theorem dX11_takes_150 : decode cX11_takes 150 = .ok (.goto 12, 3) := by decide +kernel
theorem dX11_takes_153 : decode cX11_takes 153 = .ok (.aload_n 0, 1) := by decide +kernel
theorem dX11_takes_154 : decode cX11_takes 154 = .ok (.getfield 7, 3) := by decide +kernel
theorem dX11_takes_157 : decode cX11_takes 157 = .ok (.bipush 50, 2) := by decide +kernel
theorem dX11_takes_159 : decode cX11_takes 159 = .ok (.iload_n 1, 1) := by decide +kernel
theorem dX11_takes_160 : decode cX11_takes 160 = .ok (.iadd, 1) := by decide +kernel
theorem dX11_takes_161 : decode cX11_takes 161 = .ok (.iaload, 1) := by decide +kernel
theorem dX11_takes_162 : decode cX11_takes 162 = .ok (.iastore, 1) := by decide +kernel
theorem dX11_takes_163 : decode cX11_takes 163 = .ok (.aload_n 0, 1) := by decide +kernel
theorem dX11_takes_164 : decode cX11_takes 164 = .ok (.getfield 7, 3) := by decide +kernel
theorem dX11_takes_167 : decode cX11_takes 167 = .ok (.bipush 58, 2) := by decide +kernel
theorem dX11_takes_169 : decode cX11_takes 169 = .ok (.iload_n 1, 1) := by decide +kernel
theorem dX11_takes_170 : decode cX11_takes 170 = .ok (.iadd, 1) := by decide +kernel
theorem dX11_takes_171 : decode cX11_takes 171 = .ok (.iconst 0, 1) := by decide +kernel
theorem dX11_takes_172 : decode cX11_takes 172 = .ok (.iastore, 1) := by decide +kernel
theorem dX11_takes_173 : decode cX11_takes 173 = .ok (.aload_n 0, 1) := by decide +kernel
theorem dX11_takes_174 : decode cX11_takes 174 = .ok (.getfield 7, 3) := by decide +kernel
theorem dX11_takes_177 : decode cX11_takes 177 = .ok (.bipush 54, 2) := by decide +kernel
theorem dX11_takes_179 : decode cX11_takes 179 = .ok (.iload_n 1, 1) := by decide +kernel
theorem dX11_takes_180 : decode cX11_takes 180 = .ok (.iadd, 1) := by decide +kernel
theorem dX11_takes_181 : decode cX11_takes 181 = .ok (.dup2, 1) := by decide +kernel
theorem dX11_takes_182 : decode cX11_takes 182 = .ok (.iaload, 1) := by decide +kernel
theorem dX11_takes_183 : decode cX11_takes 183 = .ok (.iconst 1, 1) := by decide +kernel
theorem dX11_takes_184 : decode cX11_takes 184 = .ok (.isub, 1) := by decide +kernel
theorem dX11_takes_185 : decode cX11_takes 185 = .ok (.iastore, 1) := by decide +kernel
theorem dX11_takes_186 : decode cX11_takes 186 = .ok (.iload_n 1, 1) := by decide +kernel
theorem dX11_takes_187 : decode cX11_takes 187 = .ok (.iconst 0, 1) := by decide +kernel
theorem dX11_takes_188 : decode cX11_takes 188 = .ok (.invokestatic 34, 3) := by decide +kernel
theorem dX11_takes_191 : decode cX11_takes 191 = .ok (.istore 6, 2) := by decide +kernel
theorem dX11_takes_193 : decode cX11_takes 193 = .ok (.iload 6, 2) := by decide +kernel
theorem dX11_takes_195 : decode cX11_takes 195 = .ok (.iload_n 1, 1) := by decide +kernel
theorem dX11_takes_196 : decode cX11_takes 196 = .ok (.aload_n 0, 1) := by decide +kernel
theorem dX11_takes_197 : decode cX11_takes 197 = .ok (.getfield 7, 3) := by decide +kernel
theorem dX11_takes_200 : decode cX11_takes 200 = .ok (.bipush 54, 2) := by decide +kernel
theorem dX11_takes_202 : decode cX11_takes 202 = .ok (.iload_n 1, 1) := by decide +kernel
theorem dX11_takes_203 : decode cX11_takes 203 = .ok (.iadd, 1) := by decide +kernel
theorem dX11_takes_204 : decode cX11_takes 204 = .ok (.iaload, 1) := by decide +kernel
theorem dX11_takes_205 : decode cX11_takes 205 = .ok (.invokestatic 34, 3) := by decide +kernel
theorem dX11_takes_208 : decode cX11_takes 208 = .ok (.if_icmp .ge 25, 3) := by decide +kernel
theorem dX11_takes_211 : decode cX11_takes 211 = .ok (.aload_n 0, 1) := by decide +kernel
theorem dX11_takes_212 : decode cX11_takes 212 = .ok (.getfield 7, 3) := by decide +kernel
theorem dX11_takes_215 : decode cX11_takes 215 = .ok (.iload 6, 2) := by decide +kernel
theorem dX11_takes_217 : decode cX11_takes 217 = .ok (.aload_n 0, 1) := by decide +kernel
theorem dX11_takes_218 : decode cX11_takes 218 = .ok (.getfield 7, 3) := by decide +kernel
theorem dX11_takes_221 : decode cX11_takes 221 = .ok (.iload 6, 2) := by decide +kernel
theorem dX11_takes_223 : decode cX11_takes 223 = .ok (.iconst 5, 1) := by decide +kernel
theorem dX11_takes_224 : decode cX11_takes 224 = .ok (.iadd, 1) := by decide +kernel
theorem dX11_takes_225 : decode cX11_takes 225 = .ok (.iaload, 1) := by decide +kernel
theorem dX11_takes_226 : decode cX11_takes 226 = .ok (.iastore, 1) := by decide +kernel
theorem dX11_takes_227 : decode cX11_takes 227 = .ok (.iinc 6 1, 3) := by decide +kernel
theorem dX11_takes_230 : decode cX11_takes 230 = .ok (.goto (-37), 3) := by decide +kernel
theorem dX11_takes_233 : decode cX11_takes 233 = .ok (.iload_n 3, 1) := by decide +kernel
theorem dX11_takes_234 : decode cX11_takes 234 = .ok (.ireturn, 1) := by decide +kernel
theorem dX11_setFrameLength_0 : decode cX11_setFrameLength 0 = .ok (.aload_n 0, 1) := by decide +kernel
theorem dX11_setFrameLength_1 : decode cX11_setFrameLength 1 = .ok (.iconst 0, 1) := by decide +kernel
theorem dX11_setFrameLength_2 : decode cX11_setFrameLength 2 = .ok (.invokevirtual 41, 3) := by decide +kernel
theorem dX11_setFrameLength_5 : decode cX11_setFrameLength 5 = .ok (.aload_n 0, 1) := by decide +kernel
theorem dX11_setFrameLength_6 : decode cX11_setFrameLength 6 = .ok (.iconst 1, 1) := by decide +kernel
theorem dX11_setFrameLength_7 : decode cX11_setFrameLength 7 = .ok (.invokevirtual 41, 3) := by decide +kernel
theorem dX11_setFrameLength_10 : decode cX11_setFrameLength 10 = .ok (.iadd, 1) := by decide +kernel
theorem dX11_setFrameLength_11 : decode cX11_setFrameLength 11 = .ok (.aload_n 0, 1) := by decide +kernel
theorem dX11_setFrameLength_12 : decode cX11_setFrameLength 12 = .ok (.iconst 2, 1) := by decide +kernel
theorem dX11_setFrameLength_13 : decode cX11_setFrameLength 13 = .ok (.invokevirtual 41, 3) := by decide +kernel
theorem dX11_setFrameLength_16 : decode cX11_setFrameLength 16 = .ok (.iadd, 1) := by decide +kernel
theorem dX11_setFrameLength_17 : decode cX11_setFrameLength 17 = .ok (.aload_n 0, 1) := by decide +kernel
theorem dX11_setFrameLength_18 : decode cX11_setFrameLength 18 = .ok (.iconst 3, 1) := by decide +kernel
theorem dX11_setFrameLength_19 : decode cX11_setFrameLength 19 = .ok (.invokevirtual 41, 3) := by decide +kernel
theorem dX11_setFrameLength_22 : decode cX11_setFrameLength 22 = .ok (.iadd, 1) := by decide +kernel
theorem dX11_setFrameLength_23 : decode cX11_setFrameLength 23 = .ok (.istore_n 2, 1) := by decide +kernel
theorem dX11_setFrameLength_24 : decode cX11_setFrameLength 24 = .ok (.aload_n 0, 1) := by decide +kernel
theorem dX11_setFrameLength_25 : decode cX11_setFrameLength 25 = .ok (.iload_n 1, 1) := by decide +kernel
theorem dX11_setFrameLength_26 : decode cX11_setFrameLength 26 = .ok (.i2l, 1) := by decide +kernel
theorem dX11_setFrameLength_27 : decode cX11_setFrameLength 27 = .ok (.ldc2_w 45, 3) := by decide +kernel
theorem dX11_setFrameLength_30 : decode cX11_setFrameLength 30 = .ok (.ldc2_w 47, 3) := by decide +kernel
theorem dX11_setFrameLength_33 : decode cX11_setFrameLength 33 = .ok (.invokestatic 23, 3) := by decide +kernel
theorem dX11_setFrameLength_36 : decode cX11_setFrameLength 36 = .ok (.ifCond .ne 7, 3) := by decide +kernel
theorem dX11_setFrameLength_39 : decode cX11_setFrameLength 39 = .ok (.iconst 1, 1) := by decide +kernel
theorem dX11_setFrameLength_40 : decode cX11_setFrameLength 40 = .ok (.goto 12, 3) := by decide +kernel
theorem dX11_setFrameLength_43 : decode cX11_setFrameLength 43 = .ok (.iload_n 2, 1) := by decide +kernel
theorem dX11_setFrameLength_44 : decode cX11_setFrameLength 44 = .ok (.ifCond .le 7, 3) := by decide +kernel
theorem dX11_setFrameLength_47 : decode cX11_setFrameLength 47 = .ok (.iconst 2, 1) := by decide +kernel
theorem dX11_setFrameLength_48 : decode cX11_setFrameLength 48 = .ok (.goto 4, 3) := by decide +kernel
theorem dX11_setFrameLength_51 : decode cX11_setFrameLength 51 = .ok (.iconst 0, 1) := by decide +kernel
theorem dX11_setFrameLength_52 : decode cX11_setFrameLength 52 = .ok (.invokevirtual 30, 3) := by decide +kernel
theorem dX11_setFrameLength_55 : decode cX11_setFrameLength 55 = .ok (.ifCond .eq 5, 3) := by decide +kernel
theorem dX11_setFrameLength_58 : decode cX11_setFrameLength 58 = .ok (.iconst 0, 1) := by decide +kernel
theorem dX11_setFrameLength_59 : decode cX11_setFrameLength 59 = .ok (.ireturn, 1) := by decide +kernel
theorem dX11_setFrameLength_60 : decode cX11_setFrameLength 60 = .ok (.aload_n 0, 1) := by decide +kernel
theorem dX11_setFrameLength_61 : decode cX11_setFrameLength 61 = .ok (.invokevirtual 49, 3) := by decide +kernel
theorem dX11_setFrameLength_64 : decode cX11_setFrameLength 64 = .ok (.aload_n 0, 1) := by decide +kernel
theorem dX11_setFrameLength_65 : decode cX11_setFrameLength 65 = .ok (.getfield 7, 3) := by decide +kernel
theorem dX11_setFrameLength_68 : decode cX11_setFrameLength 68 = .ok (.iconst 0, 1) := by decide +kernel
theorem dX11_setFrameLength_69 : decode cX11_setFrameLength 69 = .ok (.iaload, 1) := by decide +kernel
theorem dX11_setFrameLength_70 : decode cX11_setFrameLength 70 = .ok (.istore_n 3, 1) := by decide +kernel
theorem dX11_setFrameLength_71 : decode cX11_setFrameLength 71 = .ok (.aload_n 0, 1) := by decide +kernel
theorem dX11_setFrameLength_72 : decode cX11_setFrameLength 72 = .ok (.getfield 7, 3) := by decide +kernel
theorem dX11_setFrameLength_75 : decode cX11_setFrameLength 75 = .ok (.iconst 0, 1) := by decide +kernel
theorem dX11_setFrameLength_76 : decode cX11_setFrameLength 76 = .ok (.iload_n 1, 1) := by decide +kernel
theorem dX11_setFrameLength_77 : decode cX11_setFrameLength 77 = .ok (.iastore, 1) := by decide +kernel
theorem dX11_setFrameLength_78 : decode cX11_setFrameLength 78 = .ok (.iload_n 3, 1) := by decide +kernel
theorem dX11_setFrameLength_79 : decode cX11_setFrameLength 79 = .ok (.ireturn, 1) := by decide +kernel
theorem dX11_setChannel_0 : decode cX11_setChannel 0 = .ok (.aload_n 0, 1) := by decide +kernel
theorem dX11_setChannel_1 : decode cX11_setChannel 1 = .ok (.iload_n 1, 1) := by decide +kernel
theorem dX11_setChannel_2 : decode cX11_setChannel 2 = .ok (.invokestatic 52, 3) := by decide +kernel
theorem dX11_setChannel_5 : decode cX11_setChannel 5 = .ok (.ifCond .ne 7, 3) := by decide +kernel
theorem dX11_setChannel_8 : decode cX11_setChannel 8 = .ok (.iconst 1, 1) := by decide +kernel
theorem dX11_setChannel_9 : decode cX11_setChannel 9 = .ok (.goto 45, 3) := by decide +kernel
theorem dX11_setChannel_12 : decode cX11_setChannel 12 = .ok (.iload_n 2, 1) := by decide +kernel
theorem dX11_setChannel_13 : decode cX11_setChannel 13 = .ok (.i2l, 1) := by decide +kernel
theorem dX11_setChannel_14 : decode cX11_setChannel 14 = .ok (.lconst 0, 1) := by decide +kernel
theorem dX11_setChannel_15 : decode cX11_setChannel 15 = .ok (.ldc2_w 55, 3) := by decide +kernel
theorem dX11_setChannel_18 : decode cX11_setChannel 18 = .ok (.invokestatic 23, 3) := by decide +kernel
theorem dX11_setChannel_21 : decode cX11_setChannel 21 = .ok (.ifCond .eq 32, 3) := by decide +kernel
theorem dX11_setChannel_24 : decode cX11_setChannel 24 = .ok (.iload_n 3, 1) := by decide +kernel
theorem dX11_setChannel_25 : decode cX11_setChannel 25 = .ok (.i2l, 1) := by decide +kernel
theorem dX11_setChannel_26 : decode cX11_setChannel 26 = .ok (.lconst 0, 1) := by decide +kernel
theorem dX11_setChannel_27 : decode cX11_setChannel 27 = .ok (.ldc2_w 57, 3) := by decide +kernel
theorem dX11_setChannel_30 : decode cX11_setChannel 30 = .ok (.invokestatic 23, 3) := by decide +kernel
theorem dX11_setChannel_33 : decode cX11_setChannel 33 = .ok (.ifCond .eq 20, 3) := by decide +kernel
theorem dX11_setChannel_36 : decode cX11_setChannel 36 = .ok (.iload 4, 2) := by decide +kernel
theorem dX11_setChannel_38 : decode cX11_setChannel 38 = .ok (.i2l, 1) := by decide +kernel
theorem dX11_setChannel_39 : decode cX11_setChannel 39 = .ok (.lconst 0, 1) := by decide +kernel
theorem dX11_setChannel_40 : decode cX11_setChannel 40 = .ok (.ldc2_w 57, 3) := by decide +kernel
theorem dX11_setChannel_43 : decode cX11_setChannel 43 = .ok (.invokestatic 23, 3) := by decide +kernel
theorem dX11_setChannel_46 : decode cX11_setChannel 46 = .ok (.ifCond .eq 7, 3) := by decide +kernel
theorem dX11_setChannel_49 : decode cX11_setChannel 49 = .ok (.iconst 0, 1) := by decide +kernel
theorem dX11_setChannel_50 : decode cX11_setChannel 50 = .ok (.goto 4, 3) := by decide +kernel
theorem dX11_setChannel_53 : decode cX11_setChannel 53 = .ok (.iconst 2, 1) := by decide +kernel
theorem dX11_setChannel_54 : decode cX11_setChannel 54 = .ok (.invokevirtual 30, 3) := by decide +kernel
theorem dX11_setChannel_57 : decode cX11_setChannel 57 = .ok (.ifCond .eq 5, 3) := by decide +kernel
theorem dX11_setChannel_60 : decode cX11_setChannel 60 = .ok (.iconst 0, 1) := by decide +kernel
theorem dX11_setChannel_61 : decode cX11_setChannel 61 = .ok (.ireturn, 1) := by decide +kernel
theorem dX11_setChannel_62 : decode cX11_setChannel 62 = .ok (.aload_n 0, 1) := by decide +kernel
theorem dX11_setChannel_63 : decode cX11_setChannel 63 = .ok (.invokevirtual 49, 3) := by decide +kernel
theorem dX11_setChannel_66 : decode cX11_setChannel 66 = .ok (.aload_n 0, 1) := by decide +kernel
theorem dX11_setChannel_67 : decode cX11_setChannel 67 = .ok (.getfield 7, 3) := by decide +kernel
theorem dX11_setChannel_70 : decode cX11_setChannel 70 = .ok (.bipush 25, 2) := by decide +kernel
theorem dX11_setChannel_72 : decode cX11_setChannel 72 = .ok (.iload_n 1, 1) := by decide +kernel
theorem dX11_setChannel_73 : decode cX11_setChannel 73 = .ok (.iadd, 1) := by decide +kernel
theorem dX11_setChannel_74 : decode cX11_setChannel 74 = .ok (.iaload, 1) := by decide +kernel
theorem dX11_setChannel_75 : decode cX11_setChannel 75 = .ok (.istore 5, 2) := by decide +kernel
theorem dX11_setChannel_77 : decode cX11_setChannel 77 = .ok (.aload_n 0, 1) := by decide +kernel
theorem dX11_setChannel_78 : decode cX11_setChannel 78 = .ok (.getfield 7, 3) := by decide +kernel
theorem dX11_setChannel_81 : decode cX11_setChannel 81 = .ok (.bipush 25, 2) := by decide +kernel
theorem dX11_setChannel_83 : decode cX11_setChannel 83 = .ok (.iload_n 1, 1) := by decide +kernel
theorem dX11_setChannel_84 : decode cX11_setChannel 84 = .ok (.iadd, 1) := by decide +kernel
theorem dX11_setChannel_85 : decode cX11_setChannel 85 = .ok (.iload_n 2, 1) := by decide +kernel
theorem dX11_setChannel_86 : decode cX11_setChannel 86 = .ok (.iastore, 1) := by decide +kernel
theorem dX11_setChannel_87 : decode cX11_setChannel 87 = .ok (.aload_n 0, 1) := by decide +kernel
theorem dX11_setChannel_88 : decode cX11_setChannel 88 = .ok (.getfield 7, 3) := by decide +kernel
theorem dX11_setChannel_91 : decode cX11_setChannel 91 = .ok (.bipush 29, 2) := by decide +kernel
theorem dX11_setChannel_93 : decode cX11_setChannel 93 = .ok (.iload_n 1, 1) := by decide +kernel
theorem dX11_setChannel_94 : decode cX11_setChannel 94 = .ok (.iadd, 1) := by decide +kernel
theorem dX11_setChannel_95 : decode cX11_setChannel 95 = .ok (.iload_n 3, 1) := by decide +kernel
theorem dX11_setChannel_96 : decode cX11_setChannel 96 = .ok (.iastore, 1) := by decide +kernel
theorem dX11_setChannel_97 : decode cX11_setChannel 97 = .ok (.aload_n 0, 1) := by decide +kernel
theorem dX11_setChannel_98 : decode cX11_setChannel 98 = .ok (.getfield 7, 3) := by decide +kernel
theorem dX11_setChannel_101 : decode cX11_setChannel 101 = .ok (.bipush 33, 2) := by decide +kernel
theorem dX11_setChannel_103 : decode cX11_setChannel 103 = .ok (.iload_n 1, 1) := by decide +kernel
theorem dX11_setChannel_104 : decode cX11_setChannel 104 = .ok (.iadd, 1) := by decide +kernel
theorem dX11_setChannel_105 : decode cX11_setChannel 105 = .ok (.iload 4, 2) := by decide +kernel
theorem dX11_setChannel_107 : decode cX11_setChannel 107 = .ok (.iastore, 1) := by decide +kernel
theorem dX11_setChannel_108 : decode cX11_setChannel 108 = .ok (.iload 5, 2) := by decide +kernel
theorem dX11_setChannel_110 : decode cX11_setChannel 110 = .ok (.ireturn, 1) := by decide +kernel
theorem dX11_setClock_0 : decode cX11_setClock 0 = .ok (.aload_n 0, 1) := by decide +kernel
theorem dX11_setClock_1 : decode cX11_setClock 1 = .ok (.iload_n 1, 1) := by decide +kernel
theorem dX11_setClock_2 : decode cX11_setClock 2 = .ok (.i2l, 1) := by decide +kernel
theorem dX11_setClock_3 : decode cX11_setClock 3 = .ok (.ldc2_w 59, 3) := by decide +kernel
theorem dX11_setClock_6 : decode cX11_setClock 6 = .ok (.ldc2_w 61, 3) := by decide +kernel
theorem dX11_setClock_9 : decode cX11_setClock 9 = .ok (.invokestatic 23, 3) := by decide +kernel
theorem dX11_setClock_12 : decode cX11_setClock 12 = .ok (.ifCond .eq 19, 3) := by decide +kernel
theorem dX11_setClock_15 : decode cX11_setClock 15 = .ok (.iload_n 2, 1) := by decide +kernel
theorem dX11_setClock_16 : decode cX11_setClock 16 = .ok (.i2l, 1) := by decide +kernel
theorem dX11_setClock_17 : decode cX11_setClock 17 = .ok (.lconst 0, 1) := by decide +kernel
theorem dX11_setClock_18 : decode cX11_setClock 18 = .ok (.ldc2_w 63, 3) := by decide +kernel
theorem dX11_setClock_21 : decode cX11_setClock 21 = .ok (.invokestatic 23, 3) := by decide +kernel
theorem dX11_setClock_24 : decode cX11_setClock 24 = .ok (.ifCond .eq 7, 3) := by decide +kernel
theorem dX11_setClock_27 : decode cX11_setClock 27 = .ok (.iconst 0, 1) := by decide +kernel
theorem dX11_setClock_28 : decode cX11_setClock 28 = .ok (.goto 4, 3) := by decide +kernel
theorem dX11_setClock_31 : decode cX11_setClock 31 = .ok (.iconst 1, 1) := by decide +kernel
theorem dX11_setClock_32 : decode cX11_setClock 32 = .ok (.invokevirtual 30, 3) := by decide +kernel
theorem dX11_setClock_35 : decode cX11_setClock 35 = .ok (.ifCond .eq 5, 3) := by decide +kernel
theorem dX11_setClock_38 : decode cX11_setClock 38 = .ok (.iconst 0, 1) := by decide +kernel
theorem dX11_setClock_39 : decode cX11_setClock 39 = .ok (.ireturn, 1) := by decide +kernel
theorem dX11_setClock_40 : decode cX11_setClock 40 = .ok (.aload_n 0, 1) := by decide +kernel
theorem dX11_setClock_41 : decode cX11_setClock 41 = .ok (.invokevirtual 49, 3) := by decide +kernel
theorem dX11_setClock_44 : decode cX11_setClock 44 = .ok (.aload_n 0, 1) := by decide +kernel
theorem dX11_setClock_45 : decode cX11_setClock 45 = .ok (.getfield 7, 3) := by decide +kernel
theorem dX11_setClock_48 : decode cX11_setClock 48 = .ok (.iconst 1, 1) := by decide +kernel
theorem dX11_setClock_49 : decode cX11_setClock 49 = .ok (.iaload, 1) := by decide +kernel
theorem dX11_setClock_50 : decode cX11_setClock 50 = .ok (.istore_n 3, 1) := by decide +kernel
theorem dX11_setClock_51 : decode cX11_setClock 51 = .ok (.aload_n 0, 1) := by decide +kernel
theorem dX11_setClock_52 : decode cX11_setClock 52 = .ok (.getfield 7, 3) := by decide +kernel
theorem dX11_setClock_55 : decode cX11_setClock 55 = .ok (.iconst 1, 1) := by decide +kernel
theorem dX11_setClock_56 : decode cX11_setClock 56 = .ok (.iload_n 1, 1) := by decide +kernel
theorem dX11_setClock_57 : decode cX11_setClock 57 = .ok (.iastore, 1) := by decide +kernel
theorem dX11_setClock_58 : decode cX11_setClock 58 = .ok (.aload_n 0, 1) := by decide +kernel
theorem dX11_setClock_59 : decode cX11_setClock 59 = .ok (.getfield 7, 3) := by decide +kernel
theorem dX11_setClock_62 : decode cX11_setClock 62 = .ok (.iconst 2, 1) := by decide +kernel
theorem dX11_setClock_63 : decode cX11_setClock 63 = .ok (.iload_n 2, 1) := by decide +kernel
theorem dX11_setClock_64 : decode cX11_setClock 64 = .ok (.iastore, 1) := by decide +kernel
theorem dX11_setClock_65 : decode cX11_setClock 65 = .ok (.iload_n 3, 1) := by decide +kernel
theorem dX11_setClock_66 : decode cX11_setClock 66 = .ok (.ireturn, 1) := by decide +kernel
theorem dX11_addPacket_0 : decode cX11_addPacket 0 = .ok (.iload_n 2, 1) := by decide +kernel
theorem dX11_addPacket_1 : decode cX11_addPacket 1 = .ok (.i2l, 1) := by decide +kernel
theorem dX11_addPacket_2 : decode cX11_addPacket 2 = .ok (.lconst 0, 1) := by decide +kernel
theorem dX11_addPacket_3 : decode cX11_addPacket 3 = .ok (.ldc2_w 65, 3) := by decide +kernel
theorem dX11_addPacket_6 : decode cX11_addPacket 6 = .ok (.invokestatic 23, 3) := by decide +kernel
theorem dX11_addPacket_9 : decode cX11_addPacket 9 = .ok (.ifCond .eq 32, 3) := by decide +kernel
theorem dX11_addPacket_12 : decode cX11_addPacket 12 = .ok (.iload_n 3, 1) := by decide +kernel
theorem dX11_addPacket_13 : decode cX11_addPacket 13 = .ok (.i2l, 1) := by decide +kernel
theorem dX11_addPacket_14 : decode cX11_addPacket 14 = .ok (.lconst 1, 1) := by decide +kernel
theorem dX11_addPacket_15 : decode cX11_addPacket 15 = .ok (.ldc2_w 57, 3) := by decide +kernel
theorem dX11_addPacket_18 : decode cX11_addPacket 18 = .ok (.invokestatic 23, 3) := by decide +kernel
theorem dX11_addPacket_21 : decode cX11_addPacket 21 = .ok (.ifCond .eq 20, 3) := by decide +kernel
theorem dX11_addPacket_24 : decode cX11_addPacket 24 = .ok (.iload 4, 2) := by decide +kernel
theorem dX11_addPacket_26 : decode cX11_addPacket 26 = .ok (.i2l, 1) := by decide +kernel
theorem dX11_addPacket_27 : decode cX11_addPacket 27 = .ok (.lconst 0, 1) := by decide +kernel
theorem dX11_addPacket_28 : decode cX11_addPacket 28 = .ok (.ldc2_w 67, 3) := by decide +kernel
theorem dX11_addPacket_31 : decode cX11_addPacket 31 = .ok (.invokestatic 23, 3) := by decide +kernel
theorem dX11_addPacket_34 : decode cX11_addPacket 34 = .ok (.ifCond .eq 7, 3) := by decide +kernel
theorem dX11_addPacket_37 : decode cX11_addPacket 37 = .ok (.iconst 1, 1) := by decide +kernel
theorem dX11_addPacket_38 : decode cX11_addPacket 38 = .ok (.goto 4, 3) := by decide +kernel
theorem dX11_addPacket_41 : decode cX11_addPacket 41 = .ok (.iconst 0, 1) := by decide +kernel
theorem dX11_addPacket_42 : decode cX11_addPacket 42 = .ok (.istore 5, 2) := by decide +kernel
theorem dX11_addPacket_44 : decode cX11_addPacket 44 = .ok (.aload_n 0, 1) := by decide +kernel
theorem dX11_addPacket_45 : decode cX11_addPacket 45 = .ok (.iload_n 1, 1) := by decide +kernel
theorem dX11_addPacket_46 : decode cX11_addPacket 46 = .ok (.invokestatic 52, 3) := by decide +kernel
theorem dX11_addPacket_49 : decode cX11_addPacket 49 = .ok (.ifCond .ne 7, 3) := by decide +kernel
theorem dX11_addPacket_52 : decode cX11_addPacket 52 = .ok (.iconst 1, 1) := by decide +kernel
theorem dX11_addPacket_53 : decode cX11_addPacket 53 = .ok (.goto 27, 3) := by decide +kernel
theorem dX11_addPacket_56 : decode cX11_addPacket 56 = .ok (.iload 5, 2) := by decide +kernel
theorem dX11_addPacket_58 : decode cX11_addPacket 58 = .ok (.ifCond .ne 7, 3) := by decide +kernel
theorem dX11_addPacket_61 : decode cX11_addPacket 61 = .ok (.iconst 2, 1) := by decide +kernel
theorem dX11_addPacket_62 : decode cX11_addPacket 62 = .ok (.goto 18, 3) := by decide +kernel
theorem dX11_addPacket_65 : decode cX11_addPacket 65 = .ok (.aload_n 0, 1) := by decide +kernel
theorem dX11_addPacket_66 : decode cX11_addPacket 66 = .ok (.iload_n 1, 1) := by decide +kernel
theorem dX11_addPacket_67 : decode cX11_addPacket 67 = .ok (.invokevirtual 69, 3) := by decide +kernel
theorem dX11_addPacket_70 : decode cX11_addPacket 70 = .ok (.bipush 12, 2) := by decide +kernel
theorem dX11_addPacket_72 : decode cX11_addPacket 72 = .ok (.if_icmp .ne 7, 3) := by decide +kernel
theorem dX11_addPacket_75 : decode cX11_addPacket 75 = .ok (.iconst 3, 1) := by decide +kernel
theorem dX11_addPacket_76 : decode cX11_addPacket 76 = .ok (.goto 4, 3) := by decide +kernel
theorem dX11_addPacket_79 : decode cX11_addPacket 79 = .ok (.iconst 0, 1) := by decide +kernel
theorem dX11_addPacket_80 : decode cX11_addPacket 80 = .ok (.invokevirtual 30, 3) := by decide +kernel
theorem dX11_addPacket_83 : decode cX11_addPacket 83 = .ok (.ifCond .eq 5, 3) := by decide +kernel
theorem dX11_addPacket_86 : decode cX11_addPacket 86 = .ok (.iconst 0, 1) := by decide +kernel
theorem dX11_addPacket_87 : decode cX11_addPacket 87 = .ok (.ireturn, 1) := by decide +kernel
theorem dX11_addPacket_88 : decode cX11_addPacket 88 = .ok (.aload_n 0, 1) := by decide +kernel
theorem dX11_addPacket_89 : decode cX11_addPacket 89 = .ok (.invokevirtual 49, 3) := by decide +kernel
theorem dX11_addPacket_92 : decode cX11_addPacket 92 = .ok (.aload_n 0, 1) := by decide +kernel
theorem dX11_addPacket_93 : decode cX11_addPacket 93 = .ok (.getfield 7, 3) := by decide +kernel
theorem dX11_addPacket_96 : decode cX11_addPacket 96 = .ok (.bipush 10, 2) := by decide +kernel
theorem dX11_addPacket_98 : decode cX11_addPacket 98 = .ok (.iload_n 2, 1) := by decide +kernel
theorem dX11_addPacket_99 : decode cX11_addPacket 99 = .ok (.iadd, 1) := by decide +kernel
theorem dX11_addPacket_100 : decode cX11_addPacket 100 = .ok (.iaload, 1) := by decide +kernel
theorem dX11_addPacket_101 : decode cX11_addPacket 101 = .ok (.istore 6, 2) := by decide +kernel
theorem dX11_addPacket_103 : decode cX11_addPacket 103 = .ok (.aload_n 0, 1) := by decide +kernel
theorem dX11_addPacket_104 : decode cX11_addPacket 104 = .ok (.getfield 7, 3) := by decide +kernel
theorem dX11_addPacket_107 : decode cX11_addPacket 107 = .ok (.bipush 10, 2) := by decide +kernel
theorem dX11_addPacket_109 : decode cX11_addPacket 109 = .ok (.iload_n 2, 1) := by decide +kernel
theorem dX11_addPacket_110 : decode cX11_addPacket 110 = .ok (.iadd, 1) := by decide +kernel
theorem dX11_addPacket_111 : decode cX11_addPacket 111 = .ok (.iload 6, 2) := by decide +kernel
theorem dX11_addPacket_113 : decode cX11_addPacket 113 = .ok (.iconst 1, 1) := by decide +kernel
theorem dX11_addPacket_114 : decode cX11_addPacket 114 = .ok (.iadd, 1) := by decide +kernel
theorem dX11_addPacket_115 : decode cX11_addPacket 115 = .ok (.sipush 256, 3) := by decide +kernel
theorem dX11_addPacket_118 : decode cX11_addPacket 118 = .ok (.irem, 1) := by decide +kernel
theorem dX11_addPacket_119 : decode cX11_addPacket 119 = .ok (.iastore, 1) := by decide +kernel
theorem dX11_addPacket_120 : decode cX11_addPacket 120 = .ok (.aload_n 0, 1) := by decide +kernel
theorem dX11_addPacket_121 : decode cX11_addPacket 121 = .ok (.iload_n 1, 1) := by decide +kernel
theorem dX11_addPacket_122 : decode cX11_addPacket 122 = .ok (.iload_n 2, 1) := by decide +kernel
theorem dX11_addPacket_123 : decode cX11_addPacket 123 = .ok (.iload 6, 2) := by decide +kernel
theorem dX11_addPacket_125 : decode cX11_addPacket 125 = .ok (.iload_n 3, 1) := by decide +kernel
theorem dX11_addPacket_126 : decode cX11_addPacket 126 = .ok (.iload 4, 2) := by decide +kernel
theorem dX11_addPacket_128 : decode cX11_addPacket 128 = .ok (.invokevirtual 72, 3) := by decide +kernel
theorem dX11_addPacket_131 : decode cX11_addPacket 131 = .ok (.iload 6, 2) := by decide +kernel
theorem dX11_addPacket_133 : decode cX11_addPacket 133 = .ok (.ireturn, 1) := by decide +kernel
theorem dX11_queueOf_0 : decode cX11_queueOf 0 = .ok (.iload_n 2, 1) := by decide +kernel
theorem dX11_queueOf_1 : decode cX11_queueOf 1 = .ok (.ifCond .ne 11, 3) := by decide +kernel
theorem dX11_queueOf_4 : decode cX11_queueOf 4 = .ok (.aload_n 0, 1) := by decide +kernel
theorem dX11_queueOf_5 : decode cX11_queueOf 5 = .ok (.iload_n 1, 1) := by decide +kernel
theorem dX11_queueOf_6 : decode cX11_queueOf 6 = .ok (.invokevirtual 69, 3) := by decide +kernel
theorem dX11_queueOf_9 : decode cX11_queueOf 9 = .ok (.goto 25, 3) := by decide +kernel
theorem dX11_queueOf_12 : decode cX11_queueOf 12 = .ok (.iload_n 2, 1) := by decide +kernel
theorem dX11_queueOf_13 : decode cX11_queueOf 13 = .ok (.iconst 1, 1) := by decide +kernel
theorem dX11_queueOf_14 : decode cX11_queueOf 14 = .ok (.if_icmp .ne 11, 3) := by decide +kernel
theorem dX11_queueOf_17 : decode cX11_queueOf 17 = .ok (.aload_n 0, 1) := by decide +kernel
theorem dX11_queueOf_18 : decode cX11_queueOf 18 = .ok (.iload_n 1, 1) := by decide +kernel
theorem dX11_queueOf_19 : decode cX11_queueOf 19 = .ok (.invokevirtual 41, 3) := by decide +kernel
theorem dX11_queueOf_22 : decode cX11_queueOf 22 = .ok (.goto 12, 3) := by decide +kernel
theorem dX11_queueOf_25 : decode cX11_queueOf 25 = .ok (.aload_n 0, 1) := by decide +kernel
theorem dX11_queueOf_26 : decode cX11_queueOf 26 = .ok (.getfield 7, 3) := by decide +kernel
theorem dX11_queueOf_29 : decode cX11_queueOf 29 = .ok (.bipush 37, 2) := by decide +kernel
theorem dX11_queueOf_31 : decode cX11_queueOf 31 = .ok (.iload_n 1, 1) := by decide +kernel
theorem dX11_queueOf_32 : decode cX11_queueOf 32 = .ok (.iadd, 1) := by decide +kernel
theorem dX11_queueOf_33 : decode cX11_queueOf 33 = .ok (.iaload, 1) := by decide +kernel
theorem dX11_queueOf_34 : decode cX11_queueOf 34 = .ok (.ireturn, 1) := by decide +kernel
theorem dX11_queue_0 : decode cX11_queue 0 = .ok (.aload_n 0, 1) := by decide +kernel
theorem dX11_queue_1 : decode cX11_queue 1 = .ok (.iload_n 1, 1) := by decide +kernel
theorem dX11_queue_2 : decode cX11_queue 2 = .ok (.invokestatic 52, 3) := by decide +kernel
theorem dX11_queue_5 : decode cX11_queue 5 = .ok (.ifCond .ne 7, 3) := by decide +kernel
theorem dX11_queue_8 : decode cX11_queue 8 = .ok (.iconst 1, 1) := by decide +kernel
theorem dX11_queue_9 : decode cX11_queue 9 = .ok (.goto 20, 3) := by decide +kernel
theorem dX11_queue_12 : decode cX11_queue 12 = .ok (.iload_n 2, 1) := by decide +kernel
theorem dX11_queue_13 : decode cX11_queue 13 = .ok (.i2l, 1) := by decide +kernel
theorem dX11_queue_14 : decode cX11_queue 14 = .ok (.lconst 0, 1) := by decide +kernel
theorem dX11_queue_15 : decode cX11_queue 15 = .ok (.ldc2_w 76, 3) := by decide +kernel
theorem dX11_queue_18 : decode cX11_queue 18 = .ok (.invokestatic 23, 3) := by decide +kernel
theorem dX11_queue_21 : decode cX11_queue 21 = .ok (.ifCond .eq 7, 3) := by decide +kernel
theorem dX11_queue_24 : decode cX11_queue 24 = .ok (.iconst 0, 1) := by decide +kernel
theorem dX11_queue_25 : decode cX11_queue 25 = .ok (.goto 4, 3) := by decide +kernel
theorem dX11_queue_28 : decode cX11_queue 28 = .ok (.iconst 2, 1) := by decide +kernel
theorem dX11_queue_29 : decode cX11_queue 29 = .ok (.invokevirtual 30, 3) := by decide +kernel
theorem dX11_queue_32 : decode cX11_queue 32 = .ok (.ifCond .eq 7, 3) := by decide +kernel
theorem dX11_queue_35 : decode cX11_queue 35 = .ok (.iconst 0, 1) := by decide +kernel
theorem dX11_queue_36 : decode cX11_queue 36 = .ok (.goto 9, 3) := by decide +kernel
theorem dX11_queue_39 : decode cX11_queue 39 = .ok (.aload_n 0, 1) := by decide +kernel
theorem dX11_queue_40 : decode cX11_queue 40 = .ok (.iload_n 1, 1) := by decide +kernel
theorem dX11_queue_41 : decode cX11_queue 41 = .ok (.iload_n 2, 1) := by decide +kernel
theorem dX11_queue_42 : decode cX11_queue 42 = .ok (.invokevirtual 78, 3) := by decide +kernel
theorem dX11_queue_45 : decode cX11_queue 45 = .ok (.ireturn, 1) := by decide +kernel
theorem dX11_isOverdue_0 : decode cX11_isOverdue 0 = .ok (.aload_n 0, 1) := by decide +kernel
theorem dX11_isOverdue_1 : decode cX11_isOverdue 1 = .ok (.iload_n 1, 1) := by decide +kernel
theorem dX11_isOverdue_2 : decode cX11_isOverdue 2 = .ok (.invokevirtual 41, 3) := by decide +kernel
theorem dX11_isOverdue_5 : decode cX11_isOverdue 5 = .ok (.ifCond .le 28, 3) := by decide +kernel
theorem dX11_isOverdue_8 : decode cX11_isOverdue 8 = .ok (.aload_n 0, 1) := by decide +kernel
theorem dX11_isOverdue_9 : decode cX11_isOverdue 9 = .ok (.getfield 7, 3) := by decide +kernel
theorem dX11_isOverdue_12 : decode cX11_isOverdue 12 = .ok (.bipush 37, 2) := by decide +kernel
theorem dX11_isOverdue_14 : decode cX11_isOverdue 14 = .ok (.iload_n 1, 1) := by decide +kernel
theorem dX11_isOverdue_15 : decode cX11_isOverdue 15 = .ok (.iadd, 1) := by decide +kernel
theorem dX11_isOverdue_16 : decode cX11_isOverdue 16 = .ok (.iaload, 1) := by decide +kernel
theorem dX11_isOverdue_17 : decode cX11_isOverdue 17 = .ok (.aload_n 0, 1) := by decide +kernel
theorem dX11_isOverdue_18 : decode cX11_isOverdue 18 = .ok (.getfield 7, 3) := by decide +kernel
theorem dX11_isOverdue_21 : decode cX11_isOverdue 21 = .ok (.bipush 29, 2) := by decide +kernel
theorem dX11_isOverdue_23 : decode cX11_isOverdue 23 = .ok (.iload_n 1, 1) := by decide +kernel
theorem dX11_isOverdue_24 : decode cX11_isOverdue 24 = .ok (.iadd, 1) := by decide +kernel
theorem dX11_isOverdue_25 : decode cX11_isOverdue 25 = .ok (.iaload, 1) := by decide +kernel
theorem dX11_isOverdue_26 : decode cX11_isOverdue 26 = .ok (.if_icmp .lt 7, 3) := by decide +kernel
theorem dX11_isOverdue_29 : decode cX11_isOverdue 29 = .ok (.iconst 1, 1) := by decide +kernel
theorem dX11_isOverdue_30 : decode cX11_isOverdue 30 = .ok (.goto 4, 3) := by decide +kernel
theorem dX11_isOverdue_33 : decode cX11_isOverdue 33 = .ok (.iconst 0, 1) := by decide +kernel
theorem dX11_isOverdue_34 : decode cX11_isOverdue 34 = .ok (.ireturn, 1) := by decide +kernel
theorem dX11_isReady_0 : decode cX11_isReady 0 = .ok (.aload_n 0, 1) := by decide +kernel
theorem dX11_isReady_1 : decode cX11_isReady 1 = .ok (.iload_n 1, 1) := by decide +kernel
theorem dX11_isReady_2 : decode cX11_isReady 2 = .ok (.invokevirtual 41, 3) := by decide +kernel
theorem dX11_isReady_5 : decode cX11_isReady 5 = .ok (.aload_n 0, 1) := by decide +kernel
theorem dX11_isReady_6 : decode cX11_isReady 6 = .ok (.getfield 7, 3) := by decide +kernel
theorem dX11_isReady_9 : decode cX11_isReady 9 = .ok (.iconst 0, 1) := by decide +kernel
theorem dX11_isReady_10 : decode cX11_isReady 10 = .ok (.iaload, 1) := by decide +kernel
theorem dX11_isReady_11 : decode cX11_isReady 11 = .ok (.if_icmp .ge 32, 3) := by decide +kernel
theorem dX11_isReady_14 : decode cX11_isReady 14 = .ok (.aload_n 0, 1) := by decide +kernel
theorem dX11_isReady_15 : decode cX11_isReady 15 = .ok (.iload_n 1, 1) := by decide +kernel
theorem dX11_isReady_16 : decode cX11_isReady 16 = .ok (.invokevirtual 41, 3) := by decide +kernel
theorem dX11_isReady_19 : decode cX11_isReady 19 = .ok (.ifCond .le 28, 3) := by decide +kernel
theorem dX11_isReady_22 : decode cX11_isReady 22 = .ok (.aload_n 0, 1) := by decide +kernel
theorem dX11_isReady_23 : decode cX11_isReady 23 = .ok (.getfield 7, 3) := by decide +kernel
theorem dX11_isReady_26 : decode cX11_isReady 26 = .ok (.bipush 37, 2) := by decide +kernel
theorem dX11_isReady_28 : decode cX11_isReady 28 = .ok (.iload_n 1, 1) := by decide +kernel
theorem dX11_isReady_29 : decode cX11_isReady 29 = .ok (.iadd, 1) := by decide +kernel
theorem dX11_isReady_30 : decode cX11_isReady 30 = .ok (.iaload, 1) := by decide +kernel
theorem dX11_isReady_31 : decode cX11_isReady 31 = .ok (.aload_n 0, 1) := by decide +kernel
theorem dX11_isReady_32 : decode cX11_isReady 32 = .ok (.getfield 7, 3) := by decide +kernel
theorem dX11_isReady_35 : decode cX11_isReady 35 = .ok (.bipush 33, 2) := by decide +kernel
theorem dX11_isReady_37 : decode cX11_isReady 37 = .ok (.iload_n 1, 1) := by decide +kernel
theorem dX11_isReady_38 : decode cX11_isReady 38 = .ok (.iadd, 1) := by decide +kernel
theorem dX11_isReady_39 : decode cX11_isReady 39 = .ok (.iaload, 1) := by decide +kernel
theorem dX11_isReady_40 : decode cX11_isReady 40 = .ok (.if_icmp .lt 7, 3) := by decide +kernel
theorem dX11_isReady_43 : decode cX11_isReady 43 = .ok (.iconst 1, 1) := by decide +kernel
theorem dX11_isReady_44 : decode cX11_isReady 44 = .ok (.goto 4, 3) := by decide +kernel
theorem dX11_isReady_47 : decode cX11_isReady 47 = .ok (.iconst 0, 1) := by decide +kernel
theorem dX11_isReady_48 : decode cX11_isReady 48 = .ok (.ireturn, 1) := by decide +kernel
theorem dX11_isAhead_0 : decode cX11_isAhead 0 = .ok (.iload_n 3, 1) := by decide +kernel
theorem dX11_isAhead_1 : decode cX11_isAhead 1 = .ok (.ifCond .eq 45, 3) := by decide +kernel
theorem dX11_isAhead_4 : decode cX11_isAhead 4 = .ok (.aload_n 0, 1) := by decide +kernel
theorem dX11_isAhead_5 : decode cX11_isAhead 5 = .ok (.getfield 7, 3) := by decide +kernel
theorem dX11_isAhead_8 : decode cX11_isAhead 8 = .ok (.bipush 37, 2) := by decide +kernel
theorem dX11_isAhead_10 : decode cX11_isAhead 10 = .ok (.iload_n 1, 1) := by decide +kernel
theorem dX11_isAhead_11 : decode cX11_isAhead 11 = .ok (.iadd, 1) := by decide +kernel
theorem dX11_isAhead_12 : decode cX11_isAhead 12 = .ok (.iaload, 1) := by decide +kernel
theorem dX11_isAhead_13 : decode cX11_isAhead 13 = .ok (.aload_n 0, 1) := by decide +kernel
theorem dX11_isAhead_14 : decode cX11_isAhead 14 = .ok (.getfield 7, 3) := by decide +kernel
theorem dX11_isAhead_17 : decode cX11_isAhead 17 = .ok (.bipush 29, 2) := by decide +kernel
theorem dX11_isAhead_19 : decode cX11_isAhead 19 = .ok (.iload_n 1, 1) := by decide +kernel
theorem dX11_isAhead_20 : decode cX11_isAhead 20 = .ok (.iadd, 1) := by decide +kernel
theorem dX11_isAhead_21 : decode cX11_isAhead 21 = .ok (.iaload, 1) := by decide +kernel
theorem dX11_isAhead_22 : decode cX11_isAhead 22 = .ok (.isub, 1) := by decide +kernel
theorem dX11_isAhead_23 : decode cX11_isAhead 23 = .ok (.aload_n 0, 1) := by decide +kernel
theorem dX11_isAhead_24 : decode cX11_isAhead 24 = .ok (.getfield 7, 3) := by decide +kernel
theorem dX11_isAhead_27 : decode cX11_isAhead 27 = .ok (.bipush 37, 2) := by decide +kernel
theorem dX11_isAhead_29 : decode cX11_isAhead 29 = .ok (.iload_n 2, 1) := by decide +kernel
theorem dX11_isAhead_30 : decode cX11_isAhead 30 = .ok (.iadd, 1) := by decide +kernel
theorem dX11_isAhead_31 : decode cX11_isAhead 31 = .ok (.iaload, 1) := by decide +kernel
theorem dX11_isAhead_32 : decode cX11_isAhead 32 = .ok (.isub, 1) := by decide +kernel
theorem dX11_isAhead_33 : decode cX11_isAhead 33 = .ok (.aload_n 0, 1) := by decide +kernel
theorem dX11_isAhead_34 : decode cX11_isAhead 34 = .ok (.getfield 7, 3) := by decide +kernel
theorem dX11_isAhead_37 : decode cX11_isAhead 37 = .ok (.bipush 29, 2) := by decide +kernel
theorem dX11_isAhead_39 : decode cX11_isAhead 39 = .ok (.iload_n 2, 1) := by decide +kernel
theorem dX11_isAhead_40 : decode cX11_isAhead 40 = .ok (.iadd, 1) := by decide +kernel
theorem dX11_isAhead_41 : decode cX11_isAhead 41 = .ok (.iaload, 1) := by decide +kernel
theorem dX11_isAhead_42 : decode cX11_isAhead 42 = .ok (.iadd, 1) := by decide +kernel
theorem dX11_isAhead_43 : decode cX11_isAhead 43 = .ok (.goto 4, 3) := by decide +kernel
theorem dX11_isAhead_46 : decode cX11_isAhead 46 = .ok (.iconst 0, 1) := by decide +kernel
theorem dX11_isAhead_47 : decode cX11_isAhead 47 = .ok (.istore 4, 2) := by decide +kernel
theorem dX11_isAhead_49 : decode cX11_isAhead 49 = .ok (.iload 4, 2) := by decide +kernel
theorem dX11_isAhead_51 : decode cX11_isAhead 51 = .ok (.ifCond .eq 14, 3) := by decide +kernel
theorem dX11_isAhead_54 : decode cX11_isAhead 54 = .ok (.iload 4, 2) := by decide +kernel
theorem dX11_isAhead_56 : decode cX11_isAhead 56 = .ok (.ifCond .le 7, 3) := by decide +kernel
theorem dX11_isAhead_59 : decode cX11_isAhead 59 = .ok (.iconst 1, 1) := by decide +kernel
theorem dX11_isAhead_60 : decode cX11_isAhead 60 = .ok (.goto 4, 3) := by decide +kernel
theorem dX11_isAhead_63 : decode cX11_isAhead 63 = .ok (.iconst 0, 1) := by decide +kernel
theorem dX11_isAhead_64 : decode cX11_isAhead 64 = .ok (.ireturn, 1) := by decide +kernel
theorem dX11_isAhead_65 : decode cX11_isAhead 65 = .ok (.aload_n 0, 1) := by decide +kernel
theorem dX11_isAhead_66 : decode cX11_isAhead 66 = .ok (.getfield 7, 3) := by decide +kernel
theorem dX11_isAhead_69 : decode cX11_isAhead 69 = .ok (.bipush 25, 2) := by decide +kernel
theorem dX11_isAhead_71 : decode cX11_isAhead 71 = .ok (.iload_n 1, 1) := by decide +kernel
theorem dX11_isAhead_72 : decode cX11_isAhead 72 = .ok (.iadd, 1) := by decide +kernel
theorem dX11_isAhead_73 : decode cX11_isAhead 73 = .ok (.iaload, 1) := by decide +kernel
theorem dX11_isAhead_74 : decode cX11_isAhead 74 = .ok (.aload_n 0, 1) := by decide +kernel
theorem dX11_isAhead_75 : decode cX11_isAhead 75 = .ok (.getfield 7, 3) := by decide +kernel
theorem dX11_isAhead_78 : decode cX11_isAhead 78 = .ok (.bipush 25, 2) := by decide +kernel
theorem dX11_isAhead_80 : decode cX11_isAhead 80 = .ok (.iload_n 2, 1) := by decide +kernel
theorem dX11_isAhead_81 : decode cX11_isAhead 81 = .ok (.iadd, 1) := by decide +kernel
theorem dX11_isAhead_82 : decode cX11_isAhead 82 = .ok (.iaload, 1) := by decide +kernel
theorem dX11_isAhead_83 : decode cX11_isAhead 83 = .ok (.isub, 1) := by decide +kernel
theorem dX11_isAhead_84 : decode cX11_isAhead 84 = .ok (.istore 4, 2) := by decide +kernel
theorem dX11_isAhead_86 : decode cX11_isAhead 86 = .ok (.iload 4, 2) := by decide +kernel
theorem dX11_isAhead_88 : decode cX11_isAhead 88 = .ok (.ifCond .gt 29, 3) := by decide +kernel
theorem dX11_isAhead_91 : decode cX11_isAhead 91 = .ok (.iload 4, 2) := by decide +kernel
theorem dX11_isAhead_93 : decode cX11_isAhead 93 = .ok (.ifCond .ne 28, 3) := by decide +kernel
theorem dX11_isAhead_96 : decode cX11_isAhead 96 = .ok (.aload_n 0, 1) := by decide +kernel
theorem dX11_isAhead_97 : decode cX11_isAhead 97 = .ok (.getfield 7, 3) := by decide +kernel
theorem dX11_isAhead_100 : decode cX11_isAhead 100 = .ok (.bipush 37, 2) := by decide +kernel
theorem dX11_isAhead_102 : decode cX11_isAhead 102 = .ok (.iload_n 1, 1) := by decide +kernel
theorem dX11_isAhead_103 : decode cX11_isAhead 103 = .ok (.iadd, 1) := by decide +kernel
theorem dX11_isAhead_104 : decode cX11_isAhead 104 = .ok (.iaload, 1) := by decide +kernel
theorem dX11_isAhead_105 : decode cX11_isAhead 105 = .ok (.aload_n 0, 1) := by decide +kernel
theorem dX11_isAhead_106 : decode cX11_isAhead 106 = .ok (.getfield 7, 3) := by decide +kernel
theorem dX11_isAhead_109 : decode cX11_isAhead 109 = .ok (.bipush 37, 2) := by decide +kernel
theorem dX11_isAhead_111 : decode cX11_isAhead 111 = .ok (.iload_n 2, 1) := by decide +kernel
theorem dX11_isAhead_112 : decode cX11_isAhead 112 = .ok (.iadd, 1) := by decide +kernel
theorem dX11_isAhead_113 : decode cX11_isAhead 113 = .ok (.iaload, 1) := by decide +kernel
theorem dX11_isAhead_114 : decode cX11_isAhead 114 = .ok (.if_icmp .le 7, 3) := by decide +kernel
theorem dX11_isAhead_117 : decode cX11_isAhead 117 = .ok (.iconst 1, 1) := by decide +kernel
theorem dX11_isAhead_118 : decode cX11_isAhead 118 = .ok (.goto 4, 3) := by decide +kernel
theorem dX11_isAhead_121 : decode cX11_isAhead 121 = .ok (.iconst 0, 1) := by decide +kernel
theorem dX11_isAhead_122 : decode cX11_isAhead 122 = .ok (.ireturn, 1) := by decide +kernel
theorem dX11_best_0 : decode cX11_best 0 = .ok (.iconst (-1), 1) := by decide +kernel
theorem dX11_best_1 : decode cX11_best 1 = .ok (.istore_n 2, 1) := by decide +kernel
theorem dX11_best_2 : decode cX11_best 2 = .ok (.iconst 0, 1) := by decide +kernel
theorem dX11_best_3 : decode cX11_best 3 = .ok (.istore_n 3, 1) := by decide +kernel
theorem dX11_best_4 : decode cX11_best 4 = .ok (.iload_n 3, 1) := by decide +kernel
theorem dX11_best_5 : decode cX11_best 5 = .ok (.iconst 4, 1) := by decide +kernel
theorem dX11_best_6 : decode cX11_best 6 = .ok (.if_icmp .ge 54, 3) := by decide +kernel
theorem dX11_best_9 : decode cX11_best 9 = .ok (.iload_n 1, 1) := by decide +kernel
theorem dX11_best_10 : decode cX11_best 10 = .ok (.ifCond .eq 11, 3) := by decide +kernel
theorem dX11_best_13 : decode cX11_best 13 = .ok (.aload_n 0, 1) := by decide +kernel
theorem dX11_best_14 : decode cX11_best 14 = .ok (.iload_n 3, 1) := by decide +kernel
theorem dX11_best_15 : decode cX11_best 15 = .ok (.invokevirtual 81, 3) := by decide +kernel
theorem dX11_best_18 : decode cX11_best 18 = .ok (.goto 8, 3) := by decide +kernel
theorem dX11_best_21 : decode cX11_best 21 = .ok (.aload_n 0, 1) := by decide +kernel
theorem dX11_best_22 : decode cX11_best 22 = .ok (.iload_n 3, 1) := by decide +kernel
theorem dX11_best_23 : decode cX11_best 23 = .ok (.invokevirtual 84, 3) := by decide +kernel
theorem dX11_best_26 : decode cX11_best 26 = .ok (.istore 4, 2) := by decide +kernel
theorem dX11_best_28 : decode cX11_best 28 = .ok (.iload 4, 2) := by decide +kernel
theorem dX11_best_30 : decode cX11_best 30 = .ok (.ifCond .eq 22, 3) := by decide +kernel
theorem dX11_best_33 : decode cX11_best 33 = .ok (.iload_n 2, 1) := by decide +kernel
theorem dX11_best_34 : decode cX11_best 34 = .ok (.iconst (-1), 1) := by decide +kernel
theorem dX11_best_35 : decode cX11_best 35 = .ok (.if_icmp .eq 13, 3) := by decide +kernel
theorem dX11_best_38 : decode cX11_best 38 = .ok (.aload_n 0, 1) := by decide +kernel
theorem dX11_best_39 : decode cX11_best 39 = .ok (.iload_n 3, 1) := by decide +kernel
theorem dX11_best_40 : decode cX11_best 40 = .ok (.iload_n 2, 1) := by decide +kernel
theorem dX11_best_41 : decode cX11_best 41 = .ok (.iload_n 1, 1) := by decide +kernel
theorem dX11_best_42 : decode cX11_best 42 = .ok (.invokevirtual 87, 3) := by decide +kernel
theorem dX11_best_45 : decode cX11_best 45 = .ok (.ifCond .eq 7, 3) := by decide +kernel
theorem dX11_best_48 : decode cX11_best 48 = .ok (.iload_n 3, 1) := by decide +kernel
theorem dX11_best_49 : decode cX11_best 49 = .ok (.goto 4, 3) := by decide +kernel
theorem dX11_best_52 : decode cX11_best 52 = .ok (.iload_n 2, 1) := by decide +kernel
theorem dX11_best_53 : decode cX11_best 53 = .ok (.istore_n 2, 1) := by decide +kernel
theorem dX11_best_54 : decode cX11_best 54 = .ok (.iinc 3 1, 3) := by decide +kernel
theorem dX11_best_57 : decode cX11_best 57 = .ok (.goto (-53), 3) := by decide +kernel
theorem dX11_best_60 : decode cX11_best 60 = .ok (.iload_n 2, 1) := by decide +kernel
theorem dX11_best_61 : decode cX11_best 61 = .ok (.ireturn, 1) := by decide +kernel
theorem dX11_chosen_0 : decode cX11_chosen 0 = .ok (.aload_n 0, 1) := by decide +kernel
theorem dX11_chosen_1 : decode cX11_chosen 1 = .ok (.iconst 1, 1) := by decide +kernel
theorem dX11_chosen_2 : decode cX11_chosen 2 = .ok (.invokevirtual 91, 3) := by decide +kernel
theorem dX11_chosen_5 : decode cX11_chosen 5 = .ok (.istore_n 1, 1) := by decide +kernel
theorem dX11_chosen_6 : decode cX11_chosen 6 = .ok (.iload_n 1, 1) := by decide +kernel
theorem dX11_chosen_7 : decode cX11_chosen 7 = .ok (.iconst (-1), 1) := by decide +kernel
theorem dX11_chosen_8 : decode cX11_chosen 8 = .ok (.if_icmp .ne 11, 3) := by decide +kernel
theorem dX11_chosen_11 : decode cX11_chosen 11 = .ok (.aload_n 0, 1) := by decide +kernel
theorem dX11_chosen_12 : decode cX11_chosen 12 = .ok (.iconst 0, 1) := by decide +kernel
theorem dX11_chosen_13 : decode cX11_chosen 13 = .ok (.invokevirtual 91, 3) := by decide +kernel
theorem dX11_chosen_16 : decode cX11_chosen 16 = .ok (.goto 4, 3) := by decide +kernel
theorem dX11_chosen_19 : decode cX11_chosen 19 = .ok (.iload_n 1, 1) := by decide +kernel
theorem dX11_chosen_20 : decode cX11_chosen 20 = .ok (.ireturn, 1) := by decide +kernel
theorem dX11_nextChannel_0 : decode cX11_nextChannel 0 = .ok (.aload_n 0, 1) := by decide +kernel
theorem dX11_nextChannel_1 : decode cX11_nextChannel 1 = .ok (.iconst 0, 1) := by decide +kernel
theorem dX11_nextChannel_2 : decode cX11_nextChannel 2 = .ok (.putfield 17, 3) := by decide +kernel
theorem dX11_nextChannel_5 : decode cX11_nextChannel 5 = .ok (.aload_n 0, 1) := by decide +kernel
theorem dX11_nextChannel_6 : decode cX11_nextChannel 6 = .ok (.invokevirtual 95, 3) := by decide +kernel
theorem dX11_nextChannel_9 : decode cX11_nextChannel 9 = .ok (.ireturn, 1) := by decide +kernel
theorem dX11_frameAt_0 : decode cX11_frameAt 0 = .ok (.sipush 383, 3) := by decide +kernel
theorem dX11_frameAt_3 : decode cX11_frameAt 3 = .ok (.bipush 50, 2) := by decide +kernel
theorem dX11_frameAt_5 : decode cX11_frameAt 5 = .ok (.iload_n 1, 1) := by decide +kernel
theorem dX11_frameAt_6 : decode cX11_frameAt 6 = .ok (.imul, 1) := by decide +kernel
theorem dX11_frameAt_7 : decode cX11_frameAt 7 = .ok (.iadd, 1) := by decide +kernel
theorem dX11_frameAt_8 : decode cX11_frameAt 8 = .ok (.ireturn, 1) := by decide +kernel
theorem dX11_checked_0 : decode cX11_checked 0 = .ok (.ldc 99, 2) := by decide +kernel
theorem dX11_checked_2 : decode cX11_checked 2 = .ok (.istore_n 2, 1) := by decide +kernel
theorem dX11_checked_3 : decode cX11_checked 3 = .ok (.iconst 0, 1) := by decide +kernel
theorem dX11_checked_4 : decode cX11_checked 4 = .ok (.istore_n 3, 1) := by decide +kernel
theorem dX11_checked_5 : decode cX11_checked 5 = .ok (.iload_n 3, 1) := by decide +kernel
theorem dX11_checked_6 : decode cX11_checked 6 = .ok (.iconst 4, 1) := by decide +kernel
theorem dX11_checked_7 : decode cX11_checked 7 = .ok (.aload_n 0, 1) := by decide +kernel
theorem dX11_checked_8 : decode cX11_checked 8 = .ok (.getfield 7, 3) := by decide +kernel
theorem dX11_checked_11 : decode cX11_checked 11 = .ok (.aload_n 0, 1) := by decide +kernel
theorem dX11_checked_12 : decode cX11_checked 12 = .ok (.iload_n 1, 1) := by decide +kernel
theorem dX11_checked_13 : decode cX11_checked 13 = .ok (.invokevirtual 100, 3) := by decide +kernel
theorem dX11_checked_16 : decode cX11_checked 16 = .ok (.iaload, 1) := by decide +kernel
theorem dX11_checked_17 : decode cX11_checked 17 = .ok (.iadd, 1) := by decide +kernel
theorem dX11_checked_18 : decode cX11_checked 18 = .ok (.if_icmp .ge 68, 3) := by decide +kernel
theorem dX11_checked_21 : decode cX11_checked 21 = .ok (.iload_n 2, 1) := by decide +kernel
theorem dX11_checked_22 : decode cX11_checked 22 = .ok (.aload_n 0, 1) := by decide +kernel
theorem dX11_checked_23 : decode cX11_checked 23 = .ok (.getfield 7, 3) := by decide +kernel
theorem dX11_checked_26 : decode cX11_checked 26 = .ok (.aload_n 0, 1) := by decide +kernel
theorem dX11_checked_27 : decode cX11_checked 27 = .ok (.iload_n 1, 1) := by decide +kernel
theorem dX11_checked_28 : decode cX11_checked 28 = .ok (.invokevirtual 100, 3) := by decide +kernel
theorem dX11_checked_31 : decode cX11_checked 31 = .ok (.iconst 4, 1) := by decide +kernel
theorem dX11_checked_32 : decode cX11_checked 32 = .ok (.iadd, 1) := by decide +kernel
theorem dX11_checked_33 : decode cX11_checked 33 = .ok (.iload_n 3, 1) := by decide +kernel
theorem dX11_checked_34 : decode cX11_checked 34 = .ok (.iadd, 1) := by decide +kernel
theorem dX11_checked_35 : decode cX11_checked 35 = .ok (.iaload, 1) := by decide +kernel
theorem dX11_checked_36 : decode cX11_checked 36 = .ok (.bipush 8, 2) := by decide +kernel
theorem dX11_checked_38 : decode cX11_checked 38 = .ok (.ishl, 1) := by decide +kernel
theorem dX11_checked_39 : decode cX11_checked 39 = .ok (.ixor, 1) := by decide +kernel
theorem dX11_checked_40 : decode cX11_checked 40 = .ok (.istore_n 2, 1) := by decide +kernel
theorem dX11_checked_41 : decode cX11_checked 41 = .ok (.iconst 0, 1) := by decide +kernel
theorem dX11_checked_42 : decode cX11_checked 42 = .ok (.istore 4, 2) := by decide +kernel
theorem dX11_checked_44 : decode cX11_checked 44 = .ok (.iload 4, 2) := by decide +kernel
theorem dX11_checked_46 : decode cX11_checked 46 = .ok (.bipush 8, 2) := by decide +kernel
theorem dX11_checked_48 : decode cX11_checked 48 = .ok (.if_icmp .ge 32, 3) := by decide +kernel
theorem dX11_checked_51 : decode cX11_checked 51 = .ok (.iload_n 2, 1) := by decide +kernel
theorem dX11_checked_52 : decode cX11_checked 52 = .ok (.ldc 103, 2) := by decide +kernel
theorem dX11_checked_54 : decode cX11_checked 54 = .ok (.if_icmp .ge 9, 3) := by decide +kernel
theorem dX11_checked_57 : decode cX11_checked 57 = .ok (.iconst 2, 1) := by decide +kernel
theorem dX11_checked_58 : decode cX11_checked 58 = .ok (.iload_n 2, 1) := by decide +kernel
theorem dX11_checked_59 : decode cX11_checked 59 = .ok (.imul, 1) := by decide +kernel
theorem dX11_checked_60 : decode cX11_checked 60 = .ok (.goto 10, 3) := by decide +kernel
theorem dX11_checked_63 : decode cX11_checked 63 = .ok (.iconst 2, 1) := by decide +kernel
theorem dX11_checked_64 : decode cX11_checked 64 = .ok (.iload_n 2, 1) := by decide +kernel
theorem dX11_checked_65 : decode cX11_checked 65 = .ok (.imul, 1) := by decide +kernel
theorem dX11_checked_66 : decode cX11_checked 66 = .ok (.sipush 4129, 3) := by decide +kernel
theorem dX11_checked_69 : decode cX11_checked 69 = .ok (.ixor, 1) := by decide +kernel
theorem dX11_checked_70 : decode cX11_checked 70 = .ok (.ldc 104, 2) := by decide +kernel
theorem dX11_checked_72 : decode cX11_checked 72 = .ok (.irem, 1) := by decide +kernel
theorem dX11_checked_73 : decode cX11_checked 73 = .ok (.istore_n 2, 1) := by decide +kernel
theorem dX11_checked_74 : decode cX11_checked 74 = .ok (.iinc 4 1, 3) := by decide +kernel
theorem dX11_checked_77 : decode cX11_checked 77 = .ok (.goto (-33), 3) := by decide +kernel
theorem dX11_checked_80 : decode cX11_checked 80 = .ok (.iinc 3 1, 3) := by decide +kernel
theorem dX11_checked_83 : decode cX11_checked 83 = .ok (.goto (-78), 3) := by decide +kernel
theorem dX11_checked_86 : decode cX11_checked 86 = .ok (.iload_n 2, 1) := by decide +kernel
theorem dX11_checked_87 : decode cX11_checked 87 = .ok (.ireturn, 1) := by decide +kernel
theorem dX11_laysCheck_0 : decode cX11_laysCheck 0 = .ok (.aload_n 0, 1) := by decide +kernel
theorem dX11_laysCheck_1 : decode cX11_laysCheck 1 = .ok (.iload_n 1, 1) := by decide +kernel
theorem dX11_laysCheck_2 : decode cX11_laysCheck 2 = .ok (.invokevirtual 100, 3) := by decide +kernel
theorem dX11_laysCheck_5 : decode cX11_laysCheck 5 = .ok (.iconst 4, 1) := by decide +kernel
theorem dX11_laysCheck_6 : decode cX11_laysCheck 6 = .ok (.iadd, 1) := by decide +kernel
theorem dX11_laysCheck_7 : decode cX11_laysCheck 7 = .ok (.iconst 4, 1) := by decide +kernel
theorem dX11_laysCheck_8 : decode cX11_laysCheck 8 = .ok (.iadd, 1) := by decide +kernel
theorem dX11_laysCheck_9 : decode cX11_laysCheck 9 = .ok (.aload_n 0, 1) := by decide +kernel
theorem dX11_laysCheck_10 : decode cX11_laysCheck 10 = .ok (.getfield 7, 3) := by decide +kernel
theorem dX11_laysCheck_13 : decode cX11_laysCheck 13 = .ok (.aload_n 0, 1) := by decide +kernel
theorem dX11_laysCheck_14 : decode cX11_laysCheck 14 = .ok (.iload_n 1, 1) := by decide +kernel
theorem dX11_laysCheck_15 : decode cX11_laysCheck 15 = .ok (.invokevirtual 100, 3) := by decide +kernel
theorem dX11_laysCheck_18 : decode cX11_laysCheck 18 = .ok (.iaload, 1) := by decide +kernel
theorem dX11_laysCheck_19 : decode cX11_laysCheck 19 = .ok (.iadd, 1) := by decide +kernel
theorem dX11_laysCheck_20 : decode cX11_laysCheck 20 = .ok (.istore_n 2, 1) := by decide +kernel
theorem dX11_laysCheck_21 : decode cX11_laysCheck 21 = .ok (.aload_n 0, 1) := by decide +kernel
theorem dX11_laysCheck_22 : decode cX11_laysCheck 22 = .ok (.getfield 7, 3) := by decide +kernel
theorem dX11_laysCheck_25 : decode cX11_laysCheck 25 = .ok (.iload_n 2, 1) := by decide +kernel
theorem dX11_laysCheck_26 : decode cX11_laysCheck 26 = .ok (.aload_n 0, 1) := by decide +kernel
theorem dX11_laysCheck_27 : decode cX11_laysCheck 27 = .ok (.iload_n 1, 1) := by decide +kernel
theorem dX11_laysCheck_28 : decode cX11_laysCheck 28 = .ok (.invokevirtual 105, 3) := by decide +kernel
theorem dX11_laysCheck_31 : decode cX11_laysCheck 31 = .ok (.sipush 256, 3) := by decide +kernel
theorem dX11_laysCheck_34 : decode cX11_laysCheck 34 = .ok (.idiv, 1) := by decide +kernel
theorem dX11_laysCheck_35 : decode cX11_laysCheck 35 = .ok (.iastore, 1) := by decide +kernel
theorem dX11_laysCheck_36 : decode cX11_laysCheck 36 = .ok (.aload_n 0, 1) := by decide +kernel
theorem dX11_laysCheck_37 : decode cX11_laysCheck 37 = .ok (.getfield 7, 3) := by decide +kernel
theorem dX11_laysCheck_40 : decode cX11_laysCheck 40 = .ok (.iload_n 2, 1) := by decide +kernel
theorem dX11_laysCheck_41 : decode cX11_laysCheck 41 = .ok (.iconst 1, 1) := by decide +kernel
theorem dX11_laysCheck_42 : decode cX11_laysCheck 42 = .ok (.iadd, 1) := by decide +kernel
theorem dX11_laysCheck_43 : decode cX11_laysCheck 43 = .ok (.aload_n 0, 1) := by decide +kernel
theorem dX11_laysCheck_44 : decode cX11_laysCheck 44 = .ok (.iload_n 1, 1) := by decide +kernel
theorem dX11_laysCheck_45 : decode cX11_laysCheck 45 = .ok (.invokevirtual 105, 3) := by decide +kernel
theorem dX11_laysCheck_48 : decode cX11_laysCheck 48 = .ok (.sipush 256, 3) := by decide +kernel
theorem dX11_laysCheck_51 : decode cX11_laysCheck 51 = .ok (.irem, 1) := by decide +kernel
theorem dX11_laysCheck_52 : decode cX11_laysCheck 52 = .ok (.iastore, 1) := by decide +kernel
theorem dX11_laysCheck_53 : decode cX11_laysCheck 53 = .ok (.return_, 1) := by decide +kernel
theorem dX11_checkAt_0 : decode cX11_checkAt 0 = .ok (.aload_n 0, 1) := by decide +kernel
theorem dX11_checkAt_1 : decode cX11_checkAt 1 = .ok (.iload_n 1, 1) := by decide +kernel
theorem dX11_checkAt_2 : decode cX11_checkAt 2 = .ok (.invokevirtual 100, 3) := by decide +kernel
theorem dX11_checkAt_5 : decode cX11_checkAt 5 = .ok (.iconst 4, 1) := by decide +kernel
theorem dX11_checkAt_6 : decode cX11_checkAt 6 = .ok (.iadd, 1) := by decide +kernel
theorem dX11_checkAt_7 : decode cX11_checkAt 7 = .ok (.iconst 4, 1) := by decide +kernel
theorem dX11_checkAt_8 : decode cX11_checkAt 8 = .ok (.iadd, 1) := by decide +kernel
theorem dX11_checkAt_9 : decode cX11_checkAt 9 = .ok (.aload_n 0, 1) := by decide +kernel
theorem dX11_checkAt_10 : decode cX11_checkAt 10 = .ok (.getfield 7, 3) := by decide +kernel
theorem dX11_checkAt_13 : decode cX11_checkAt 13 = .ok (.aload_n 0, 1) := by decide +kernel
theorem dX11_checkAt_14 : decode cX11_checkAt 14 = .ok (.iload_n 1, 1) := by decide +kernel
theorem dX11_checkAt_15 : decode cX11_checkAt 15 = .ok (.invokevirtual 100, 3) := by decide +kernel
theorem dX11_checkAt_18 : decode cX11_checkAt 18 = .ok (.iaload, 1) := by decide +kernel
theorem dX11_checkAt_19 : decode cX11_checkAt 19 = .ok (.iadd, 1) := by decide +kernel
theorem dX11_checkAt_20 : decode cX11_checkAt 20 = .ok (.istore_n 2, 1) := by decide +kernel
theorem dX11_checkAt_21 : decode cX11_checkAt 21 = .ok (.sipush 256, 3) := by decide +kernel
theorem dX11_checkAt_24 : decode cX11_checkAt 24 = .ok (.aload_n 0, 1) := by decide +kernel
theorem dX11_checkAt_25 : decode cX11_checkAt 25 = .ok (.getfield 7, 3) := by decide +kernel
theorem dX11_checkAt_28 : decode cX11_checkAt 28 = .ok (.iload_n 2, 1) := by decide +kernel
theorem dX11_checkAt_29 : decode cX11_checkAt 29 = .ok (.iaload, 1) := by decide +kernel
theorem dX11_checkAt_30 : decode cX11_checkAt 30 = .ok (.imul, 1) := by decide +kernel
theorem dX11_checkAt_31 : decode cX11_checkAt 31 = .ok (.aload_n 0, 1) := by decide +kernel
theorem dX11_checkAt_32 : decode cX11_checkAt 32 = .ok (.getfield 7, 3) := by decide +kernel
theorem dX11_checkAt_35 : decode cX11_checkAt 35 = .ok (.iload_n 2, 1) := by decide +kernel
theorem dX11_checkAt_36 : decode cX11_checkAt 36 = .ok (.iconst 1, 1) := by decide +kernel
theorem dX11_checkAt_37 : decode cX11_checkAt 37 = .ok (.iadd, 1) := by decide +kernel
theorem dX11_checkAt_38 : decode cX11_checkAt 38 = .ok (.iaload, 1) := by decide +kernel
theorem dX11_checkAt_39 : decode cX11_checkAt 39 = .ok (.iadd, 1) := by decide +kernel
theorem dX11_checkAt_40 : decode cX11_checkAt 40 = .ok (.ireturn, 1) := by decide +kernel
theorem dX11_clockNow_0 : decode cX11_clockNow 0 = .ok (.ldc2_w 61, 3) := by decide +kernel
theorem dX11_clockNow_3 : decode cX11_clockNow 3 = .ok (.aload_n 0, 1) := by decide +kernel
theorem dX11_clockNow_4 : decode cX11_clockNow 4 = .ok (.getfield 7, 3) := by decide +kernel
theorem dX11_clockNow_7 : decode cX11_clockNow 7 = .ok (.iconst 3, 1) := by decide +kernel
theorem dX11_clockNow_8 : decode cX11_clockNow 8 = .ok (.iaload, 1) := by decide +kernel
theorem dX11_clockNow_9 : decode cX11_clockNow 9 = .ok (.i2l, 1) := by decide +kernel
theorem dX11_clockNow_10 : decode cX11_clockNow 10 = .ok (.lmul, 1) := by decide +kernel
theorem dX11_clockNow_11 : decode cX11_clockNow 11 = .ok (.aload_n 0, 1) := by decide +kernel
theorem dX11_clockNow_12 : decode cX11_clockNow 12 = .ok (.getfield 7, 3) := by decide +kernel
theorem dX11_clockNow_15 : decode cX11_clockNow 15 = .ok (.iconst 3, 1) := by decide +kernel
theorem dX11_clockNow_16 : decode cX11_clockNow 16 = .ok (.iaload, 1) := by decide +kernel
theorem dX11_clockNow_17 : decode cX11_clockNow 17 = .ok (.i2l, 1) := by decide +kernel
theorem dX11_clockNow_18 : decode cX11_clockNow 18 = .ok (.aload_n 0, 1) := by decide +kernel
theorem dX11_clockNow_19 : decode cX11_clockNow 19 = .ok (.getfield 7, 3) := by decide +kernel
theorem dX11_clockNow_22 : decode cX11_clockNow 22 = .ok (.iconst 1, 1) := by decide +kernel
theorem dX11_clockNow_23 : decode cX11_clockNow 23 = .ok (.iaload, 1) := by decide +kernel
theorem dX11_clockNow_24 : decode cX11_clockNow 24 = .ok (.i2l, 1) := by decide +kernel
theorem dX11_clockNow_25 : decode cX11_clockNow 25 = .ok (.lmul, 1) := by decide +kernel
theorem dX11_clockNow_26 : decode cX11_clockNow 26 = .ok (.ldc2_w 108, 3) := by decide +kernel
theorem dX11_clockNow_29 : decode cX11_clockNow 29 = .ok (.invokestatic 110, 3) := by decide +kernel
theorem dX11_clockNow_32 : decode cX11_clockNow 32 = .ok (.ladd, 1) := by decide +kernel
theorem dX11_clockNow_33 : decode cX11_clockNow 33 = .ok (.lreturn, 1) := by decide +kernel
theorem dX11_sendsOne_0 : decode cX11_sendsOne 0 = .ok (.aload_n 0, 1) := by decide +kernel
theorem dX11_sendsOne_1 : decode cX11_sendsOne 1 = .ok (.invokevirtual 95, 3) := by decide +kernel
theorem dX11_sendsOne_4 : decode cX11_sendsOne 4 = .ok (.istore_n 1, 1) := by decide +kernel
theorem dX11_sendsOne_5 : decode cX11_sendsOne 5 = .ok (.aload_n 0, 1) := by decide +kernel
theorem dX11_sendsOne_6 : decode cX11_sendsOne 6 = .ok (.getfield 7, 3) := by decide +kernel
theorem dX11_sendsOne_9 : decode cX11_sendsOne 9 = .ok (.iconst 0, 1) := by decide +kernel
theorem dX11_sendsOne_10 : decode cX11_sendsOne 10 = .ok (.iaload, 1) := by decide +kernel
theorem dX11_sendsOne_11 : decode cX11_sendsOne 11 = .ok (.istore_n 2, 1) := by decide +kernel
theorem dX11_sendsOne_12 : decode cX11_sendsOne 12 = .ok (.aload_n 0, 1) := by decide +kernel
theorem dX11_sendsOne_13 : decode cX11_sendsOne 13 = .ok (.getfield 7, 3) := by decide +kernel
theorem dX11_sendsOne_16 : decode cX11_sendsOne 16 = .ok (.sipush 382, 3) := by decide +kernel
theorem dX11_sendsOne_19 : decode cX11_sendsOne 19 = .ok (.iaload, 1) := by decide +kernel
theorem dX11_sendsOne_20 : decode cX11_sendsOne 20 = .ok (.istore_n 3, 1) := by decide +kernel
theorem dX11_sendsOne_21 : decode cX11_sendsOne 21 = .ok (.aload_n 0, 1) := by decide +kernel
theorem dX11_sendsOne_22 : decode cX11_sendsOne 22 = .ok (.iload_n 3, 1) := by decide +kernel
theorem dX11_sendsOne_23 : decode cX11_sendsOne 23 = .ok (.invokevirtual 100, 3) := by decide +kernel
theorem dX11_sendsOne_26 : decode cX11_sendsOne 26 = .ok (.istore 4, 2) := by decide +kernel
theorem dX11_sendsOne_28 : decode cX11_sendsOne 28 = .ok (.iconst 5, 1) := by decide +kernel
theorem dX11_sendsOne_29 : decode cX11_sendsOne 29 = .ok (.iload_n 1, 1) := by decide +kernel
theorem dX11_sendsOne_30 : decode cX11_sendsOne 30 = .ok (.iconst (-1), 1) := by decide +kernel
theorem dX11_sendsOne_31 : decode cX11_sendsOne 31 = .ok (.if_icmp .ne 7, 3) := by decide +kernel
theorem dX11_sendsOne_34 : decode cX11_sendsOne 34 = .ok (.iconst 4, 1) := by decide +kernel
theorem dX11_sendsOne_35 : decode cX11_sendsOne 35 = .ok (.goto 4, 3) := by decide +kernel
theorem dX11_sendsOne_38 : decode cX11_sendsOne 38 = .ok (.iload_n 1, 1) := by decide +kernel
theorem dX11_sendsOne_39 : decode cX11_sendsOne 39 = .ok (.iadd, 1) := by decide +kernel
theorem dX11_sendsOne_40 : decode cX11_sendsOne 40 = .ok (.istore 5, 2) := by decide +kernel
theorem dX11_sendsOne_42 : decode cX11_sendsOne 42 = .ok (.iconst 0, 1) := by decide +kernel
theorem dX11_sendsOne_43 : decode cX11_sendsOne 43 = .ok (.istore 6, 2) := by decide +kernel
theorem dX11_sendsOne_45 : decode cX11_sendsOne 45 = .ok (.iload 6, 2) := by decide +kernel
theorem dX11_sendsOne_47 : decode cX11_sendsOne 47 = .ok (.iconst 4, 1) := by decide +kernel
theorem dX11_sendsOne_48 : decode cX11_sendsOne 48 = .ok (.if_icmp .ge 50, 3) := by decide +kernel
theorem dX11_sendsOne_51 : decode cX11_sendsOne 51 = .ok (.aload_n 0, 1) := by decide +kernel
theorem dX11_sendsOne_52 : decode cX11_sendsOne 52 = .ok (.getfield 7, 3) := by decide +kernel
theorem dX11_sendsOne_55 : decode cX11_sendsOne 55 = .ok (.bipush 37, 2) := by decide +kernel
theorem dX11_sendsOne_57 : decode cX11_sendsOne 57 = .ok (.iload 6, 2) := by decide +kernel
theorem dX11_sendsOne_59 : decode cX11_sendsOne 59 = .ok (.iadd, 1) := by decide +kernel
theorem dX11_sendsOne_60 : decode cX11_sendsOne 60 = .ok (.iload 6, 2) := by decide +kernel
theorem dX11_sendsOne_62 : decode cX11_sendsOne 62 = .ok (.iload_n 1, 1) := by decide +kernel
theorem dX11_sendsOne_63 : decode cX11_sendsOne 63 = .ok (.if_icmp .eq 27, 3) := by decide +kernel
theorem dX11_sendsOne_66 : decode cX11_sendsOne 66 = .ok (.aload_n 0, 1) := by decide +kernel
theorem dX11_sendsOne_67 : decode cX11_sendsOne 67 = .ok (.iload 6, 2) := by decide +kernel
theorem dX11_sendsOne_69 : decode cX11_sendsOne 69 = .ok (.invokevirtual 41, 3) := by decide +kernel
theorem dX11_sendsOne_72 : decode cX11_sendsOne 72 = .ok (.ifCond .le 18, 3) := by decide +kernel
theorem dX11_sendsOne_75 : decode cX11_sendsOne 75 = .ok (.aload_n 0, 1) := by decide +kernel
theorem dX11_sendsOne_76 : decode cX11_sendsOne 76 = .ok (.getfield 7, 3) := by decide +kernel
theorem dX11_sendsOne_79 : decode cX11_sendsOne 79 = .ok (.bipush 37, 2) := by decide +kernel
theorem dX11_sendsOne_81 : decode cX11_sendsOne 81 = .ok (.iload 6, 2) := by decide +kernel
theorem dX11_sendsOne_83 : decode cX11_sendsOne 83 = .ok (.iadd, 1) := by decide +kernel
theorem dX11_sendsOne_84 : decode cX11_sendsOne 84 = .ok (.iaload, 1) := by decide +kernel
theorem dX11_sendsOne_85 : decode cX11_sendsOne 85 = .ok (.iconst 1, 1) := by decide +kernel
theorem dX11_sendsOne_86 : decode cX11_sendsOne 86 = .ok (.iadd, 1) := by decide +kernel
theorem dX11_sendsOne_87 : decode cX11_sendsOne 87 = .ok (.goto 4, 3) := by decide +kernel
theorem dX11_sendsOne_90 : decode cX11_sendsOne 90 = .ok (.iconst 0, 1) := by decide +kernel
theorem dX11_sendsOne_91 : decode cX11_sendsOne 91 = .ok (.iastore, 1) := by decide +kernel
theorem dX11_sendsOne_92 : decode cX11_sendsOne 92 = .ok (.iinc 6 1, 3) := by decide +kernel
theorem dX11_sendsOne_95 : decode cX11_sendsOne 95 = .ok (.goto (-50), 3) := by decide +kernel
theorem dX11_sendsOne_98 : decode cX11_sendsOne 98 = .ok (.aload_n 0, 1) := by decide +kernel
theorem dX11_sendsOne_99 : decode cX11_sendsOne 99 = .ok (.getfield 7, 3) := by decide +kernel
theorem dX11_sendsOne_102 : decode cX11_sendsOne 102 = .ok (.iload 4, 2) := by decide +kernel
theorem dX11_sendsOne_104 : decode cX11_sendsOne 104 = .ok (.iload_n 2, 1) := by decide +kernel
theorem dX11_sendsOne_105 : decode cX11_sendsOne 105 = .ok (.iastore, 1) := by decide +kernel
theorem dX11_sendsOne_106 : decode cX11_sendsOne 106 = .ok (.aload_n 0, 1) := by decide +kernel
theorem dX11_sendsOne_107 : decode cX11_sendsOne 107 = .ok (.getfield 7, 3) := by decide +kernel
theorem dX11_sendsOne_110 : decode cX11_sendsOne 110 = .ok (.iload 4, 2) := by decide +kernel
theorem dX11_sendsOne_112 : decode cX11_sendsOne 112 = .ok (.iconst 1, 1) := by decide +kernel
theorem dX11_sendsOne_113 : decode cX11_sendsOne 113 = .ok (.iadd, 1) := by decide +kernel
theorem dX11_sendsOne_114 : decode cX11_sendsOne 114 = .ok (.iconst 0, 1) := by decide +kernel
theorem dX11_sendsOne_115 : decode cX11_sendsOne 115 = .ok (.iastore, 1) := by decide +kernel
theorem dX11_sendsOne_116 : decode cX11_sendsOne 116 = .ok (.aload_n 0, 1) := by decide +kernel
theorem dX11_sendsOne_117 : decode cX11_sendsOne 117 = .ok (.getfield 7, 3) := by decide +kernel
theorem dX11_sendsOne_120 : decode cX11_sendsOne 120 = .ok (.iload 4, 2) := by decide +kernel
theorem dX11_sendsOne_122 : decode cX11_sendsOne 122 = .ok (.iconst 2, 1) := by decide +kernel
theorem dX11_sendsOne_123 : decode cX11_sendsOne 123 = .ok (.iadd, 1) := by decide +kernel
theorem dX11_sendsOne_124 : decode cX11_sendsOne 124 = .ok (.aload_n 0, 1) := by decide +kernel
theorem dX11_sendsOne_125 : decode cX11_sendsOne 125 = .ok (.invokevirtual 114, 3) := by decide +kernel
theorem dX11_sendsOne_128 : decode cX11_sendsOne 128 = .ok (.l2i, 1) := by decide +kernel
theorem dX11_sendsOne_129 : decode cX11_sendsOne 129 = .ok (.iastore, 1) := by decide +kernel
theorem dX11_sendsOne_130 : decode cX11_sendsOne 130 = .ok (.aload_n 0, 1) := by decide +kernel
theorem dX11_sendsOne_131 : decode cX11_sendsOne 131 = .ok (.getfield 7, 3) := by decide +kernel
theorem dX11_sendsOne_134 : decode cX11_sendsOne 134 = .ok (.iload 4, 2) := by decide +kernel
theorem dX11_sendsOne_136 : decode cX11_sendsOne 136 = .ok (.iconst 3, 1) := by decide +kernel
theorem dX11_sendsOne_137 : decode cX11_sendsOne 137 = .ok (.iadd, 1) := by decide +kernel
theorem dX11_sendsOne_138 : decode cX11_sendsOne 138 = .ok (.sipush 1000, 3) := by decide +kernel
theorem dX11_sendsOne_141 : decode cX11_sendsOne 141 = .ok (.aload_n 0, 1) := by decide +kernel
theorem dX11_sendsOne_142 : decode cX11_sendsOne 142 = .ok (.getfield 7, 3) := by decide +kernel
theorem dX11_sendsOne_145 : decode cX11_sendsOne 145 = .ok (.iconst 3, 1) := by decide +kernel
theorem dX11_sendsOne_146 : decode cX11_sendsOne 146 = .ok (.iaload, 1) := by decide +kernel
theorem dX11_sendsOne_147 : decode cX11_sendsOne 147 = .ok (.imul, 1) := by decide +kernel
theorem dX11_sendsOne_148 : decode cX11_sendsOne 148 = .ok (.aload_n 0, 1) := by decide +kernel
theorem dX11_sendsOne_149 : decode cX11_sendsOne 149 = .ok (.getfield 7, 3) := by decide +kernel
theorem dX11_sendsOne_152 : decode cX11_sendsOne 152 = .ok (.iconst 2, 1) := by decide +kernel
theorem dX11_sendsOne_153 : decode cX11_sendsOne 153 = .ok (.iaload, 1) := by decide +kernel
theorem dX11_sendsOne_154 : decode cX11_sendsOne 154 = .ok (.iadd, 1) := by decide +kernel
theorem dX11_sendsOne_155 : decode cX11_sendsOne 155 = .ok (.iastore, 1) := by decide +kernel
theorem dX11_sendsOne_156 : decode cX11_sendsOne 156 = .ok (.aload_n 0, 1) := by decide +kernel
theorem dX11_sendsOne_157 : decode cX11_sendsOne 157 = .ok (.getfield 7, 3) := by decide +kernel
theorem dX11_sendsOne_160 : decode cX11_sendsOne 160 = .ok (.iload 4, 2) := by decide +kernel
theorem dX11_sendsOne_162 : decode cX11_sendsOne 162 = .ok (.iconst 4, 1) := by decide +kernel
theorem dX11_sendsOne_163 : decode cX11_sendsOne 163 = .ok (.iadd, 1) := by decide +kernel
theorem dX11_sendsOne_164 : decode cX11_sendsOne 164 = .ok (.aload_n 0, 1) := by decide +kernel
theorem dX11_sendsOne_165 : decode cX11_sendsOne 165 = .ok (.getfield 7, 3) := by decide +kernel
theorem dX11_sendsOne_168 : decode cX11_sendsOne 168 = .ok (.iconst 4, 1) := by decide +kernel
theorem dX11_sendsOne_169 : decode cX11_sendsOne 169 = .ok (.iaload, 1) := by decide +kernel
theorem dX11_sendsOne_170 : decode cX11_sendsOne 170 = .ok (.iastore, 1) := by decide +kernel
theorem dX11_sendsOne_171 : decode cX11_sendsOne 171 = .ok (.aload_n 0, 1) := by decide +kernel
theorem dX11_sendsOne_172 : decode cX11_sendsOne 172 = .ok (.getfield 7, 3) := by decide +kernel
theorem dX11_sendsOne_175 : decode cX11_sendsOne 175 = .ok (.iload 4, 2) := by decide +kernel
theorem dX11_sendsOne_177 : decode cX11_sendsOne 177 = .ok (.iconst 4, 1) := by decide +kernel
theorem dX11_sendsOne_178 : decode cX11_sendsOne 178 = .ok (.iadd, 1) := by decide +kernel
theorem dX11_sendsOne_179 : decode cX11_sendsOne 179 = .ok (.iconst 1, 1) := by decide +kernel
theorem dX11_sendsOne_180 : decode cX11_sendsOne 180 = .ok (.iadd, 1) := by decide +kernel
theorem dX11_sendsOne_181 : decode cX11_sendsOne 181 = .ok (.iload_n 1, 1) := by decide +kernel
theorem dX11_sendsOne_182 : decode cX11_sendsOne 182 = .ok (.iconst (-1), 1) := by decide +kernel
theorem dX11_sendsOne_183 : decode cX11_sendsOne 183 = .ok (.if_icmp .ne 8, 3) := by decide +kernel
theorem dX11_sendsOne_186 : decode cX11_sendsOne 186 = .ok (.bipush 7, 2) := by decide +kernel
theorem dX11_sendsOne_188 : decode cX11_sendsOne 188 = .ok (.goto 4, 3) := by decide +kernel
theorem dX11_sendsOne_191 : decode cX11_sendsOne 191 = .ok (.iload_n 1, 1) := by decide +kernel
theorem dX11_sendsOne_192 : decode cX11_sendsOne 192 = .ok (.iastore, 1) := by decide +kernel
theorem dX11_sendsOne_193 : decode cX11_sendsOne 193 = .ok (.aload_n 0, 1) := by decide +kernel
theorem dX11_sendsOne_194 : decode cX11_sendsOne 194 = .ok (.getfield 7, 3) := by decide +kernel
theorem dX11_sendsOne_197 : decode cX11_sendsOne 197 = .ok (.iload 4, 2) := by decide +kernel
theorem dX11_sendsOne_199 : decode cX11_sendsOne 199 = .ok (.iconst 4, 1) := by decide +kernel
theorem dX11_sendsOne_200 : decode cX11_sendsOne 200 = .ok (.iadd, 1) := by decide +kernel
theorem dX11_sendsOne_201 : decode cX11_sendsOne 201 = .ok (.iconst 2, 1) := by decide +kernel
theorem dX11_sendsOne_202 : decode cX11_sendsOne 202 = .ok (.iadd, 1) := by decide +kernel
theorem dX11_sendsOne_203 : decode cX11_sendsOne 203 = .ok (.aload_n 0, 1) := by decide +kernel
theorem dX11_sendsOne_204 : decode cX11_sendsOne 204 = .ok (.getfield 7, 3) := by decide +kernel
theorem dX11_sendsOne_207 : decode cX11_sendsOne 207 = .ok (.iload 5, 2) := by decide +kernel
theorem dX11_sendsOne_209 : decode cX11_sendsOne 209 = .ok (.iaload, 1) := by decide +kernel
theorem dX11_sendsOne_210 : decode cX11_sendsOne 210 = .ok (.iastore, 1) := by decide +kernel
theorem dX11_sendsOne_211 : decode cX11_sendsOne 211 = .ok (.aload_n 0, 1) := by decide +kernel
theorem dX11_sendsOne_212 : decode cX11_sendsOne 212 = .ok (.getfield 7, 3) := by decide +kernel
theorem dX11_sendsOne_215 : decode cX11_sendsOne 215 = .ok (.iload 4, 2) := by decide +kernel
theorem dX11_sendsOne_217 : decode cX11_sendsOne 217 = .ok (.iconst 4, 1) := by decide +kernel
theorem dX11_sendsOne_218 : decode cX11_sendsOne 218 = .ok (.iadd, 1) := by decide +kernel
theorem dX11_sendsOne_219 : decode cX11_sendsOne 219 = .ok (.iconst 3, 1) := by decide +kernel
theorem dX11_sendsOne_220 : decode cX11_sendsOne 220 = .ok (.iadd, 1) := by decide +kernel
theorem dX11_sendsOne_221 : decode cX11_sendsOne 221 = .ok (.iload_n 1, 1) := by decide +kernel
theorem dX11_sendsOne_222 : decode cX11_sendsOne 222 = .ok (.iconst (-1), 1) := by decide +kernel
theorem dX11_sendsOne_223 : decode cX11_sendsOne 223 = .ok (.if_icmp .ne 9, 3) := by decide +kernel
theorem dX11_sendsOne_226 : decode cX11_sendsOne 226 = .ok (.sipush 254, 3) := by decide +kernel
theorem dX11_sendsOne_229 : decode cX11_sendsOne 229 = .ok (.goto 6, 3) := by decide +kernel
theorem dX11_sendsOne_232 : decode cX11_sendsOne 232 = .ok (.sipush 255, 3) := by decide +kernel
theorem dX11_sendsOne_235 : decode cX11_sendsOne 235 = .ok (.iastore, 1) := by decide +kernel
theorem dX11_sendsOne_236 : decode cX11_sendsOne 236 = .ok (.iload_n 1, 1) := by decide +kernel
theorem dX11_sendsOne_237 : decode cX11_sendsOne 237 = .ok (.iconst (-1), 1) := by decide +kernel
theorem dX11_sendsOne_238 : decode cX11_sendsOne 238 = .ok (.if_icmp .eq 44, 3) := by decide +kernel
theorem dX11_sendsOne_241 : decode cX11_sendsOne 241 = .ok (.aload_n 0, 1) := by decide +kernel
theorem dX11_sendsOne_242 : decode cX11_sendsOne 242 = .ok (.iload_n 1, 1) := by decide +kernel
theorem dX11_sendsOne_243 : decode cX11_sendsOne 243 = .ok (.invokevirtual 41, 3) := by decide +kernel
theorem dX11_sendsOne_246 : decode cX11_sendsOne 246 = .ok (.iload_n 2, 1) := by decide +kernel
theorem dX11_sendsOne_247 : decode cX11_sendsOne 247 = .ok (.if_icmp .ge 35, 3) := by decide +kernel
theorem dX11_sendsOne_250 : decode cX11_sendsOne 250 = .ok (.iload_n 2, 1) := by decide +kernel
theorem dX11_sendsOne_251 : decode cX11_sendsOne 251 = .ok (.aload_n 0, 1) := by decide +kernel
theorem dX11_sendsOne_252 : decode cX11_sendsOne 252 = .ok (.iload_n 1, 1) := by decide +kernel
theorem dX11_sendsOne_253 : decode cX11_sendsOne 253 = .ok (.invokevirtual 41, 3) := by decide +kernel
theorem dX11_sendsOne_256 : decode cX11_sendsOne 256 = .ok (.isub, 1) := by decide +kernel
theorem dX11_sendsOne_257 : decode cX11_sendsOne 257 = .ok (.istore 6, 2) := by decide +kernel
theorem dX11_sendsOne_259 : decode cX11_sendsOne 259 = .ok (.aload_n 0, 1) := by decide +kernel
theorem dX11_sendsOne_260 : decode cX11_sendsOne 260 = .ok (.iload_n 1, 1) := by decide +kernel
theorem dX11_sendsOne_261 : decode cX11_sendsOne 261 = .ok (.bipush 15, 2) := by decide +kernel
theorem dX11_sendsOne_263 : decode cX11_sendsOne 263 = .ok (.iconst 0, 1) := by decide +kernel
theorem dX11_sendsOne_264 : decode cX11_sendsOne 264 = .ok (.iload 6, 2) := by decide +kernel
theorem dX11_sendsOne_266 : decode cX11_sendsOne 266 = .ok (.iconst 4, 1) := by decide +kernel
theorem dX11_sendsOne_267 : decode cX11_sendsOne 267 = .ok (.if_icmp .ge 7, 3) := by decide +kernel
theorem dX11_sendsOne_270 : decode cX11_sendsOne 270 = .ok (.iconst 1, 1) := by decide +kernel
theorem dX11_sendsOne_271 : decode cX11_sendsOne 271 = .ok (.goto 7, 3) := by decide +kernel
theorem dX11_sendsOne_274 : decode cX11_sendsOne 274 = .ok (.iload 6, 2) := by decide +kernel
theorem dX11_sendsOne_276 : decode cX11_sendsOne 276 = .ok (.iconst 3, 1) := by decide +kernel
theorem dX11_sendsOne_277 : decode cX11_sendsOne 277 = .ok (.isub, 1) := by decide +kernel
theorem dX11_sendsOne_278 : decode cX11_sendsOne 278 = .ok (.iconst 0, 1) := by decide +kernel
theorem dX11_sendsOne_279 : decode cX11_sendsOne 279 = .ok (.invokevirtual 72, 3) := by decide +kernel
theorem dX11_sendsOne_282 : decode cX11_sendsOne 282 = .ok (.iconst 0, 1) := by decide +kernel
theorem dX11_sendsOne_283 : decode cX11_sendsOne 283 = .ok (.istore 6, 2) := by decide +kernel
theorem dX11_sendsOne_285 : decode cX11_sendsOne 285 = .ok (.iload 6, 2) := by decide +kernel
theorem dX11_sendsOne_287 : decode cX11_sendsOne 287 = .ok (.iload_n 2, 1) := by decide +kernel
theorem dX11_sendsOne_288 : decode cX11_sendsOne 288 = .ok (.if_icmp .ge 85, 3) := by decide +kernel
theorem dX11_sendsOne_291 : decode cX11_sendsOne 291 = .ok (.iload_n 1, 1) := by decide +kernel
theorem dX11_sendsOne_292 : decode cX11_sendsOne 292 = .ok (.iconst (-1), 1) := by decide +kernel
theorem dX11_sendsOne_293 : decode cX11_sendsOne 293 = .ok (.if_icmp .eq 45, 3) := by decide +kernel
theorem dX11_sendsOne_296 : decode cX11_sendsOne 296 = .ok (.aload_n 0, 1) := by decide +kernel
theorem dX11_sendsOne_297 : decode cX11_sendsOne 297 = .ok (.getfield 7, 3) := by decide +kernel
theorem dX11_sendsOne_300 : decode cX11_sendsOne 300 = .ok (.bipush 58, 2) := by decide +kernel
theorem dX11_sendsOne_302 : decode cX11_sendsOne 302 = .ok (.iload_n 1, 1) := by decide +kernel
theorem dX11_sendsOne_303 : decode cX11_sendsOne 303 = .ok (.iadd, 1) := by decide +kernel
theorem dX11_sendsOne_304 : decode cX11_sendsOne 304 = .ok (.iaload, 1) := by decide +kernel
theorem dX11_sendsOne_305 : decode cX11_sendsOne 305 = .ok (.ifCond .ne 33, 3) := by decide +kernel
theorem dX11_sendsOne_308 : decode cX11_sendsOne 308 = .ok (.aload_n 0, 1) := by decide +kernel
theorem dX11_sendsOne_309 : decode cX11_sendsOne 309 = .ok (.getfield 7, 3) := by decide +kernel
theorem dX11_sendsOne_312 : decode cX11_sendsOne 312 = .ok (.iload 4, 2) := by decide +kernel
theorem dX11_sendsOne_314 : decode cX11_sendsOne 314 = .ok (.iconst 4, 1) := by decide +kernel
theorem dX11_sendsOne_315 : decode cX11_sendsOne 315 = .ok (.iadd, 1) := by decide +kernel
theorem dX11_sendsOne_316 : decode cX11_sendsOne 316 = .ok (.iconst 3, 1) := by decide +kernel
theorem dX11_sendsOne_317 : decode cX11_sendsOne 317 = .ok (.iadd, 1) := by decide +kernel
theorem dX11_sendsOne_318 : decode cX11_sendsOne 318 = .ok (.iaload, 1) := by decide +kernel
theorem dX11_sendsOne_319 : decode cX11_sendsOne 319 = .ok (.sipush 255, 3) := by decide +kernel
theorem dX11_sendsOne_322 : decode cX11_sendsOne 322 = .ok (.if_icmp .ne 16, 3) := by decide +kernel
theorem dX11_sendsOne_325 : decode cX11_sendsOne 325 = .ok (.aload_n 0, 1) := by decide +kernel
theorem dX11_sendsOne_326 : decode cX11_sendsOne 326 = .ok (.getfield 7, 3) := by decide +kernel
theorem dX11_sendsOne_329 : decode cX11_sendsOne 329 = .ok (.iload 4, 2) := by decide +kernel
theorem dX11_sendsOne_331 : decode cX11_sendsOne 331 = .ok (.iconst 4, 1) := by decide +kernel
theorem dX11_sendsOne_332 : decode cX11_sendsOne 332 = .ok (.iadd, 1) := by decide +kernel
theorem dX11_sendsOne_333 : decode cX11_sendsOne 333 = .ok (.iconst 3, 1) := by decide +kernel
theorem dX11_sendsOne_334 : decode cX11_sendsOne 334 = .ok (.iadd, 1) := by decide +kernel
theorem dX11_sendsOne_335 : decode cX11_sendsOne 335 = .ok (.iload 6, 2) := by decide +kernel
theorem dX11_sendsOne_337 : decode cX11_sendsOne 337 = .ok (.iastore, 1) := by decide +kernel
theorem dX11_sendsOne_338 : decode cX11_sendsOne 338 = .ok (.aload_n 0, 1) := by decide +kernel
theorem dX11_sendsOne_339 : decode cX11_sendsOne 339 = .ok (.getfield 7, 3) := by decide +kernel
theorem dX11_sendsOne_342 : decode cX11_sendsOne 342 = .ok (.iload 4, 2) := by decide +kernel
theorem dX11_sendsOne_344 : decode cX11_sendsOne 344 = .ok (.iconst 4, 1) := by decide +kernel
theorem dX11_sendsOne_345 : decode cX11_sendsOne 345 = .ok (.iadd, 1) := by decide +kernel
theorem dX11_sendsOne_346 : decode cX11_sendsOne 346 = .ok (.iconst 4, 1) := by decide +kernel
theorem dX11_sendsOne_347 : decode cX11_sendsOne 347 = .ok (.iadd, 1) := by decide +kernel
theorem dX11_sendsOne_348 : decode cX11_sendsOne 348 = .ok (.iload 6, 2) := by decide +kernel
theorem dX11_sendsOne_350 : decode cX11_sendsOne 350 = .ok (.iadd, 1) := by decide +kernel
theorem dX11_sendsOne_351 : decode cX11_sendsOne 351 = .ok (.iload_n 1, 1) := by decide +kernel
theorem dX11_sendsOne_352 : decode cX11_sendsOne 352 = .ok (.iconst (-1), 1) := by decide +kernel
theorem dX11_sendsOne_353 : decode cX11_sendsOne 353 = .ok (.if_icmp .ne 8, 3) := by decide +kernel
theorem dX11_sendsOne_356 : decode cX11_sendsOne 356 = .ok (.bipush 85, 2) := by decide +kernel
theorem dX11_sendsOne_358 : decode cX11_sendsOne 358 = .ok (.goto 8, 3) := by decide +kernel
theorem dX11_sendsOne_361 : decode cX11_sendsOne 361 = .ok (.aload_n 0, 1) := by decide +kernel
theorem dX11_sendsOne_362 : decode cX11_sendsOne 362 = .ok (.iload_n 1, 1) := by decide +kernel
theorem dX11_sendsOne_363 : decode cX11_sendsOne 363 = .ok (.invokevirtual 118, 3) := by decide +kernel
theorem dX11_sendsOne_366 : decode cX11_sendsOne 366 = .ok (.iastore, 1) := by decide +kernel
theorem dX11_sendsOne_367 : decode cX11_sendsOne 367 = .ok (.iinc 6 1, 3) := by decide +kernel
theorem dX11_sendsOne_370 : decode cX11_sendsOne 370 = .ok (.goto (-85), 3) := by decide +kernel
theorem dX11_sendsOne_373 : decode cX11_sendsOne 373 = .ok (.aload_n 0, 1) := by decide +kernel
theorem dX11_sendsOne_374 : decode cX11_sendsOne 374 = .ok (.iload_n 3, 1) := by decide +kernel
theorem dX11_sendsOne_375 : decode cX11_sendsOne 375 = .ok (.invokevirtual 121, 3) := by decide +kernel
theorem dX11_sendsOne_378 : decode cX11_sendsOne 378 = .ok (.aload_n 0, 1) := by decide +kernel
theorem dX11_sendsOne_379 : decode cX11_sendsOne 379 = .ok (.getfield 7, 3) := by decide +kernel
theorem dX11_sendsOne_382 : decode cX11_sendsOne 382 = .ok (.sipush 382, 3) := by decide +kernel
theorem dX11_sendsOne_385 : decode cX11_sendsOne 385 = .ok (.dup2, 1) := by decide +kernel
theorem dX11_sendsOne_386 : decode cX11_sendsOne 386 = .ok (.iaload, 1) := by decide +kernel
theorem dX11_sendsOne_387 : decode cX11_sendsOne 387 = .ok (.iconst 1, 1) := by decide +kernel
theorem dX11_sendsOne_388 : decode cX11_sendsOne 388 = .ok (.iadd, 1) := by decide +kernel
theorem dX11_sendsOne_389 : decode cX11_sendsOne 389 = .ok (.iastore, 1) := by decide +kernel
theorem dX11_sendsOne_390 : decode cX11_sendsOne 390 = .ok (.aload_n 0, 1) := by decide +kernel
theorem dX11_sendsOne_391 : decode cX11_sendsOne 391 = .ok (.getfield 7, 3) := by decide +kernel
theorem dX11_sendsOne_394 : decode cX11_sendsOne 394 = .ok (.iconst 4, 1) := by decide +kernel
theorem dX11_sendsOne_395 : decode cX11_sendsOne 395 = .ok (.aload_n 0, 1) := by decide +kernel
theorem dX11_sendsOne_396 : decode cX11_sendsOne 396 = .ok (.getfield 7, 3) := by decide +kernel
theorem dX11_sendsOne_399 : decode cX11_sendsOne 399 = .ok (.iconst 4, 1) := by decide +kernel
theorem dX11_sendsOne_400 : decode cX11_sendsOne 400 = .ok (.iaload, 1) := by decide +kernel
theorem dX11_sendsOne_401 : decode cX11_sendsOne 401 = .ok (.iconst 1, 1) := by decide +kernel
theorem dX11_sendsOne_402 : decode cX11_sendsOne 402 = .ok (.iadd, 1) := by decide +kernel
theorem dX11_sendsOne_403 : decode cX11_sendsOne 403 = .ok (.sipush 256, 3) := by decide +kernel
theorem dX11_sendsOne_406 : decode cX11_sendsOne 406 = .ok (.irem, 1) := by decide +kernel
theorem dX11_sendsOne_407 : decode cX11_sendsOne 407 = .ok (.iastore, 1) := by decide +kernel
theorem dX11_sendsOne_408 : decode cX11_sendsOne 408 = .ok (.aload_n 0, 1) := by decide +kernel
theorem dX11_sendsOne_409 : decode cX11_sendsOne 409 = .ok (.getfield 7, 3) := by decide +kernel
theorem dX11_sendsOne_412 : decode cX11_sendsOne 412 = .ok (.bipush 41, 2) := by decide +kernel
theorem dX11_sendsOne_414 : decode cX11_sendsOne 414 = .ok (.iload 5, 2) := by decide +kernel
theorem dX11_sendsOne_416 : decode cX11_sendsOne 416 = .ok (.iadd, 1) := by decide +kernel
theorem dX11_sendsOne_417 : decode cX11_sendsOne 417 = .ok (.iconst 5, 1) := by decide +kernel
theorem dX11_sendsOne_418 : decode cX11_sendsOne 418 = .ok (.isub, 1) := by decide +kernel
theorem dX11_sendsOne_419 : decode cX11_sendsOne 419 = .ok (.dup2, 1) := by decide +kernel
theorem dX11_sendsOne_420 : decode cX11_sendsOne 420 = .ok (.iaload, 1) := by decide +kernel
theorem dX11_sendsOne_421 : decode cX11_sendsOne 421 = .ok (.iconst 1, 1) := by decide +kernel
theorem dX11_sendsOne_422 : decode cX11_sendsOne 422 = .ok (.iadd, 1) := by decide +kernel
theorem dX11_sendsOne_423 : decode cX11_sendsOne 423 = .ok (.iastore, 1) := by decide +kernel
theorem dX11_sendsOne_424 : decode cX11_sendsOne 424 = .ok (.aload_n 0, 1) := by decide +kernel
theorem dX11_sendsOne_425 : decode cX11_sendsOne 425 = .ok (.getfield 7, 3) := by decide +kernel
theorem dX11_sendsOne_428 : decode cX11_sendsOne 428 = .ok (.iload 5, 2) := by decide +kernel
theorem dX11_sendsOne_430 : decode cX11_sendsOne 430 = .ok (.aload_n 0, 1) := by decide +kernel
theorem dX11_sendsOne_431 : decode cX11_sendsOne 431 = .ok (.getfield 7, 3) := by decide +kernel
theorem dX11_sendsOne_434 : decode cX11_sendsOne 434 = .ok (.iload 5, 2) := by decide +kernel
theorem dX11_sendsOne_436 : decode cX11_sendsOne 436 = .ok (.iaload, 1) := by decide +kernel
theorem dX11_sendsOne_437 : decode cX11_sendsOne 437 = .ok (.iconst 1, 1) := by decide +kernel
theorem dX11_sendsOne_438 : decode cX11_sendsOne 438 = .ok (.iadd, 1) := by decide +kernel
theorem dX11_sendsOne_439 : decode cX11_sendsOne 439 = .ok (.sipush 256, 3) := by decide +kernel
theorem dX11_sendsOne_442 : decode cX11_sendsOne 442 = .ok (.irem, 1) := by decide +kernel
theorem dX11_sendsOne_443 : decode cX11_sendsOne 443 = .ok (.iastore, 1) := by decide +kernel
theorem dX11_sendsOne_444 : decode cX11_sendsOne 444 = .ok (.aload_n 0, 1) := by decide +kernel
theorem dX11_sendsOne_445 : decode cX11_sendsOne 445 = .ok (.getfield 7, 3) := by decide +kernel
theorem dX11_sendsOne_448 : decode cX11_sendsOne 448 = .ok (.iconst 3, 1) := by decide +kernel
theorem dX11_sendsOne_449 : decode cX11_sendsOne 449 = .ok (.dup2, 1) := by decide +kernel
theorem dX11_sendsOne_450 : decode cX11_sendsOne 450 = .ok (.iaload, 1) := by decide +kernel
theorem dX11_sendsOne_451 : decode cX11_sendsOne 451 = .ok (.iconst 1, 1) := by decide +kernel
theorem dX11_sendsOne_452 : decode cX11_sendsOne 452 = .ok (.iadd, 1) := by decide +kernel
theorem dX11_sendsOne_453 : decode cX11_sendsOne 453 = .ok (.iastore, 1) := by decide +kernel
theorem dX11_sendsOne_454 : decode cX11_sendsOne 454 = .ok (.iload_n 1, 1) := by decide +kernel
theorem dX11_sendsOne_455 : decode cX11_sendsOne 455 = .ok (.iconst (-1), 1) := by decide +kernel
theorem dX11_sendsOne_456 : decode cX11_sendsOne 456 = .ok (.if_icmp .eq 7, 3) := by decide +kernel
theorem dX11_sendsOne_459 : decode cX11_sendsOne 459 = .ok (.iconst 1, 1) := by decide +kernel
theorem dX11_sendsOne_460 : decode cX11_sendsOne 460 = .ok (.goto 4, 3) := by decide +kernel
theorem dX11_sendsOne_463 : decode cX11_sendsOne 463 = .ok (.iconst 0, 1) := by decide +kernel
theorem dX11_sendsOne_464 : decode cX11_sendsOne 464 = .ok (.ireturn, 1) := by decide +kernel
theorem dX11_send_0 : decode cX11_send 0 = .ok (.aload_n 0, 1) := by decide +kernel
theorem dX11_send_1 : decode cX11_send 1 = .ok (.iload_n 1, 1) := by decide +kernel
theorem dX11_send_2 : decode cX11_send 2 = .ok (.i2l, 1) := by decide +kernel
theorem dX11_send_3 : decode cX11_send 3 = .ok (.lconst 1, 1) := by decide +kernel
theorem dX11_send_4 : decode cX11_send 4 = .ok (.ldc2_w 125, 3) := by decide +kernel
theorem dX11_send_7 : decode cX11_send 7 = .ok (.invokestatic 23, 3) := by decide +kernel
theorem dX11_send_10 : decode cX11_send 10 = .ok (.ifCond .ne 7, 3) := by decide +kernel
theorem dX11_send_13 : decode cX11_send 13 = .ok (.iconst 1, 1) := by decide +kernel
theorem dX11_send_14 : decode cX11_send 14 = .ok (.goto 23, 3) := by decide +kernel
theorem dX11_send_17 : decode cX11_send 17 = .ok (.aload_n 0, 1) := by decide +kernel
theorem dX11_send_18 : decode cX11_send 18 = .ok (.getfield 7, 3) := by decide +kernel
theorem dX11_send_21 : decode cX11_send 21 = .ok (.sipush 382, 3) := by decide +kernel
theorem dX11_send_24 : decode cX11_send 24 = .ok (.iaload, 1) := by decide +kernel
theorem dX11_send_25 : decode cX11_send 25 = .ok (.iload_n 1, 1) := by decide +kernel
theorem dX11_send_26 : decode cX11_send 26 = .ok (.iadd, 1) := by decide +kernel
theorem dX11_send_27 : decode cX11_send 27 = .ok (.bipush 60, 2) := by decide +kernel
theorem dX11_send_29 : decode cX11_send 29 = .ok (.if_icmp .le 7, 3) := by decide +kernel
theorem dX11_send_32 : decode cX11_send 32 = .ok (.iconst 2, 1) := by decide +kernel
theorem dX11_send_33 : decode cX11_send 33 = .ok (.goto 4, 3) := by decide +kernel
theorem dX11_send_36 : decode cX11_send 36 = .ok (.iconst 0, 1) := by decide +kernel
theorem dX11_send_37 : decode cX11_send 37 = .ok (.invokevirtual 30, 3) := by decide +kernel
theorem dX11_send_40 : decode cX11_send 40 = .ok (.ifCond .eq 5, 3) := by decide +kernel
theorem dX11_send_43 : decode cX11_send 43 = .ok (.iconst 0, 1) := by decide +kernel
theorem dX11_send_44 : decode cX11_send 44 = .ok (.ireturn, 1) := by decide +kernel
theorem dX11_send_45 : decode cX11_send 45 = .ok (.aload_n 0, 1) := by decide +kernel
theorem dX11_send_46 : decode cX11_send 46 = .ok (.invokevirtual 49, 3) := by decide +kernel
theorem dX11_send_49 : decode cX11_send 49 = .ok (.iconst 0, 1) := by decide +kernel
theorem dX11_send_50 : decode cX11_send 50 = .ok (.istore_n 2, 1) := by decide +kernel
theorem dX11_send_51 : decode cX11_send 51 = .ok (.iconst 0, 1) := by decide +kernel
theorem dX11_send_52 : decode cX11_send 52 = .ok (.istore_n 3, 1) := by decide +kernel
theorem dX11_send_53 : decode cX11_send 53 = .ok (.iload_n 3, 1) := by decide +kernel
theorem dX11_send_54 : decode cX11_send 54 = .ok (.iload_n 1, 1) := by decide +kernel
theorem dX11_send_55 : decode cX11_send 55 = .ok (.if_icmp .ge 24, 3) := by decide +kernel
theorem dX11_send_58 : decode cX11_send 58 = .ok (.iload_n 2, 1) := by decide +kernel
theorem dX11_send_59 : decode cX11_send 59 = .ok (.aload_n 0, 1) := by decide +kernel
theorem dX11_send_60 : decode cX11_send 60 = .ok (.invokevirtual 127, 3) := by decide +kernel
theorem dX11_send_63 : decode cX11_send 63 = .ok (.ifCond .eq 7, 3) := by decide +kernel
theorem dX11_send_66 : decode cX11_send 66 = .ok (.iconst 1, 1) := by decide +kernel
theorem dX11_send_67 : decode cX11_send 67 = .ok (.goto 4, 3) := by decide +kernel
theorem dX11_send_70 : decode cX11_send 70 = .ok (.iconst 0, 1) := by decide +kernel
theorem dX11_send_71 : decode cX11_send 71 = .ok (.iadd, 1) := by decide +kernel
theorem dX11_send_72 : decode cX11_send 72 = .ok (.istore_n 2, 1) := by decide +kernel
theorem dX11_send_73 : decode cX11_send 73 = .ok (.iinc 3 1, 3) := by decide +kernel
theorem dX11_send_76 : decode cX11_send 76 = .ok (.goto (-23), 3) := by decide +kernel
theorem dX11_send_79 : decode cX11_send 79 = .ok (.iload_n 2, 1) := by decide +kernel
theorem dX11_send_80 : decode cX11_send 80 = .ok (.ireturn, 1) := by decide +kernel
theorem dX11_slot_0 : decode cX11_slot 0 = .ok (.aload_n 0, 1) := by decide +kernel
theorem dX11_slot_1 : decode cX11_slot 1 = .ok (.iconst 0, 1) := by decide +kernel
theorem dX11_slot_2 : decode cX11_slot 2 = .ok (.putfield 17, 3) := by decide +kernel
theorem dX11_slot_5 : decode cX11_slot 5 = .ok (.aload_n 0, 1) := by decide +kernel
theorem dX11_slot_6 : decode cX11_slot 6 = .ok (.getfield 7, 3) := by decide +kernel
theorem dX11_slot_9 : decode cX11_slot 9 = .ok (.iconst 3, 1) := by decide +kernel
theorem dX11_slot_10 : decode cX11_slot 10 = .ok (.iaload, 1) := by decide +kernel
theorem dX11_slot_11 : decode cX11_slot 11 = .ok (.ireturn, 1) := by decide +kernel
theorem dX11_sentOf_0 : decode cX11_sentOf 0 = .ok (.iload_n 1, 1) := by decide +kernel
theorem dX11_sentOf_1 : decode cX11_sentOf 1 = .ok (.bipush 7, 2) := by decide +kernel
theorem dX11_sentOf_3 : decode cX11_sentOf 3 = .ok (.if_icmp .ne 28, 3) := by decide +kernel
theorem dX11_sentOf_6 : decode cX11_sentOf 6 = .ok (.iload_n 2, 1) := by decide +kernel
theorem dX11_sentOf_7 : decode cX11_sentOf 7 = .ok (.ifCond .ne 13, 3) := by decide +kernel
theorem dX11_sentOf_10 : decode cX11_sentOf 10 = .ok (.aload_n 0, 1) := by decide +kernel
theorem dX11_sentOf_11 : decode cX11_sentOf 11 = .ok (.getfield 7, 3) := by decide +kernel
theorem dX11_sentOf_14 : decode cX11_sentOf 14 = .ok (.bipush 45, 2) := by decide +kernel
theorem dX11_sentOf_16 : decode cX11_sentOf 16 = .ok (.iaload, 1) := by decide +kernel
theorem dX11_sentOf_17 : decode cX11_sentOf 17 = .ok (.goto 13, 3) := by decide +kernel
theorem dX11_sentOf_20 : decode cX11_sentOf 20 = .ok (.iload_n 2, 1) := by decide +kernel
theorem dX11_sentOf_21 : decode cX11_sentOf 21 = .ok (.iconst 1, 1) := by decide +kernel
theorem dX11_sentOf_22 : decode cX11_sentOf 22 = .ok (.if_icmp .ne 7, 3) := by decide +kernel
theorem dX11_sentOf_25 : decode cX11_sentOf 25 = .ok (.iconst 0, 1) := by decide +kernel
theorem dX11_sentOf_26 : decode cX11_sentOf 26 = .ok (.goto 4, 3) := by decide +kernel
theorem dX11_sentOf_29 : decode cX11_sentOf 29 = .ok (.iconst (-1), 1) := by decide +kernel
theorem dX11_sentOf_30 : decode cX11_sentOf 30 = .ok (.ireturn, 1) := by decide +kernel
theorem dX11_sentOf_31 : decode cX11_sentOf 31 = .ok (.iload_n 2, 1) := by decide +kernel
theorem dX11_sentOf_32 : decode cX11_sentOf 32 = .ok (.ifCond .ne 15, 3) := by decide +kernel
theorem dX11_sentOf_35 : decode cX11_sentOf 35 = .ok (.aload_n 0, 1) := by decide +kernel
theorem dX11_sentOf_36 : decode cX11_sentOf 36 = .ok (.getfield 7, 3) := by decide +kernel
theorem dX11_sentOf_39 : decode cX11_sentOf 39 = .ok (.bipush 41, 2) := by decide +kernel
theorem dX11_sentOf_41 : decode cX11_sentOf 41 = .ok (.iload_n 1, 1) := by decide +kernel
theorem dX11_sentOf_42 : decode cX11_sentOf 42 = .ok (.iadd, 1) := by decide +kernel
theorem dX11_sentOf_43 : decode cX11_sentOf 43 = .ok (.iaload, 1) := by decide +kernel
theorem dX11_sentOf_44 : decode cX11_sentOf 44 = .ok (.goto 29, 3) := by decide +kernel
theorem dX11_sentOf_47 : decode cX11_sentOf 47 = .ok (.iload_n 2, 1) := by decide +kernel
theorem dX11_sentOf_48 : decode cX11_sentOf 48 = .ok (.iconst 1, 1) := by decide +kernel
theorem dX11_sentOf_49 : decode cX11_sentOf 49 = .ok (.if_icmp .ne 15, 3) := by decide +kernel
theorem dX11_sentOf_52 : decode cX11_sentOf 52 = .ok (.aload_n 0, 1) := by decide +kernel
theorem dX11_sentOf_53 : decode cX11_sentOf 53 = .ok (.getfield 7, 3) := by decide +kernel
theorem dX11_sentOf_56 : decode cX11_sentOf 56 = .ok (.bipush 46, 2) := by decide +kernel
theorem dX11_sentOf_58 : decode cX11_sentOf 58 = .ok (.iload_n 1, 1) := by decide +kernel
theorem dX11_sentOf_59 : decode cX11_sentOf 59 = .ok (.iadd, 1) := by decide +kernel
theorem dX11_sentOf_60 : decode cX11_sentOf 60 = .ok (.iaload, 1) := by decide +kernel
theorem dX11_sentOf_61 : decode cX11_sentOf 61 = .ok (.goto 12, 3) := by decide +kernel
theorem dX11_sentOf_64 : decode cX11_sentOf 64 = .ok (.aload_n 0, 1) := by decide +kernel
theorem dX11_sentOf_65 : decode cX11_sentOf 65 = .ok (.getfield 7, 3) := by decide +kernel
theorem dX11_sentOf_68 : decode cX11_sentOf 68 = .ok (.bipush 50, 2) := by decide +kernel
theorem dX11_sentOf_70 : decode cX11_sentOf 70 = .ok (.iload_n 1, 1) := by decide +kernel
theorem dX11_sentOf_71 : decode cX11_sentOf 71 = .ok (.iadd, 1) := by decide +kernel
theorem dX11_sentOf_72 : decode cX11_sentOf 72 = .ok (.iaload, 1) := by decide +kernel
theorem dX11_sentOf_73 : decode cX11_sentOf 73 = .ok (.ireturn, 1) := by decide +kernel
theorem dX11_sent_0 : decode cX11_sent 0 = .ok (.aload_n 0, 1) := by decide +kernel
theorem dX11_sent_1 : decode cX11_sent 1 = .ok (.iload_n 1, 1) := by decide +kernel
theorem dX11_sent_2 : decode cX11_sent 2 = .ok (.invokestatic 52, 3) := by decide +kernel
theorem dX11_sent_5 : decode cX11_sent 5 = .ok (.ifCond .ne 13, 3) := by decide +kernel
theorem dX11_sent_8 : decode cX11_sent 8 = .ok (.iload_n 1, 1) := by decide +kernel
theorem dX11_sent_9 : decode cX11_sent 9 = .ok (.bipush 7, 2) := by decide +kernel
theorem dX11_sent_11 : decode cX11_sent 11 = .ok (.if_icmp .eq 7, 3) := by decide +kernel
theorem dX11_sent_14 : decode cX11_sent 14 = .ok (.iconst 1, 1) := by decide +kernel
theorem dX11_sent_15 : decode cX11_sent 15 = .ok (.goto 20, 3) := by decide +kernel
theorem dX11_sent_18 : decode cX11_sent 18 = .ok (.iload_n 2, 1) := by decide +kernel
theorem dX11_sent_19 : decode cX11_sent 19 = .ok (.i2l, 1) := by decide +kernel
theorem dX11_sent_20 : decode cX11_sent 20 = .ok (.lconst 0, 1) := by decide +kernel
theorem dX11_sent_21 : decode cX11_sent 21 = .ok (.ldc2_w 76, 3) := by decide +kernel
theorem dX11_sent_24 : decode cX11_sent 24 = .ok (.invokestatic 23, 3) := by decide +kernel
theorem dX11_sent_27 : decode cX11_sent 27 = .ok (.ifCond .eq 7, 3) := by decide +kernel
theorem dX11_sent_30 : decode cX11_sent 30 = .ok (.iconst 0, 1) := by decide +kernel
theorem dX11_sent_31 : decode cX11_sent 31 = .ok (.goto 4, 3) := by decide +kernel
theorem dX11_sent_34 : decode cX11_sent 34 = .ok (.iconst 2, 1) := by decide +kernel
theorem dX11_sent_35 : decode cX11_sent 35 = .ok (.invokevirtual 30, 3) := by decide +kernel
theorem dX11_sent_38 : decode cX11_sent 38 = .ok (.ifCond .eq 7, 3) := by decide +kernel
theorem dX11_sent_41 : decode cX11_sent 41 = .ok (.iconst 0, 1) := by decide +kernel
theorem dX11_sent_42 : decode cX11_sent 42 = .ok (.goto 9, 3) := by decide +kernel
theorem dX11_sent_45 : decode cX11_sent 45 = .ok (.aload_n 0, 1) := by decide +kernel
theorem dX11_sent_46 : decode cX11_sent 46 = .ok (.iload_n 1, 1) := by decide +kernel
theorem dX11_sent_47 : decode cX11_sent 47 = .ok (.iload_n 2, 1) := by decide +kernel
theorem dX11_sent_48 : decode cX11_sent 48 = .ok (.invokevirtual 131, 3) := by decide +kernel
theorem dX11_sent_51 : decode cX11_sent 51 = .ok (.ireturn, 1) := by decide +kernel
theorem dX11_wire_0 : decode cX11_wire 0 = .ok (.aload_n 0, 1) := by decide +kernel
theorem dX11_wire_1 : decode cX11_wire 1 = .ok (.iconst 0, 1) := by decide +kernel
theorem dX11_wire_2 : decode cX11_wire 2 = .ok (.putfield 17, 3) := by decide +kernel
theorem dX11_wire_5 : decode cX11_wire 5 = .ok (.aload_n 0, 1) := by decide +kernel
theorem dX11_wire_6 : decode cX11_wire 6 = .ok (.getfield 7, 3) := by decide +kernel
theorem dX11_wire_9 : decode cX11_wire 9 = .ok (.sipush 382, 3) := by decide +kernel
theorem dX11_wire_12 : decode cX11_wire 12 = .ok (.iaload, 1) := by decide +kernel
theorem dX11_wire_13 : decode cX11_wire 13 = .ok (.ireturn, 1) := by decide +kernel
theorem dX11_isFrame_0 : decode cX11_isFrame 0 = .ok (.iload_n 1, 1) := by decide +kernel
theorem dX11_isFrame_1 : decode cX11_isFrame 1 = .ok (.i2l, 1) := by decide +kernel
theorem dX11_isFrame_2 : decode cX11_isFrame 2 = .ok (.lconst 0, 1) := by decide +kernel
theorem dX11_isFrame_3 : decode cX11_isFrame 3 = .ok (.aload_n 0, 1) := by decide +kernel
theorem dX11_isFrame_4 : decode cX11_isFrame 4 = .ok (.getfield 7, 3) := by decide +kernel
theorem dX11_isFrame_7 : decode cX11_isFrame 7 = .ok (.sipush 382, 3) := by decide +kernel
theorem dX11_isFrame_10 : decode cX11_isFrame 10 = .ok (.iaload, 1) := by decide +kernel
theorem dX11_isFrame_11 : decode cX11_isFrame 11 = .ok (.iconst 1, 1) := by decide +kernel
theorem dX11_isFrame_12 : decode cX11_isFrame 12 = .ok (.isub, 1) := by decide +kernel
theorem dX11_isFrame_13 : decode cX11_isFrame 13 = .ok (.i2l, 1) := by decide +kernel
theorem dX11_isFrame_14 : decode cX11_isFrame 14 = .ok (.invokestatic 23, 3) := by decide +kernel
theorem dX11_isFrame_17 : decode cX11_isFrame 17 = .ok (.ireturn, 1) := by decide +kernel
theorem dX11_isByte_0 : decode cX11_isByte 0 = .ok (.aload_n 0, 1) := by decide +kernel
theorem dX11_isByte_1 : decode cX11_isByte 1 = .ok (.iload_n 1, 1) := by decide +kernel
theorem dX11_isByte_2 : decode cX11_isByte 2 = .ok (.invokevirtual 134, 3) := by decide +kernel
theorem dX11_isByte_5 : decode cX11_isByte 5 = .ok (.ifCond .eq 29, 3) := by decide +kernel
theorem dX11_isByte_8 : decode cX11_isByte 8 = .ok (.iload_n 2, 1) := by decide +kernel
theorem dX11_isByte_9 : decode cX11_isByte 9 = .ok (.i2l, 1) := by decide +kernel
theorem dX11_isByte_10 : decode cX11_isByte 10 = .ok (.lconst 0, 1) := by decide +kernel
theorem dX11_isByte_11 : decode cX11_isByte 11 = .ok (.aload_n 0, 1) := by decide +kernel
theorem dX11_isByte_12 : decode cX11_isByte 12 = .ok (.getfield 7, 3) := by decide +kernel
theorem dX11_isByte_15 : decode cX11_isByte 15 = .ok (.aload_n 0, 1) := by decide +kernel
theorem dX11_isByte_16 : decode cX11_isByte 16 = .ok (.iload_n 1, 1) := by decide +kernel
theorem dX11_isByte_17 : decode cX11_isByte 17 = .ok (.invokevirtual 100, 3) := by decide +kernel
theorem dX11_isByte_20 : decode cX11_isByte 20 = .ok (.iaload, 1) := by decide +kernel
theorem dX11_isByte_21 : decode cX11_isByte 21 = .ok (.iconst 5, 1) := by decide +kernel
theorem dX11_isByte_22 : decode cX11_isByte 22 = .ok (.iadd, 1) := by decide +kernel
theorem dX11_isByte_23 : decode cX11_isByte 23 = .ok (.i2l, 1) := by decide +kernel
theorem dX11_isByte_24 : decode cX11_isByte 24 = .ok (.invokestatic 23, 3) := by decide +kernel
theorem dX11_isByte_27 : decode cX11_isByte 27 = .ok (.ifCond .eq 7, 3) := by decide +kernel
theorem dX11_isByte_30 : decode cX11_isByte 30 = .ok (.iconst 1, 1) := by decide +kernel
theorem dX11_isByte_31 : decode cX11_isByte 31 = .ok (.goto 4, 3) := by decide +kernel
theorem dX11_isByte_34 : decode cX11_isByte 34 = .ok (.iconst 0, 1) := by decide +kernel
theorem dX11_isByte_35 : decode cX11_isByte 35 = .ok (.ireturn, 1) := by decide +kernel
theorem dX11_frameByte_0 : decode cX11_frameByte 0 = .ok (.aload_n 0, 1) := by decide +kernel
theorem dX11_frameByte_1 : decode cX11_frameByte 1 = .ok (.aload_n 0, 1) := by decide +kernel
theorem dX11_frameByte_2 : decode cX11_frameByte 2 = .ok (.iload_n 1, 1) := by decide +kernel
theorem dX11_frameByte_3 : decode cX11_frameByte 3 = .ok (.iload_n 2, 1) := by decide +kernel
theorem dX11_frameByte_4 : decode cX11_frameByte 4 = .ok (.invokevirtual 137, 3) := by decide +kernel
theorem dX11_frameByte_7 : decode cX11_frameByte 7 = .ok (.ifCond .eq 7, 3) := by decide +kernel
theorem dX11_frameByte_10 : decode cX11_frameByte 10 = .ok (.iconst 0, 1) := by decide +kernel
theorem dX11_frameByte_11 : decode cX11_frameByte 11 = .ok (.goto 4, 3) := by decide +kernel
theorem dX11_frameByte_14 : decode cX11_frameByte 14 = .ok (.iconst 1, 1) := by decide +kernel
theorem dX11_frameByte_15 : decode cX11_frameByte 15 = .ok (.invokevirtual 30, 3) := by decide +kernel
theorem dX11_frameByte_18 : decode cX11_frameByte 18 = .ok (.ifCond .eq 7, 3) := by decide +kernel
theorem dX11_frameByte_21 : decode cX11_frameByte 21 = .ok (.iconst 0, 1) := by decide +kernel
theorem dX11_frameByte_22 : decode cX11_frameByte 22 = .ok (.goto 17, 3) := by decide +kernel
theorem dX11_frameByte_25 : decode cX11_frameByte 25 = .ok (.aload_n 0, 1) := by decide +kernel
theorem dX11_frameByte_26 : decode cX11_frameByte 26 = .ok (.getfield 7, 3) := by decide +kernel
theorem dX11_frameByte_29 : decode cX11_frameByte 29 = .ok (.aload_n 0, 1) := by decide +kernel
theorem dX11_frameByte_30 : decode cX11_frameByte 30 = .ok (.iload_n 1, 1) := by decide +kernel
theorem dX11_frameByte_31 : decode cX11_frameByte 31 = .ok (.invokevirtual 100, 3) := by decide +kernel
theorem dX11_frameByte_34 : decode cX11_frameByte 34 = .ok (.iconst 4, 1) := by decide +kernel
theorem dX11_frameByte_35 : decode cX11_frameByte 35 = .ok (.iadd, 1) := by decide +kernel
theorem dX11_frameByte_36 : decode cX11_frameByte 36 = .ok (.iload_n 2, 1) := by decide +kernel
theorem dX11_frameByte_37 : decode cX11_frameByte 37 = .ok (.iadd, 1) := by decide +kernel
theorem dX11_frameByte_38 : decode cX11_frameByte 38 = .ok (.iaload, 1) := by decide +kernel
theorem dX11_frameByte_39 : decode cX11_frameByte 39 = .ok (.ireturn, 1) := by decide +kernel
theorem dX11_corrupt_0 : decode cX11_corrupt 0 = .ok (.aload_n 0, 1) := by decide +kernel
theorem dX11_corrupt_1 : decode cX11_corrupt 1 = .ok (.aload_n 0, 1) := by decide +kernel
theorem dX11_corrupt_2 : decode cX11_corrupt 2 = .ok (.iload_n 1, 1) := by decide +kernel
theorem dX11_corrupt_3 : decode cX11_corrupt 3 = .ok (.iload_n 2, 1) := by decide +kernel
theorem dX11_corrupt_4 : decode cX11_corrupt 4 = .ok (.invokevirtual 137, 3) := by decide +kernel
theorem dX11_corrupt_7 : decode cX11_corrupt 7 = .ok (.ifCond .ne 7, 3) := by decide +kernel
theorem dX11_corrupt_10 : decode cX11_corrupt 10 = .ok (.iconst 1, 1) := by decide +kernel
theorem dX11_corrupt_11 : decode cX11_corrupt 11 = .ok (.goto 20, 3) := by decide +kernel
theorem dX11_corrupt_14 : decode cX11_corrupt 14 = .ok (.iload_n 3, 1) := by decide +kernel
theorem dX11_corrupt_15 : decode cX11_corrupt 15 = .ok (.i2l, 1) := by decide +kernel
theorem dX11_corrupt_16 : decode cX11_corrupt 16 = .ok (.lconst 1, 1) := by decide +kernel
theorem dX11_corrupt_17 : decode cX11_corrupt 17 = .ok (.ldc2_w 67, 3) := by decide +kernel
theorem dX11_corrupt_20 : decode cX11_corrupt 20 = .ok (.invokestatic 23, 3) := by decide +kernel
theorem dX11_corrupt_23 : decode cX11_corrupt 23 = .ok (.ifCond .eq 7, 3) := by decide +kernel
theorem dX11_corrupt_26 : decode cX11_corrupt 26 = .ok (.iconst 0, 1) := by decide +kernel
theorem dX11_corrupt_27 : decode cX11_corrupt 27 = .ok (.goto 4, 3) := by decide +kernel
theorem dX11_corrupt_30 : decode cX11_corrupt 30 = .ok (.iconst 2, 1) := by decide +kernel
theorem dX11_corrupt_31 : decode cX11_corrupt 31 = .ok (.invokevirtual 30, 3) := by decide +kernel
theorem dX11_corrupt_34 : decode cX11_corrupt 34 = .ok (.ifCond .eq 5, 3) := by decide +kernel
theorem dX11_corrupt_37 : decode cX11_corrupt 37 = .ok (.iconst 0, 1) := by decide +kernel
theorem dX11_corrupt_38 : decode cX11_corrupt 38 = .ok (.ireturn, 1) := by decide +kernel
theorem dX11_corrupt_39 : decode cX11_corrupt 39 = .ok (.aload_n 0, 1) := by decide +kernel
theorem dX11_corrupt_40 : decode cX11_corrupt 40 = .ok (.invokevirtual 49, 3) := by decide +kernel
theorem dX11_corrupt_43 : decode cX11_corrupt 43 = .ok (.aload_n 0, 1) := by decide +kernel
theorem dX11_corrupt_44 : decode cX11_corrupt 44 = .ok (.getfield 7, 3) := by decide +kernel
theorem dX11_corrupt_47 : decode cX11_corrupt 47 = .ok (.aload_n 0, 1) := by decide +kernel
theorem dX11_corrupt_48 : decode cX11_corrupt 48 = .ok (.iload_n 1, 1) := by decide +kernel
theorem dX11_corrupt_49 : decode cX11_corrupt 49 = .ok (.invokevirtual 100, 3) := by decide +kernel
theorem dX11_corrupt_52 : decode cX11_corrupt 52 = .ok (.iconst 4, 1) := by decide +kernel
theorem dX11_corrupt_53 : decode cX11_corrupt 53 = .ok (.iadd, 1) := by decide +kernel
theorem dX11_corrupt_54 : decode cX11_corrupt 54 = .ok (.iload_n 2, 1) := by decide +kernel
theorem dX11_corrupt_55 : decode cX11_corrupt 55 = .ok (.iadd, 1) := by decide +kernel
theorem dX11_corrupt_56 : decode cX11_corrupt 56 = .ok (.dup2, 1) := by decide +kernel
theorem dX11_corrupt_57 : decode cX11_corrupt 57 = .ok (.iaload, 1) := by decide +kernel
theorem dX11_corrupt_58 : decode cX11_corrupt 58 = .ok (.iload_n 3, 1) := by decide +kernel
theorem dX11_corrupt_59 : decode cX11_corrupt 59 = .ok (.ixor, 1) := by decide +kernel
theorem dX11_corrupt_60 : decode cX11_corrupt 60 = .ok (.iastore, 1) := by decide +kernel
theorem dX11_corrupt_61 : decode cX11_corrupt 61 = .ok (.aload_n 0, 1) := by decide +kernel
theorem dX11_corrupt_62 : decode cX11_corrupt 62 = .ok (.getfield 7, 3) := by decide +kernel
theorem dX11_corrupt_65 : decode cX11_corrupt 65 = .ok (.aload_n 0, 1) := by decide +kernel
theorem dX11_corrupt_66 : decode cX11_corrupt 66 = .ok (.iload_n 1, 1) := by decide +kernel
theorem dX11_corrupt_67 : decode cX11_corrupt 67 = .ok (.invokevirtual 100, 3) := by decide +kernel
theorem dX11_corrupt_70 : decode cX11_corrupt 70 = .ok (.iconst 4, 1) := by decide +kernel
theorem dX11_corrupt_71 : decode cX11_corrupt 71 = .ok (.iadd, 1) := by decide +kernel
theorem dX11_corrupt_72 : decode cX11_corrupt 72 = .ok (.iload_n 2, 1) := by decide +kernel
theorem dX11_corrupt_73 : decode cX11_corrupt 73 = .ok (.iadd, 1) := by decide +kernel
theorem dX11_corrupt_74 : decode cX11_corrupt 74 = .ok (.iaload, 1) := by decide +kernel
theorem dX11_corrupt_75 : decode cX11_corrupt 75 = .ok (.ireturn, 1) := by decide +kernel
theorem dX11_repair_0 : decode cX11_repair 0 = .ok (.aload_n 0, 1) := by decide +kernel
theorem dX11_repair_1 : decode cX11_repair 1 = .ok (.aload_n 0, 1) := by decide +kernel
theorem dX11_repair_2 : decode cX11_repair 2 = .ok (.iload_n 1, 1) := by decide +kernel
theorem dX11_repair_3 : decode cX11_repair 3 = .ok (.invokevirtual 134, 3) := by decide +kernel
theorem dX11_repair_6 : decode cX11_repair 6 = .ok (.ifCond .eq 7, 3) := by decide +kernel
theorem dX11_repair_9 : decode cX11_repair 9 = .ok (.iconst 0, 1) := by decide +kernel
theorem dX11_repair_10 : decode cX11_repair 10 = .ok (.goto 4, 3) := by decide +kernel
theorem dX11_repair_13 : decode cX11_repair 13 = .ok (.iconst 1, 1) := by decide +kernel
theorem dX11_repair_14 : decode cX11_repair 14 = .ok (.invokevirtual 30, 3) := by decide +kernel
theorem dX11_repair_17 : decode cX11_repair 17 = .ok (.ifCond .eq 5, 3) := by decide +kernel
theorem dX11_repair_20 : decode cX11_repair 20 = .ok (.iconst 0, 1) := by decide +kernel
theorem dX11_repair_21 : decode cX11_repair 21 = .ok (.ireturn, 1) := by decide +kernel
theorem dX11_repair_22 : decode cX11_repair 22 = .ok (.aload_n 0, 1) := by decide +kernel
theorem dX11_repair_23 : decode cX11_repair 23 = .ok (.invokevirtual 49, 3) := by decide +kernel
theorem dX11_repair_26 : decode cX11_repair 26 = .ok (.aload_n 0, 1) := by decide +kernel
theorem dX11_repair_27 : decode cX11_repair 27 = .ok (.iload_n 1, 1) := by decide +kernel
theorem dX11_repair_28 : decode cX11_repair 28 = .ok (.invokevirtual 121, 3) := by decide +kernel
theorem dX11_repair_31 : decode cX11_repair 31 = .ok (.aload_n 0, 1) := by decide +kernel
theorem dX11_repair_32 : decode cX11_repair 32 = .ok (.iload_n 1, 1) := by decide +kernel
theorem dX11_repair_33 : decode cX11_repair 33 = .ok (.invokevirtual 141, 3) := by decide +kernel
theorem dX11_repair_36 : decode cX11_repair 36 = .ok (.ireturn, 1) := by decide +kernel
theorem dX11_lose_0 : decode cX11_lose 0 = .ok (.aload_n 0, 1) := by decide +kernel
theorem dX11_lose_1 : decode cX11_lose 1 = .ok (.aload_n 0, 1) := by decide +kernel
theorem dX11_lose_2 : decode cX11_lose 2 = .ok (.iload_n 1, 1) := by decide +kernel
theorem dX11_lose_3 : decode cX11_lose 3 = .ok (.invokevirtual 134, 3) := by decide +kernel
theorem dX11_lose_6 : decode cX11_lose 6 = .ok (.ifCond .eq 7, 3) := by decide +kernel
theorem dX11_lose_9 : decode cX11_lose 9 = .ok (.iconst 0, 1) := by decide +kernel
theorem dX11_lose_10 : decode cX11_lose 10 = .ok (.goto 4, 3) := by decide +kernel
theorem dX11_lose_13 : decode cX11_lose 13 = .ok (.iconst 1, 1) := by decide +kernel
theorem dX11_lose_14 : decode cX11_lose 14 = .ok (.invokevirtual 30, 3) := by decide +kernel
theorem dX11_lose_17 : decode cX11_lose 17 = .ok (.ifCond .eq 5, 3) := by decide +kernel
theorem dX11_lose_20 : decode cX11_lose 20 = .ok (.iconst 0, 1) := by decide +kernel
theorem dX11_lose_21 : decode cX11_lose 21 = .ok (.ireturn, 1) := by decide +kernel
theorem dX11_lose_22 : decode cX11_lose 22 = .ok (.aload_n 0, 1) := by decide +kernel
theorem dX11_lose_23 : decode cX11_lose 23 = .ok (.invokevirtual 49, 3) := by decide +kernel
theorem dX11_lose_26 : decode cX11_lose 26 = .ok (.aload_n 0, 1) := by decide +kernel
theorem dX11_lose_27 : decode cX11_lose 27 = .ok (.getfield 7, 3) := by decide +kernel
theorem dX11_lose_30 : decode cX11_lose 30 = .ok (.aload_n 0, 1) := by decide +kernel
theorem dX11_lose_31 : decode cX11_lose 31 = .ok (.iload_n 1, 1) := by decide +kernel
theorem dX11_lose_32 : decode cX11_lose 32 = .ok (.invokevirtual 100, 3) := by decide +kernel
theorem dX11_lose_35 : decode cX11_lose 35 = .ok (.iconst 1, 1) := by decide +kernel
theorem dX11_lose_36 : decode cX11_lose 36 = .ok (.iadd, 1) := by decide +kernel
theorem dX11_lose_37 : decode cX11_lose 37 = .ok (.iconst 1, 1) := by decide +kernel
theorem dX11_lose_38 : decode cX11_lose 38 = .ok (.iastore, 1) := by decide +kernel
theorem dX11_lose_39 : decode cX11_lose 39 = .ok (.iconst 0, 1) := by decide +kernel
theorem dX11_lose_40 : decode cX11_lose 40 = .ok (.istore_n 2, 1) := by decide +kernel
theorem dX11_lose_41 : decode cX11_lose 41 = .ok (.iconst 0, 1) := by decide +kernel
theorem dX11_lose_42 : decode cX11_lose 42 = .ok (.istore_n 3, 1) := by decide +kernel
theorem dX11_lose_43 : decode cX11_lose 43 = .ok (.iload_n 3, 1) := by decide +kernel
theorem dX11_lose_44 : decode cX11_lose 44 = .ok (.aload_n 0, 1) := by decide +kernel
theorem dX11_lose_45 : decode cX11_lose 45 = .ok (.getfield 7, 3) := by decide +kernel
theorem dX11_lose_48 : decode cX11_lose 48 = .ok (.sipush 382, 3) := by decide +kernel
theorem dX11_lose_51 : decode cX11_lose 51 = .ok (.iaload, 1) := by decide +kernel
theorem dX11_lose_52 : decode cX11_lose 52 = .ok (.if_icmp .ge 24, 3) := by decide +kernel
theorem dX11_lose_55 : decode cX11_lose 55 = .ok (.iload_n 2, 1) := by decide +kernel
theorem dX11_lose_56 : decode cX11_lose 56 = .ok (.aload_n 0, 1) := by decide +kernel
theorem dX11_lose_57 : decode cX11_lose 57 = .ok (.getfield 7, 3) := by decide +kernel
theorem dX11_lose_60 : decode cX11_lose 60 = .ok (.aload_n 0, 1) := by decide +kernel
theorem dX11_lose_61 : decode cX11_lose 61 = .ok (.iload_n 3, 1) := by decide +kernel
theorem dX11_lose_62 : decode cX11_lose 62 = .ok (.invokevirtual 100, 3) := by decide +kernel
theorem dX11_lose_65 : decode cX11_lose 65 = .ok (.iconst 1, 1) := by decide +kernel
theorem dX11_lose_66 : decode cX11_lose 66 = .ok (.iadd, 1) := by decide +kernel
theorem dX11_lose_67 : decode cX11_lose 67 = .ok (.iaload, 1) := by decide +kernel
theorem dX11_lose_68 : decode cX11_lose 68 = .ok (.iadd, 1) := by decide +kernel
theorem dX11_lose_69 : decode cX11_lose 69 = .ok (.istore_n 2, 1) := by decide +kernel
theorem dX11_lose_70 : decode cX11_lose 70 = .ok (.iinc 3 1, 3) := by decide +kernel
theorem dX11_lose_73 : decode cX11_lose 73 = .ok (.goto (-30), 3) := by decide +kernel
theorem dX11_lose_76 : decode cX11_lose 76 = .ok (.iload_n 2, 1) := by decide +kernel
theorem dX11_lose_77 : decode cX11_lose 77 = .ok (.ireturn, 1) := by decide +kernel
theorem dX11_counts_0 : decode cX11_counts 0 = .ok (.aload_n 0, 1) := by decide +kernel
theorem dX11_counts_1 : decode cX11_counts 1 = .ok (.getfield 7, 3) := by decide +kernel
theorem dX11_counts_4 : decode cX11_counts 4 = .ok (.sipush 3383, 3) := by decide +kernel
theorem dX11_counts_7 : decode cX11_counts 7 = .ok (.iload_n 1, 1) := by decide +kernel
theorem dX11_counts_8 : decode cX11_counts 8 = .ok (.iadd, 1) := by decide +kernel
theorem dX11_counts_9 : decode cX11_counts 9 = .ok (.dup2, 1) := by decide +kernel
theorem dX11_counts_10 : decode cX11_counts 10 = .ok (.iaload, 1) := by decide +kernel
theorem dX11_counts_11 : decode cX11_counts 11 = .ok (.iload_n 2, 1) := by decide +kernel
theorem dX11_counts_12 : decode cX11_counts 12 = .ok (.iadd, 1) := by decide +kernel
theorem dX11_counts_13 : decode cX11_counts 13 = .ok (.iastore, 1) := by decide +kernel
theorem dX11_counts_14 : decode cX11_counts 14 = .ok (.return_, 1) := by decide +kernel
theorem dX11_delivers_0 : decode cX11_delivers 0 = .ok (.sipush 3411, 3) := by decide +kernel
theorem dX11_delivers_3 : decode cX11_delivers 3 = .ok (.sipush 258, 3) := by decide +kernel
theorem dX11_delivers_6 : decode cX11_delivers 6 = .ok (.iload_n 1, 1) := by decide +kernel
theorem dX11_delivers_7 : decode cX11_delivers 7 = .ok (.imul, 1) := by decide +kernel
theorem dX11_delivers_8 : decode cX11_delivers 8 = .ok (.iadd, 1) := by decide +kernel
theorem dX11_delivers_9 : decode cX11_delivers 9 = .ok (.istore_n 2, 1) := by decide +kernel
theorem dX11_delivers_10 : decode cX11_delivers 10 = .ok (.aload_n 0, 1) := by decide +kernel
theorem dX11_delivers_11 : decode cX11_delivers 11 = .ok (.getfield 7, 3) := by decide +kernel
theorem dX11_delivers_14 : decode cX11_delivers 14 = .ok (.sipush 3407, 3) := by decide +kernel
theorem dX11_delivers_17 : decode cX11_delivers 17 = .ok (.iload_n 1, 1) := by decide +kernel
theorem dX11_delivers_18 : decode cX11_delivers 18 = .ok (.iadd, 1) := by decide +kernel
theorem dX11_delivers_19 : decode cX11_delivers 19 = .ok (.iconst 0, 1) := by decide +kernel
theorem dX11_delivers_20 : decode cX11_delivers 20 = .ok (.iastore, 1) := by decide +kernel
theorem dX11_delivers_21 : decode cX11_delivers 21 = .ok (.aload_n 0, 1) := by decide +kernel
theorem dX11_delivers_22 : decode cX11_delivers 22 = .ok (.getfield 7, 3) := by decide +kernel
theorem dX11_delivers_25 : decode cX11_delivers 25 = .ok (.iload_n 2, 1) := by decide +kernel
theorem dX11_delivers_26 : decode cX11_delivers 26 = .ok (.iaload, 1) := by decide +kernel
theorem dX11_delivers_27 : decode cX11_delivers 27 = .ok (.istore_n 3, 1) := by decide +kernel
theorem dX11_delivers_28 : decode cX11_delivers 28 = .ok (.iload_n 3, 1) := by decide +kernel
theorem dX11_delivers_29 : decode cX11_delivers 29 = .ok (.bipush 15, 2) := by decide +kernel
theorem dX11_delivers_31 : decode cX11_delivers 31 = .ok (.if_icmp .lt 21, 3) := by decide +kernel
theorem dX11_delivers_34 : decode cX11_delivers 34 = .ok (.aload_n 0, 1) := by decide +kernel
theorem dX11_delivers_35 : decode cX11_delivers 35 = .ok (.iload_n 3, 1) := by decide +kernel
theorem dX11_delivers_36 : decode cX11_delivers 36 = .ok (.bipush 15, 2) := by decide +kernel
theorem dX11_delivers_38 : decode cX11_delivers 38 = .ok (.if_icmp .ne 7, 3) := by decide +kernel
theorem dX11_delivers_41 : decode cX11_delivers 41 = .ok (.iconst 4, 1) := by decide +kernel
theorem dX11_delivers_42 : decode cX11_delivers 42 = .ok (.goto 4, 3) := by decide +kernel
theorem dX11_delivers_45 : decode cX11_delivers 45 = .ok (.iconst 3, 1) := by decide +kernel
theorem dX11_delivers_46 : decode cX11_delivers 46 = .ok (.iconst 1, 1) := by decide +kernel
theorem dX11_delivers_47 : decode cX11_delivers 47 = .ok (.invokevirtual 144, 3) := by decide +kernel
theorem dX11_delivers_50 : decode cX11_delivers 50 = .ok (.iconst 0, 1) := by decide +kernel
theorem dX11_delivers_51 : decode cX11_delivers 51 = .ok (.ireturn, 1) := by decide +kernel
theorem dX11_delivers_52 : decode cX11_delivers 52 = .ok (.sipush 4443, 3) := by decide +kernel
theorem dX11_delivers_55 : decode cX11_delivers 55 = .ok (.iconst 4, 1) := by decide +kernel
theorem dX11_delivers_56 : decode cX11_delivers 56 = .ok (.iload_n 3, 1) := by decide +kernel
theorem dX11_delivers_57 : decode cX11_delivers 57 = .ok (.imul, 1) := by decide +kernel
theorem dX11_delivers_58 : decode cX11_delivers 58 = .ok (.iadd, 1) := by decide +kernel
theorem dX11_delivers_59 : decode cX11_delivers 59 = .ok (.istore 4, 2) := by decide +kernel
theorem dX11_delivers_61 : decode cX11_delivers 61 = .ok (.aload_n 0, 1) := by decide +kernel
theorem dX11_delivers_62 : decode cX11_delivers 62 = .ok (.getfield 7, 3) := by decide +kernel
theorem dX11_delivers_65 : decode cX11_delivers 65 = .ok (.iload 4, 2) := by decide +kernel
theorem dX11_delivers_67 : decode cX11_delivers 67 = .ok (.dup2, 1) := by decide +kernel
theorem dX11_delivers_68 : decode cX11_delivers 68 = .ok (.iaload, 1) := by decide +kernel
theorem dX11_delivers_69 : decode cX11_delivers 69 = .ok (.iconst 1, 1) := by decide +kernel
theorem dX11_delivers_70 : decode cX11_delivers 70 = .ok (.iadd, 1) := by decide +kernel
theorem dX11_delivers_71 : decode cX11_delivers 71 = .ok (.iastore, 1) := by decide +kernel
theorem dX11_delivers_72 : decode cX11_delivers 72 = .ok (.aload_n 0, 1) := by decide +kernel
theorem dX11_delivers_73 : decode cX11_delivers 73 = .ok (.getfield 7, 3) := by decide +kernel
theorem dX11_delivers_76 : decode cX11_delivers 76 = .ok (.iload 4, 2) := by decide +kernel
theorem dX11_delivers_78 : decode cX11_delivers 78 = .ok (.iconst 1, 1) := by decide +kernel
theorem dX11_delivers_79 : decode cX11_delivers 79 = .ok (.iadd, 1) := by decide +kernel
theorem dX11_delivers_80 : decode cX11_delivers 80 = .ok (.dup2, 1) := by decide +kernel
theorem dX11_delivers_81 : decode cX11_delivers 81 = .ok (.iaload, 1) := by decide +kernel
theorem dX11_delivers_82 : decode cX11_delivers 82 = .ok (.aload_n 0, 1) := by decide +kernel
theorem dX11_delivers_83 : decode cX11_delivers 83 = .ok (.getfield 7, 3) := by decide +kernel
theorem dX11_delivers_86 : decode cX11_delivers 86 = .ok (.iload 4, 2) := by decide +kernel
theorem dX11_delivers_88 : decode cX11_delivers 88 = .ok (.iconst 3, 1) := by decide +kernel
theorem dX11_delivers_89 : decode cX11_delivers 89 = .ok (.iadd, 1) := by decide +kernel
theorem dX11_delivers_90 : decode cX11_delivers 90 = .ok (.iaload, 1) := by decide +kernel
theorem dX11_delivers_91 : decode cX11_delivers 91 = .ok (.iconst (-1), 1) := by decide +kernel
theorem dX11_delivers_92 : decode cX11_delivers 92 = .ok (.if_icmp .ne 7, 3) := by decide +kernel
theorem dX11_delivers_95 : decode cX11_delivers 95 = .ok (.iconst 0, 1) := by decide +kernel
theorem dX11_delivers_96 : decode cX11_delivers 96 = .ok (.goto 29, 3) := by decide +kernel
theorem dX11_delivers_99 : decode cX11_delivers 99 = .ok (.aload_n 0, 1) := by decide +kernel
theorem dX11_delivers_100 : decode cX11_delivers 100 = .ok (.getfield 7, 3) := by decide +kernel
theorem dX11_delivers_103 : decode cX11_delivers 103 = .ok (.iload_n 2, 1) := by decide +kernel
theorem dX11_delivers_104 : decode cX11_delivers 104 = .ok (.iconst 1, 1) := by decide +kernel
theorem dX11_delivers_105 : decode cX11_delivers 105 = .ok (.iadd, 1) := by decide +kernel
theorem dX11_delivers_106 : decode cX11_delivers 106 = .ok (.iaload, 1) := by decide +kernel
theorem dX11_delivers_107 : decode cX11_delivers 107 = .ok (.aload_n 0, 1) := by decide +kernel
theorem dX11_delivers_108 : decode cX11_delivers 108 = .ok (.getfield 7, 3) := by decide +kernel
theorem dX11_delivers_111 : decode cX11_delivers 111 = .ok (.iload 4, 2) := by decide +kernel
theorem dX11_delivers_113 : decode cX11_delivers 113 = .ok (.iconst 3, 1) := by decide +kernel
theorem dX11_delivers_114 : decode cX11_delivers 114 = .ok (.iadd, 1) := by decide +kernel
theorem dX11_delivers_115 : decode cX11_delivers 115 = .ok (.iaload, 1) := by decide +kernel
theorem dX11_delivers_116 : decode cX11_delivers 116 = .ok (.isub, 1) := by decide +kernel
theorem dX11_delivers_117 : decode cX11_delivers 117 = .ok (.sipush 255, 3) := by decide +kernel
theorem dX11_delivers_120 : decode cX11_delivers 120 = .ok (.iadd, 1) := by decide +kernel
theorem dX11_delivers_121 : decode cX11_delivers 121 = .ok (.sipush 256, 3) := by decide +kernel
theorem dX11_delivers_124 : decode cX11_delivers 124 = .ok (.irem, 1) := by decide +kernel
theorem dX11_delivers_125 : decode cX11_delivers 125 = .ok (.iadd, 1) := by decide +kernel
theorem dX11_delivers_126 : decode cX11_delivers 126 = .ok (.iastore, 1) := by decide +kernel
theorem dX11_delivers_127 : decode cX11_delivers 127 = .ok (.aload_n 0, 1) := by decide +kernel
theorem dX11_delivers_128 : decode cX11_delivers 128 = .ok (.getfield 7, 3) := by decide +kernel
theorem dX11_delivers_131 : decode cX11_delivers 131 = .ok (.iload 4, 2) := by decide +kernel
theorem dX11_delivers_133 : decode cX11_delivers 133 = .ok (.iconst 2, 1) := by decide +kernel
theorem dX11_delivers_134 : decode cX11_delivers 134 = .ok (.iadd, 1) := by decide +kernel
theorem dX11_delivers_135 : decode cX11_delivers 135 = .ok (.dup2, 1) := by decide +kernel
theorem dX11_delivers_136 : decode cX11_delivers 136 = .ok (.iaload, 1) := by decide +kernel
theorem dX11_delivers_137 : decode cX11_delivers 137 = .ok (.aload_n 0, 1) := by decide +kernel
theorem dX11_delivers_138 : decode cX11_delivers 138 = .ok (.getfield 7, 3) := by decide +kernel
theorem dX11_delivers_141 : decode cX11_delivers 141 = .ok (.iload_n 2, 1) := by decide +kernel
theorem dX11_delivers_142 : decode cX11_delivers 142 = .ok (.iconst 2, 1) := by decide +kernel
theorem dX11_delivers_143 : decode cX11_delivers 143 = .ok (.iadd, 1) := by decide +kernel
theorem dX11_delivers_144 : decode cX11_delivers 144 = .ok (.iaload, 1) := by decide +kernel
theorem dX11_delivers_145 : decode cX11_delivers 145 = .ok (.iadd, 1) := by decide +kernel
theorem dX11_delivers_146 : decode cX11_delivers 146 = .ok (.iastore, 1) := by decide +kernel
theorem dX11_delivers_147 : decode cX11_delivers 147 = .ok (.aload_n 0, 1) := by decide +kernel
theorem dX11_delivers_148 : decode cX11_delivers 148 = .ok (.getfield 7, 3) := by decide +kernel
theorem dX11_delivers_151 : decode cX11_delivers 151 = .ok (.iload 4, 2) := by decide +kernel
theorem dX11_delivers_153 : decode cX11_delivers 153 = .ok (.iconst 3, 1) := by decide +kernel
theorem dX11_delivers_154 : decode cX11_delivers 154 = .ok (.iadd, 1) := by decide +kernel
theorem dX11_delivers_155 : decode cX11_delivers 155 = .ok (.aload_n 0, 1) := by decide +kernel
theorem dX11_delivers_156 : decode cX11_delivers 156 = .ok (.getfield 7, 3) := by decide +kernel
theorem dX11_delivers_159 : decode cX11_delivers 159 = .ok (.iload_n 2, 1) := by decide +kernel
theorem dX11_delivers_160 : decode cX11_delivers 160 = .ok (.iconst 1, 1) := by decide +kernel
theorem dX11_delivers_161 : decode cX11_delivers 161 = .ok (.iadd, 1) := by decide +kernel
theorem dX11_delivers_162 : decode cX11_delivers 162 = .ok (.iaload, 1) := by decide +kernel
theorem dX11_delivers_163 : decode cX11_delivers 163 = .ok (.iastore, 1) := by decide +kernel
theorem dX11_delivers_164 : decode cX11_delivers 164 = .ok (.aload_n 0, 1) := by decide +kernel
theorem dX11_delivers_165 : decode cX11_delivers 165 = .ok (.getfield 7, 3) := by decide +kernel
theorem dX11_delivers_168 : decode cX11_delivers 168 = .ok (.sipush 4503, 3) := by decide +kernel
theorem dX11_delivers_171 : decode cX11_delivers 171 = .ok (.iaload, 1) := by decide +kernel
theorem dX11_delivers_172 : decode cX11_delivers 172 = .ok (.bipush 30, 2) := by decide +kernel
theorem dX11_delivers_174 : decode cX11_delivers 174 = .ok (.if_icmp .ne 52, 3) := by decide +kernel
theorem dX11_delivers_177 : decode cX11_delivers 177 = .ok (.sipush 4504, 3) := by decide +kernel
theorem dX11_delivers_180 : decode cX11_delivers 180 = .ok (.istore 5, 2) := by decide +kernel
theorem dX11_delivers_182 : decode cX11_delivers 182 = .ok (.iload 5, 2) := by decide +kernel
theorem dX11_delivers_184 : decode cX11_delivers 184 = .ok (.sipush 12044, 3) := by decide +kernel
theorem dX11_delivers_187 : decode cX11_delivers 187 = .ok (.if_icmp .ge 27, 3) := by decide +kernel
theorem dX11_delivers_190 : decode cX11_delivers 190 = .ok (.aload_n 0, 1) := by decide +kernel
theorem dX11_delivers_191 : decode cX11_delivers 191 = .ok (.getfield 7, 3) := by decide +kernel
theorem dX11_delivers_194 : decode cX11_delivers 194 = .ok (.iload 5, 2) := by decide +kernel
theorem dX11_delivers_196 : decode cX11_delivers 196 = .ok (.aload_n 0, 1) := by decide +kernel
theorem dX11_delivers_197 : decode cX11_delivers 197 = .ok (.getfield 7, 3) := by decide +kernel
theorem dX11_delivers_200 : decode cX11_delivers 200 = .ok (.iload 5, 2) := by decide +kernel
theorem dX11_delivers_202 : decode cX11_delivers 202 = .ok (.sipush 260, 3) := by decide +kernel
theorem dX11_delivers_205 : decode cX11_delivers 205 = .ok (.iadd, 1) := by decide +kernel
theorem dX11_delivers_206 : decode cX11_delivers 206 = .ok (.iaload, 1) := by decide +kernel
theorem dX11_delivers_207 : decode cX11_delivers 207 = .ok (.iastore, 1) := by decide +kernel
theorem dX11_delivers_208 : decode cX11_delivers 208 = .ok (.iinc 5 1, 3) := by decide +kernel
theorem dX11_delivers_211 : decode cX11_delivers 211 = .ok (.goto (-29), 3) := by decide +kernel
theorem dX11_delivers_214 : decode cX11_delivers 214 = .ok (.aload_n 0, 1) := by decide +kernel
theorem dX11_delivers_215 : decode cX11_delivers 215 = .ok (.getfield 7, 3) := by decide +kernel
theorem dX11_delivers_218 : decode cX11_delivers 218 = .ok (.sipush 4503, 3) := by decide +kernel
theorem dX11_delivers_221 : decode cX11_delivers 221 = .ok (.dup2, 1) := by decide +kernel
theorem dX11_delivers_222 : decode cX11_delivers 222 = .ok (.iaload, 1) := by decide +kernel
theorem dX11_delivers_223 : decode cX11_delivers 223 = .ok (.iconst 1, 1) := by decide +kernel
theorem dX11_delivers_224 : decode cX11_delivers 224 = .ok (.isub, 1) := by decide +kernel
theorem dX11_delivers_225 : decode cX11_delivers 225 = .ok (.iastore, 1) := by decide +kernel
theorem dX11_delivers_226 : decode cX11_delivers 226 = .ok (.sipush 4504, 3) := by decide +kernel
theorem dX11_delivers_229 : decode cX11_delivers 229 = .ok (.sipush 260, 3) := by decide +kernel
theorem dX11_delivers_232 : decode cX11_delivers 232 = .ok (.aload_n 0, 1) := by decide +kernel
theorem dX11_delivers_233 : decode cX11_delivers 233 = .ok (.getfield 7, 3) := by decide +kernel
theorem dX11_delivers_236 : decode cX11_delivers 236 = .ok (.sipush 4503, 3) := by decide +kernel
theorem dX11_delivers_239 : decode cX11_delivers 239 = .ok (.iaload, 1) := by decide +kernel
theorem dX11_delivers_240 : decode cX11_delivers 240 = .ok (.imul, 1) := by decide +kernel
theorem dX11_delivers_241 : decode cX11_delivers 241 = .ok (.iadd, 1) := by decide +kernel
theorem dX11_delivers_242 : decode cX11_delivers 242 = .ok (.istore 5, 2) := by decide +kernel
theorem dX11_delivers_244 : decode cX11_delivers 244 = .ok (.aload_n 0, 1) := by decide +kernel
theorem dX11_delivers_245 : decode cX11_delivers 245 = .ok (.getfield 7, 3) := by decide +kernel
theorem dX11_delivers_248 : decode cX11_delivers 248 = .ok (.iload 5, 2) := by decide +kernel
theorem dX11_delivers_250 : decode cX11_delivers 250 = .ok (.iload_n 1, 1) := by decide +kernel
theorem dX11_delivers_251 : decode cX11_delivers 251 = .ok (.iastore, 1) := by decide +kernel
theorem dX11_delivers_252 : decode cX11_delivers 252 = .ok (.aload_n 0, 1) := by decide +kernel
theorem dX11_delivers_253 : decode cX11_delivers 253 = .ok (.getfield 7, 3) := by decide +kernel
theorem dX11_delivers_256 : decode cX11_delivers 256 = .ok (.iload 5, 2) := by decide +kernel
theorem dX11_delivers_258 : decode cX11_delivers 258 = .ok (.iconst 1, 1) := by decide +kernel
theorem dX11_delivers_259 : decode cX11_delivers 259 = .ok (.iadd, 1) := by decide +kernel
theorem dX11_delivers_260 : decode cX11_delivers 260 = .ok (.iload_n 3, 1) := by decide +kernel
theorem dX11_delivers_261 : decode cX11_delivers 261 = .ok (.iastore, 1) := by decide +kernel
theorem dX11_delivers_262 : decode cX11_delivers 262 = .ok (.aload_n 0, 1) := by decide +kernel
theorem dX11_delivers_263 : decode cX11_delivers 263 = .ok (.getfield 7, 3) := by decide +kernel
theorem dX11_delivers_266 : decode cX11_delivers 266 = .ok (.iload 5, 2) := by decide +kernel
theorem dX11_delivers_268 : decode cX11_delivers 268 = .ok (.iconst 2, 1) := by decide +kernel
theorem dX11_delivers_269 : decode cX11_delivers 269 = .ok (.iadd, 1) := by decide +kernel
theorem dX11_delivers_270 : decode cX11_delivers 270 = .ok (.aload_n 0, 1) := by decide +kernel
theorem dX11_delivers_271 : decode cX11_delivers 271 = .ok (.getfield 7, 3) := by decide +kernel
theorem dX11_delivers_274 : decode cX11_delivers 274 = .ok (.iload_n 2, 1) := by decide +kernel
theorem dX11_delivers_275 : decode cX11_delivers 275 = .ok (.iconst 1, 1) := by decide +kernel
theorem dX11_delivers_276 : decode cX11_delivers 276 = .ok (.iadd, 1) := by decide +kernel
theorem dX11_delivers_277 : decode cX11_delivers 277 = .ok (.iaload, 1) := by decide +kernel
theorem dX11_delivers_278 : decode cX11_delivers 278 = .ok (.iastore, 1) := by decide +kernel
theorem dX11_delivers_279 : decode cX11_delivers 279 = .ok (.aload_n 0, 1) := by decide +kernel
theorem dX11_delivers_280 : decode cX11_delivers 280 = .ok (.getfield 7, 3) := by decide +kernel
theorem dX11_delivers_283 : decode cX11_delivers 283 = .ok (.iload 5, 2) := by decide +kernel
theorem dX11_delivers_285 : decode cX11_delivers 285 = .ok (.iconst 3, 1) := by decide +kernel
theorem dX11_delivers_286 : decode cX11_delivers 286 = .ok (.iadd, 1) := by decide +kernel
theorem dX11_delivers_287 : decode cX11_delivers 287 = .ok (.aload_n 0, 1) := by decide +kernel
theorem dX11_delivers_288 : decode cX11_delivers 288 = .ok (.getfield 7, 3) := by decide +kernel
theorem dX11_delivers_291 : decode cX11_delivers 291 = .ok (.iload_n 2, 1) := by decide +kernel
theorem dX11_delivers_292 : decode cX11_delivers 292 = .ok (.iconst 2, 1) := by decide +kernel
theorem dX11_delivers_293 : decode cX11_delivers 293 = .ok (.iadd, 1) := by decide +kernel
theorem dX11_delivers_294 : decode cX11_delivers 294 = .ok (.iaload, 1) := by decide +kernel
theorem dX11_delivers_295 : decode cX11_delivers 295 = .ok (.iastore, 1) := by decide +kernel
theorem dX11_delivers_296 : decode cX11_delivers 296 = .ok (.aload_n 0, 1) := by decide +kernel
theorem dX11_delivers_297 : decode cX11_delivers 297 = .ok (.getfield 7, 3) := by decide +kernel
theorem dX11_delivers_300 : decode cX11_delivers 300 = .ok (.iload 5, 2) := by decide +kernel
theorem dX11_delivers_302 : decode cX11_delivers 302 = .ok (.iconst 4, 1) := by decide +kernel
theorem dX11_delivers_303 : decode cX11_delivers 303 = .ok (.iadd, 1) := by decide +kernel
theorem dX11_delivers_304 : decode cX11_delivers 304 = .ok (.iconst 0, 1) := by decide +kernel
theorem dX11_delivers_305 : decode cX11_delivers 305 = .ok (.iastore, 1) := by decide +kernel
theorem dX11_delivers_306 : decode cX11_delivers 306 = .ok (.iconst 0, 1) := by decide +kernel
theorem dX11_delivers_307 : decode cX11_delivers 307 = .ok (.istore 6, 2) := by decide +kernel
theorem dX11_delivers_309 : decode cX11_delivers 309 = .ok (.iload 6, 2) := by decide +kernel
theorem dX11_delivers_311 : decode cX11_delivers 311 = .ok (.aload_n 0, 1) := by decide +kernel
theorem dX11_delivers_312 : decode cX11_delivers 312 = .ok (.getfield 7, 3) := by decide +kernel
theorem dX11_delivers_315 : decode cX11_delivers 315 = .ok (.iload 5, 2) := by decide +kernel
theorem dX11_delivers_317 : decode cX11_delivers 317 = .ok (.iconst 3, 1) := by decide +kernel
theorem dX11_delivers_318 : decode cX11_delivers 318 = .ok (.iadd, 1) := by decide +kernel
theorem dX11_delivers_319 : decode cX11_delivers 319 = .ok (.iaload, 1) := by decide +kernel
theorem dX11_delivers_320 : decode cX11_delivers 320 = .ok (.if_icmp .ge 55, 3) := by decide +kernel
theorem dX11_delivers_323 : decode cX11_delivers 323 = .ok (.aload_n 0, 1) := by decide +kernel
theorem dX11_delivers_324 : decode cX11_delivers 324 = .ok (.getfield 7, 3) := by decide +kernel
theorem dX11_delivers_327 : decode cX11_delivers 327 = .ok (.iload 5, 2) := by decide +kernel
theorem dX11_delivers_329 : decode cX11_delivers 329 = .ok (.iconst 5, 1) := by decide +kernel
theorem dX11_delivers_330 : decode cX11_delivers 330 = .ok (.iadd, 1) := by decide +kernel
theorem dX11_delivers_331 : decode cX11_delivers 331 = .ok (.iload 6, 2) := by decide +kernel
theorem dX11_delivers_333 : decode cX11_delivers 333 = .ok (.iadd, 1) := by decide +kernel
theorem dX11_delivers_334 : decode cX11_delivers 334 = .ok (.aload_n 0, 1) := by decide +kernel
theorem dX11_delivers_335 : decode cX11_delivers 335 = .ok (.getfield 7, 3) := by decide +kernel
theorem dX11_delivers_338 : decode cX11_delivers 338 = .ok (.iload_n 2, 1) := by decide +kernel
theorem dX11_delivers_339 : decode cX11_delivers 339 = .ok (.iconst 3, 1) := by decide +kernel
theorem dX11_delivers_340 : decode cX11_delivers 340 = .ok (.iadd, 1) := by decide +kernel
theorem dX11_delivers_341 : decode cX11_delivers 341 = .ok (.iload 6, 2) := by decide +kernel
theorem dX11_delivers_343 : decode cX11_delivers 343 = .ok (.iadd, 1) := by decide +kernel
theorem dX11_delivers_344 : decode cX11_delivers 344 = .ok (.iaload, 1) := by decide +kernel
theorem dX11_delivers_345 : decode cX11_delivers 345 = .ok (.iastore, 1) := by decide +kernel
theorem dX11_delivers_346 : decode cX11_delivers 346 = .ok (.aload_n 0, 1) := by decide +kernel
theorem dX11_delivers_347 : decode cX11_delivers 347 = .ok (.getfield 7, 3) := by decide +kernel
theorem dX11_delivers_350 : decode cX11_delivers 350 = .ok (.iload 5, 2) := by decide +kernel
theorem dX11_delivers_352 : decode cX11_delivers 352 = .ok (.iconst 4, 1) := by decide +kernel
theorem dX11_delivers_353 : decode cX11_delivers 353 = .ok (.iadd, 1) := by decide +kernel
theorem dX11_delivers_354 : decode cX11_delivers 354 = .ok (.dup2, 1) := by decide +kernel
theorem dX11_delivers_355 : decode cX11_delivers 355 = .ok (.iaload, 1) := by decide +kernel
theorem dX11_delivers_356 : decode cX11_delivers 356 = .ok (.aload_n 0, 1) := by decide +kernel
theorem dX11_delivers_357 : decode cX11_delivers 357 = .ok (.getfield 7, 3) := by decide +kernel
theorem dX11_delivers_360 : decode cX11_delivers 360 = .ok (.iload_n 2, 1) := by decide +kernel
theorem dX11_delivers_361 : decode cX11_delivers 361 = .ok (.iconst 3, 1) := by decide +kernel
theorem dX11_delivers_362 : decode cX11_delivers 362 = .ok (.iadd, 1) := by decide +kernel
theorem dX11_delivers_363 : decode cX11_delivers 363 = .ok (.iload 6, 2) := by decide +kernel
theorem dX11_delivers_365 : decode cX11_delivers 365 = .ok (.iadd, 1) := by decide +kernel
theorem dX11_delivers_366 : decode cX11_delivers 366 = .ok (.iaload, 1) := by decide +kernel
theorem dX11_delivers_367 : decode cX11_delivers 367 = .ok (.iadd, 1) := by decide +kernel
theorem dX11_delivers_368 : decode cX11_delivers 368 = .ok (.iastore, 1) := by decide +kernel
theorem dX11_delivers_369 : decode cX11_delivers 369 = .ok (.iinc 6 1, 3) := by decide +kernel
theorem dX11_delivers_372 : decode cX11_delivers 372 = .ok (.goto (-63), 3) := by decide +kernel
theorem dX11_delivers_375 : decode cX11_delivers 375 = .ok (.aload_n 0, 1) := by decide +kernel
theorem dX11_delivers_376 : decode cX11_delivers 376 = .ok (.getfield 7, 3) := by decide +kernel
theorem dX11_delivers_379 : decode cX11_delivers 379 = .ok (.sipush 4503, 3) := by decide +kernel
theorem dX11_delivers_382 : decode cX11_delivers 382 = .ok (.dup2, 1) := by decide +kernel
theorem dX11_delivers_383 : decode cX11_delivers 383 = .ok (.iaload, 1) := by decide +kernel
theorem dX11_delivers_384 : decode cX11_delivers 384 = .ok (.iconst 1, 1) := by decide +kernel
theorem dX11_delivers_385 : decode cX11_delivers 385 = .ok (.iadd, 1) := by decide +kernel
theorem dX11_delivers_386 : decode cX11_delivers 386 = .ok (.iastore, 1) := by decide +kernel
theorem dX11_delivers_387 : decode cX11_delivers 387 = .ok (.iconst 1, 1) := by decide +kernel
theorem dX11_delivers_388 : decode cX11_delivers 388 = .ok (.ireturn, 1) := by decide +kernel
theorem dX11_appends_0 : decode cX11_appends 0 = .ok (.sipush 3411, 3) := by decide +kernel
theorem dX11_appends_3 : decode cX11_appends 3 = .ok (.sipush 258, 3) := by decide +kernel
theorem dX11_appends_6 : decode cX11_appends 6 = .ok (.iload_n 1, 1) := by decide +kernel
theorem dX11_appends_7 : decode cX11_appends 7 = .ok (.imul, 1) := by decide +kernel
theorem dX11_appends_8 : decode cX11_appends 8 = .ok (.iadd, 1) := by decide +kernel
theorem dX11_appends_9 : decode cX11_appends 9 = .ok (.istore_n 3, 1) := by decide +kernel
theorem dX11_appends_10 : decode cX11_appends 10 = .ok (.aload_n 0, 1) := by decide +kernel
theorem dX11_appends_11 : decode cX11_appends 11 = .ok (.getfield 7, 3) := by decide +kernel
theorem dX11_appends_14 : decode cX11_appends 14 = .ok (.iload_n 3, 1) := by decide +kernel
theorem dX11_appends_15 : decode cX11_appends 15 = .ok (.aload_n 0, 1) := by decide +kernel
theorem dX11_appends_16 : decode cX11_appends 16 = .ok (.getfield 7, 3) := by decide +kernel
theorem dX11_appends_19 : decode cX11_appends 19 = .ok (.sipush 3407, 3) := by decide +kernel
theorem dX11_appends_22 : decode cX11_appends 22 = .ok (.iload_n 1, 1) := by decide +kernel
theorem dX11_appends_23 : decode cX11_appends 23 = .ok (.iadd, 1) := by decide +kernel
theorem dX11_appends_24 : decode cX11_appends 24 = .ok (.iaload, 1) := by decide +kernel
theorem dX11_appends_25 : decode cX11_appends 25 = .ok (.iadd, 1) := by decide +kernel
theorem dX11_appends_26 : decode cX11_appends 26 = .ok (.iload_n 2, 1) := by decide +kernel
theorem dX11_appends_27 : decode cX11_appends 27 = .ok (.iastore, 1) := by decide +kernel
theorem dX11_appends_28 : decode cX11_appends 28 = .ok (.aload_n 0, 1) := by decide +kernel
theorem dX11_appends_29 : decode cX11_appends 29 = .ok (.getfield 7, 3) := by decide +kernel
theorem dX11_appends_32 : decode cX11_appends 32 = .ok (.sipush 3407, 3) := by decide +kernel
theorem dX11_appends_35 : decode cX11_appends 35 = .ok (.iload_n 1, 1) := by decide +kernel
theorem dX11_appends_36 : decode cX11_appends 36 = .ok (.iadd, 1) := by decide +kernel
theorem dX11_appends_37 : decode cX11_appends 37 = .ok (.dup2, 1) := by decide +kernel
theorem dX11_appends_38 : decode cX11_appends 38 = .ok (.iaload, 1) := by decide +kernel
theorem dX11_appends_39 : decode cX11_appends 39 = .ok (.iconst 1, 1) := by decide +kernel
theorem dX11_appends_40 : decode cX11_appends 40 = .ok (.iadd, 1) := by decide +kernel
theorem dX11_appends_41 : decode cX11_appends 41 = .ok (.iastore, 1) := by decide +kernel
theorem dX11_appends_42 : decode cX11_appends 42 = .ok (.aload_n 0, 1) := by decide +kernel
theorem dX11_appends_43 : decode cX11_appends 43 = .ok (.getfield 7, 3) := by decide +kernel
theorem dX11_appends_46 : decode cX11_appends 46 = .ok (.sipush 3407, 3) := by decide +kernel
theorem dX11_appends_49 : decode cX11_appends 49 = .ok (.iload_n 1, 1) := by decide +kernel
theorem dX11_appends_50 : decode cX11_appends 50 = .ok (.iadd, 1) := by decide +kernel
theorem dX11_appends_51 : decode cX11_appends 51 = .ok (.iaload, 1) := by decide +kernel
theorem dX11_appends_52 : decode cX11_appends 52 = .ok (.istore 4, 2) := by decide +kernel
theorem dX11_appends_54 : decode cX11_appends 54 = .ok (.iload 4, 2) := by decide +kernel
theorem dX11_appends_56 : decode cX11_appends 56 = .ok (.iconst 3, 1) := by decide +kernel
theorem dX11_appends_57 : decode cX11_appends 57 = .ok (.if_icmp .lt 30, 3) := by decide +kernel
theorem dX11_appends_60 : decode cX11_appends 60 = .ok (.iload 4, 2) := by decide +kernel
theorem dX11_appends_62 : decode cX11_appends 62 = .ok (.iconst 3, 1) := by decide +kernel
theorem dX11_appends_63 : decode cX11_appends 63 = .ok (.aload_n 0, 1) := by decide +kernel
theorem dX11_appends_64 : decode cX11_appends 64 = .ok (.getfield 7, 3) := by decide +kernel
theorem dX11_appends_67 : decode cX11_appends 67 = .ok (.iload_n 3, 1) := by decide +kernel
theorem dX11_appends_68 : decode cX11_appends 68 = .ok (.iconst 2, 1) := by decide +kernel
theorem dX11_appends_69 : decode cX11_appends 69 = .ok (.iadd, 1) := by decide +kernel
theorem dX11_appends_70 : decode cX11_appends 70 = .ok (.iaload, 1) := by decide +kernel
theorem dX11_appends_71 : decode cX11_appends 71 = .ok (.iadd, 1) := by decide +kernel
theorem dX11_appends_72 : decode cX11_appends 72 = .ok (.if_icmp .ne 15, 3) := by decide +kernel
theorem dX11_appends_75 : decode cX11_appends 75 = .ok (.aload_n 0, 1) := by decide +kernel
theorem dX11_appends_76 : decode cX11_appends 76 = .ok (.iload_n 1, 1) := by decide +kernel
theorem dX11_appends_77 : decode cX11_appends 77 = .ok (.invokevirtual 148, 3) := by decide +kernel
theorem dX11_appends_80 : decode cX11_appends 80 = .ok (.ifCond .eq 7, 3) := by decide +kernel
theorem dX11_appends_83 : decode cX11_appends 83 = .ok (.iconst 1, 1) := by decide +kernel
theorem dX11_appends_84 : decode cX11_appends 84 = .ok (.goto 4, 3) := by decide +kernel
theorem dX11_appends_87 : decode cX11_appends 87 = .ok (.iconst 0, 1) := by decide +kernel
theorem dX11_appends_88 : decode cX11_appends 88 = .ok (.ireturn, 1) := by decide +kernel
theorem dX11_notes_0 : decode cX11_notes 0 = .ok (.aload_n 0, 1) := by decide +kernel
theorem dX11_notes_1 : decode cX11_notes 1 = .ok (.getfield 7, 3) := by decide +kernel
theorem dX11_notes_4 : decode cX11_notes 4 = .ok (.sipush 12304, 3) := by decide +kernel
theorem dX11_notes_7 : decode cX11_notes 7 = .ok (.iaload, 1) := by decide +kernel
theorem dX11_notes_8 : decode cX11_notes 8 = .ok (.iconst 2, 1) := by decide +kernel
theorem dX11_notes_9 : decode cX11_notes 9 = .ok (.if_icmp .ne 47, 3) := by decide +kernel
theorem dX11_notes_12 : decode cX11_notes 12 = .ok (.aload_n 0, 1) := by decide +kernel
theorem dX11_notes_13 : decode cX11_notes 13 = .ok (.getfield 7, 3) := by decide +kernel
theorem dX11_notes_16 : decode cX11_notes 16 = .ok (.sipush 12305, 3) := by decide +kernel
theorem dX11_notes_19 : decode cX11_notes 19 = .ok (.aload_n 0, 1) := by decide +kernel
theorem dX11_notes_20 : decode cX11_notes 20 = .ok (.getfield 7, 3) := by decide +kernel
theorem dX11_notes_23 : decode cX11_notes 23 = .ok (.sipush 12307, 3) := by decide +kernel
theorem dX11_notes_26 : decode cX11_notes 26 = .ok (.iaload, 1) := by decide +kernel
theorem dX11_notes_27 : decode cX11_notes 27 = .ok (.iastore, 1) := by decide +kernel
theorem dX11_notes_28 : decode cX11_notes 28 = .ok (.aload_n 0, 1) := by decide +kernel
theorem dX11_notes_29 : decode cX11_notes 29 = .ok (.getfield 7, 3) := by decide +kernel
theorem dX11_notes_32 : decode cX11_notes 32 = .ok (.sipush 12306, 3) := by decide +kernel
theorem dX11_notes_35 : decode cX11_notes 35 = .ok (.aload_n 0, 1) := by decide +kernel
theorem dX11_notes_36 : decode cX11_notes 36 = .ok (.getfield 7, 3) := by decide +kernel
theorem dX11_notes_39 : decode cX11_notes 39 = .ok (.sipush 12308, 3) := by decide +kernel
theorem dX11_notes_42 : decode cX11_notes 42 = .ok (.iaload, 1) := by decide +kernel
theorem dX11_notes_43 : decode cX11_notes 43 = .ok (.iastore, 1) := by decide +kernel
theorem dX11_notes_44 : decode cX11_notes 44 = .ok (.aload_n 0, 1) := by decide +kernel
theorem dX11_notes_45 : decode cX11_notes 45 = .ok (.getfield 7, 3) := by decide +kernel
theorem dX11_notes_48 : decode cX11_notes 48 = .ok (.sipush 12304, 3) := by decide +kernel
theorem dX11_notes_51 : decode cX11_notes 51 = .ok (.dup2, 1) := by decide +kernel
theorem dX11_notes_52 : decode cX11_notes 52 = .ok (.iaload, 1) := by decide +kernel
theorem dX11_notes_53 : decode cX11_notes 53 = .ok (.iconst 1, 1) := by decide +kernel
theorem dX11_notes_54 : decode cX11_notes 54 = .ok (.isub, 1) := by decide +kernel
theorem dX11_notes_55 : decode cX11_notes 55 = .ok (.iastore, 1) := by decide +kernel
theorem dX11_notes_56 : decode cX11_notes 56 = .ok (.aload_n 0, 1) := by decide +kernel
theorem dX11_notes_57 : decode cX11_notes 57 = .ok (.getfield 7, 3) := by decide +kernel
theorem dX11_notes_60 : decode cX11_notes 60 = .ok (.sipush 12305, 3) := by decide +kernel
theorem dX11_notes_63 : decode cX11_notes 63 = .ok (.iconst 2, 1) := by decide +kernel
theorem dX11_notes_64 : decode cX11_notes 64 = .ok (.aload_n 0, 1) := by decide +kernel
theorem dX11_notes_65 : decode cX11_notes 65 = .ok (.getfield 7, 3) := by decide +kernel
theorem dX11_notes_68 : decode cX11_notes 68 = .ok (.sipush 12304, 3) := by decide +kernel
theorem dX11_notes_71 : decode cX11_notes 71 = .ok (.iaload, 1) := by decide +kernel
theorem dX11_notes_72 : decode cX11_notes 72 = .ok (.imul, 1) := by decide +kernel
theorem dX11_notes_73 : decode cX11_notes 73 = .ok (.iadd, 1) := by decide +kernel
theorem dX11_notes_74 : decode cX11_notes 74 = .ok (.iload_n 1, 1) := by decide +kernel
theorem dX11_notes_75 : decode cX11_notes 75 = .ok (.iastore, 1) := by decide +kernel
theorem dX11_notes_76 : decode cX11_notes 76 = .ok (.aload_n 0, 1) := by decide +kernel
theorem dX11_notes_77 : decode cX11_notes 77 = .ok (.getfield 7, 3) := by decide +kernel
theorem dX11_notes_80 : decode cX11_notes 80 = .ok (.sipush 12305, 3) := by decide +kernel
theorem dX11_notes_83 : decode cX11_notes 83 = .ok (.iconst 2, 1) := by decide +kernel
theorem dX11_notes_84 : decode cX11_notes 84 = .ok (.aload_n 0, 1) := by decide +kernel
theorem dX11_notes_85 : decode cX11_notes 85 = .ok (.getfield 7, 3) := by decide +kernel
theorem dX11_notes_88 : decode cX11_notes 88 = .ok (.sipush 12304, 3) := by decide +kernel
theorem dX11_notes_91 : decode cX11_notes 91 = .ok (.iaload, 1) := by decide +kernel
theorem dX11_notes_92 : decode cX11_notes 92 = .ok (.imul, 1) := by decide +kernel
theorem dX11_notes_93 : decode cX11_notes 93 = .ok (.iadd, 1) := by decide +kernel
theorem dX11_notes_94 : decode cX11_notes 94 = .ok (.iconst 1, 1) := by decide +kernel
theorem dX11_notes_95 : decode cX11_notes 95 = .ok (.iadd, 1) := by decide +kernel
theorem dX11_notes_96 : decode cX11_notes 96 = .ok (.iload_n 2, 1) := by decide +kernel
theorem dX11_notes_97 : decode cX11_notes 97 = .ok (.iastore, 1) := by decide +kernel
theorem dX11_notes_98 : decode cX11_notes 98 = .ok (.aload_n 0, 1) := by decide +kernel
theorem dX11_notes_99 : decode cX11_notes 99 = .ok (.getfield 7, 3) := by decide +kernel
theorem dX11_notes_102 : decode cX11_notes 102 = .ok (.sipush 12304, 3) := by decide +kernel
theorem dX11_notes_105 : decode cX11_notes 105 = .ok (.dup2, 1) := by decide +kernel
theorem dX11_notes_106 : decode cX11_notes 106 = .ok (.iaload, 1) := by decide +kernel
theorem dX11_notes_107 : decode cX11_notes 107 = .ok (.iconst 1, 1) := by decide +kernel
theorem dX11_notes_108 : decode cX11_notes 108 = .ok (.iadd, 1) := by decide +kernel
theorem dX11_notes_109 : decode cX11_notes 109 = .ok (.iastore, 1) := by decide +kernel
theorem dX11_notes_110 : decode cX11_notes 110 = .ok (.return_, 1) := by decide +kernel
theorem dX11_gapOf_0 : decode cX11_gapOf 0 = .ok (.aload_n 0, 1) := by decide +kernel
theorem dX11_gapOf_1 : decode cX11_gapOf 1 = .ok (.getfield 7, 3) := by decide +kernel
theorem dX11_gapOf_4 : decode cX11_gapOf 4 = .ok (.iload_n 1, 1) := by decide +kernel
theorem dX11_gapOf_5 : decode cX11_gapOf 5 = .ok (.iconst 4, 1) := by decide +kernel
theorem dX11_gapOf_6 : decode cX11_gapOf 6 = .ok (.iadd, 1) := by decide +kernel
theorem dX11_gapOf_7 : decode cX11_gapOf 7 = .ok (.iaload, 1) := by decide +kernel
theorem dX11_gapOf_8 : decode cX11_gapOf 8 = .ok (.istore_n 3, 1) := by decide +kernel
theorem dX11_gapOf_9 : decode cX11_gapOf 9 = .ok (.aload_n 0, 1) := by decide +kernel
theorem dX11_gapOf_10 : decode cX11_gapOf 10 = .ok (.getfield 7, 3) := by decide +kernel
theorem dX11_gapOf_13 : decode cX11_gapOf 13 = .ok (.iload_n 1, 1) := by decide +kernel
theorem dX11_gapOf_14 : decode cX11_gapOf 14 = .ok (.iconst 4, 1) := by decide +kernel
theorem dX11_gapOf_15 : decode cX11_gapOf 15 = .ok (.iadd, 1) := by decide +kernel
theorem dX11_gapOf_16 : decode cX11_gapOf 16 = .ok (.iconst 2, 1) := by decide +kernel
theorem dX11_gapOf_17 : decode cX11_gapOf 17 = .ok (.iadd, 1) := by decide +kernel
theorem dX11_gapOf_18 : decode cX11_gapOf 18 = .ok (.iaload, 1) := by decide +kernel
theorem dX11_gapOf_19 : decode cX11_gapOf 19 = .ok (.istore 4, 2) := by decide +kernel
theorem dX11_gapOf_21 : decode cX11_gapOf 21 = .ok (.aload_n 0, 1) := by decide +kernel
theorem dX11_gapOf_22 : decode cX11_gapOf 22 = .ok (.iconst 0, 1) := by decide +kernel
theorem dX11_gapOf_23 : decode cX11_gapOf 23 = .ok (.iconst 1, 1) := by decide +kernel
theorem dX11_gapOf_24 : decode cX11_gapOf 24 = .ok (.invokevirtual 144, 3) := by decide +kernel
theorem dX11_gapOf_27 : decode cX11_gapOf 27 = .ok (.aload_n 0, 1) := by decide +kernel
theorem dX11_gapOf_28 : decode cX11_gapOf 28 = .ok (.iconst 2, 1) := by decide +kernel
theorem dX11_gapOf_29 : decode cX11_gapOf 29 = .ok (.aload_n 0, 1) := by decide +kernel
theorem dX11_gapOf_30 : decode cX11_gapOf 30 = .ok (.getfield 7, 3) := by decide +kernel
theorem dX11_gapOf_33 : decode cX11_gapOf 33 = .ok (.sipush 3389, 3) := by decide +kernel
theorem dX11_gapOf_36 : decode cX11_gapOf 36 = .ok (.iaload, 1) := by decide +kernel
theorem dX11_gapOf_37 : decode cX11_gapOf 37 = .ok (.iconst (-1), 1) := by decide +kernel
theorem dX11_gapOf_38 : decode cX11_gapOf 38 = .ok (.if_icmp .ne 7, 3) := by decide +kernel
theorem dX11_gapOf_41 : decode cX11_gapOf 41 = .ok (.iconst 0, 1) := by decide +kernel
theorem dX11_gapOf_42 : decode cX11_gapOf 42 = .ok (.goto 21, 3) := by decide +kernel
theorem dX11_gapOf_45 : decode cX11_gapOf 45 = .ok (.iload_n 3, 1) := by decide +kernel
theorem dX11_gapOf_46 : decode cX11_gapOf 46 = .ok (.aload_n 0, 1) := by decide +kernel
theorem dX11_gapOf_47 : decode cX11_gapOf 47 = .ok (.getfield 7, 3) := by decide +kernel
theorem dX11_gapOf_50 : decode cX11_gapOf 50 = .ok (.sipush 3389, 3) := by decide +kernel
theorem dX11_gapOf_53 : decode cX11_gapOf 53 = .ok (.iaload, 1) := by decide +kernel
theorem dX11_gapOf_54 : decode cX11_gapOf 54 = .ok (.isub, 1) := by decide +kernel
theorem dX11_gapOf_55 : decode cX11_gapOf 55 = .ok (.sipush 255, 3) := by decide +kernel
theorem dX11_gapOf_58 : decode cX11_gapOf 58 = .ok (.iadd, 1) := by decide +kernel
theorem dX11_gapOf_59 : decode cX11_gapOf 59 = .ok (.sipush 256, 3) := by decide +kernel
theorem dX11_gapOf_62 : decode cX11_gapOf 62 = .ok (.irem, 1) := by decide +kernel
theorem dX11_gapOf_63 : decode cX11_gapOf 63 = .ok (.invokevirtual 144, 3) := by decide +kernel
theorem dX11_gapOf_66 : decode cX11_gapOf 66 = .ok (.aload_n 0, 1) := by decide +kernel
theorem dX11_gapOf_67 : decode cX11_gapOf 67 = .ok (.getfield 7, 3) := by decide +kernel
theorem dX11_gapOf_70 : decode cX11_gapOf 70 = .ok (.sipush 3389, 3) := by decide +kernel
theorem dX11_gapOf_73 : decode cX11_gapOf 73 = .ok (.iload_n 3, 1) := by decide +kernel
theorem dX11_gapOf_74 : decode cX11_gapOf 74 = .ok (.iastore, 1) := by decide +kernel
theorem dX11_gapOf_75 : decode cX11_gapOf 75 = .ok (.aload_n 0, 1) := by decide +kernel
theorem dX11_gapOf_76 : decode cX11_gapOf 76 = .ok (.getfield 7, 3) := by decide +kernel
theorem dX11_gapOf_79 : decode cX11_gapOf 79 = .ok (.sipush 3390, 3) := by decide +kernel
theorem dX11_gapOf_82 : decode cX11_gapOf 82 = .ok (.iload_n 2, 1) := by decide +kernel
theorem dX11_gapOf_83 : decode cX11_gapOf 83 = .ok (.iadd, 1) := by decide +kernel
theorem dX11_gapOf_84 : decode cX11_gapOf 84 = .ok (.iaload, 1) := by decide +kernel
theorem dX11_gapOf_85 : decode cX11_gapOf 85 = .ok (.iconst (-1), 1) := by decide +kernel
theorem dX11_gapOf_86 : decode cX11_gapOf 86 = .ok (.if_icmp .ne 7, 3) := by decide +kernel
theorem dX11_gapOf_89 : decode cX11_gapOf 89 = .ok (.iconst 1, 1) := by decide +kernel
theorem dX11_gapOf_90 : decode cX11_gapOf 90 = .ok (.goto 4, 3) := by decide +kernel
theorem dX11_gapOf_93 : decode cX11_gapOf 93 = .ok (.iconst 0, 1) := by decide +kernel
theorem dX11_gapOf_94 : decode cX11_gapOf 94 = .ok (.istore 5, 2) := by decide +kernel
theorem dX11_gapOf_96 : decode cX11_gapOf 96 = .ok (.iload 5, 2) := by decide +kernel
theorem dX11_gapOf_98 : decode cX11_gapOf 98 = .ok (.ifCond .eq 7, 3) := by decide +kernel
theorem dX11_gapOf_101 : decode cX11_gapOf 101 = .ok (.iconst 1, 1) := by decide +kernel
theorem dX11_gapOf_102 : decode cX11_gapOf 102 = .ok (.goto 24, 3) := by decide +kernel
theorem dX11_gapOf_105 : decode cX11_gapOf 105 = .ok (.iload 4, 2) := by decide +kernel
theorem dX11_gapOf_107 : decode cX11_gapOf 107 = .ok (.aload_n 0, 1) := by decide +kernel
theorem dX11_gapOf_108 : decode cX11_gapOf 108 = .ok (.getfield 7, 3) := by decide +kernel
theorem dX11_gapOf_111 : decode cX11_gapOf 111 = .ok (.sipush 3390, 3) := by decide +kernel
theorem dX11_gapOf_114 : decode cX11_gapOf 114 = .ok (.iload_n 2, 1) := by decide +kernel
theorem dX11_gapOf_115 : decode cX11_gapOf 115 = .ok (.iadd, 1) := by decide +kernel
theorem dX11_gapOf_116 : decode cX11_gapOf 116 = .ok (.iaload, 1) := by decide +kernel
theorem dX11_gapOf_117 : decode cX11_gapOf 117 = .ok (.isub, 1) := by decide +kernel
theorem dX11_gapOf_118 : decode cX11_gapOf 118 = .ok (.sipush 255, 3) := by decide +kernel
theorem dX11_gapOf_121 : decode cX11_gapOf 121 = .ok (.iadd, 1) := by decide +kernel
theorem dX11_gapOf_122 : decode cX11_gapOf 122 = .ok (.sipush 256, 3) := by decide +kernel
theorem dX11_gapOf_125 : decode cX11_gapOf 125 = .ok (.irem, 1) := by decide +kernel
theorem dX11_gapOf_126 : decode cX11_gapOf 126 = .ok (.istore 6, 2) := by decide +kernel
theorem dX11_gapOf_128 : decode cX11_gapOf 128 = .ok (.aload_n 0, 1) := by decide +kernel
theorem dX11_gapOf_129 : decode cX11_gapOf 129 = .ok (.getfield 7, 3) := by decide +kernel
theorem dX11_gapOf_132 : decode cX11_gapOf 132 = .ok (.sipush 3390, 3) := by decide +kernel
theorem dX11_gapOf_135 : decode cX11_gapOf 135 = .ok (.iload_n 2, 1) := by decide +kernel
theorem dX11_gapOf_136 : decode cX11_gapOf 136 = .ok (.iadd, 1) := by decide +kernel
theorem dX11_gapOf_137 : decode cX11_gapOf 137 = .ok (.iload 4, 2) := by decide +kernel
theorem dX11_gapOf_139 : decode cX11_gapOf 139 = .ok (.iastore, 1) := by decide +kernel
theorem dX11_gapOf_140 : decode cX11_gapOf 140 = .ok (.iload_n 2, 1) := by decide +kernel
theorem dX11_gapOf_141 : decode cX11_gapOf 141 = .ok (.iconst 4, 1) := by decide +kernel
theorem dX11_gapOf_142 : decode cX11_gapOf 142 = .ok (.if_icmp .ge 41, 3) := by decide +kernel
theorem dX11_gapOf_145 : decode cX11_gapOf 145 = .ok (.aload_n 0, 1) := by decide +kernel
theorem dX11_gapOf_146 : decode cX11_gapOf 146 = .ok (.getfield 7, 3) := by decide +kernel
theorem dX11_gapOf_149 : decode cX11_gapOf 149 = .ok (.sipush 3395, 3) := by decide +kernel
theorem dX11_gapOf_152 : decode cX11_gapOf 152 = .ok (.iload_n 2, 1) := by decide +kernel
theorem dX11_gapOf_153 : decode cX11_gapOf 153 = .ok (.iadd, 1) := by decide +kernel
theorem dX11_gapOf_154 : decode cX11_gapOf 154 = .ok (.dup2, 1) := by decide +kernel
theorem dX11_gapOf_155 : decode cX11_gapOf 155 = .ok (.iaload, 1) := by decide +kernel
theorem dX11_gapOf_156 : decode cX11_gapOf 156 = .ok (.iconst 1, 1) := by decide +kernel
theorem dX11_gapOf_157 : decode cX11_gapOf 157 = .ok (.iadd, 1) := by decide +kernel
theorem dX11_gapOf_158 : decode cX11_gapOf 158 = .ok (.iastore, 1) := by decide +kernel
theorem dX11_gapOf_159 : decode cX11_gapOf 159 = .ok (.aload_n 0, 1) := by decide +kernel
theorem dX11_gapOf_160 : decode cX11_gapOf 160 = .ok (.getfield 7, 3) := by decide +kernel
theorem dX11_gapOf_163 : decode cX11_gapOf 163 = .ok (.sipush 3399, 3) := by decide +kernel
theorem dX11_gapOf_166 : decode cX11_gapOf 166 = .ok (.iload_n 2, 1) := by decide +kernel
theorem dX11_gapOf_167 : decode cX11_gapOf 167 = .ok (.iadd, 1) := by decide +kernel
theorem dX11_gapOf_168 : decode cX11_gapOf 168 = .ok (.dup2, 1) := by decide +kernel
theorem dX11_gapOf_169 : decode cX11_gapOf 169 = .ok (.iaload, 1) := by decide +kernel
theorem dX11_gapOf_170 : decode cX11_gapOf 170 = .ok (.iload 5, 2) := by decide +kernel
theorem dX11_gapOf_172 : decode cX11_gapOf 172 = .ok (.ifCond .eq 7, 3) := by decide +kernel
theorem dX11_gapOf_175 : decode cX11_gapOf 175 = .ok (.iconst 0, 1) := by decide +kernel
theorem dX11_gapOf_176 : decode cX11_gapOf 176 = .ok (.goto 5, 3) := by decide +kernel
theorem dX11_gapOf_179 : decode cX11_gapOf 179 = .ok (.iload 6, 2) := by decide +kernel
theorem dX11_gapOf_181 : decode cX11_gapOf 181 = .ok (.iadd, 1) := by decide +kernel
theorem dX11_gapOf_182 : decode cX11_gapOf 182 = .ok (.iastore, 1) := by decide +kernel
theorem dX11_gapOf_183 : decode cX11_gapOf 183 = .ok (.iload 6, 2) := by decide +kernel
theorem dX11_gapOf_185 : decode cX11_gapOf 185 = .ok (.ireturn, 1) := by decide +kernel
theorem dX11_takesData_0 : decode cX11_takesData 0 = .ok (.aload_n 0, 1) := by decide +kernel
theorem dX11_takesData_1 : decode cX11_takesData 1 = .ok (.getfield 7, 3) := by decide +kernel
theorem dX11_takesData_4 : decode cX11_takesData 4 = .ok (.iload_n 1, 1) := by decide +kernel
theorem dX11_takesData_5 : decode cX11_takesData 5 = .ok (.iaload, 1) := by decide +kernel
theorem dX11_takesData_6 : decode cX11_takesData 6 = .ok (.istore_n 3, 1) := by decide +kernel
theorem dX11_takesData_7 : decode cX11_takesData 7 = .ok (.iconst 0, 1) := by decide +kernel
theorem dX11_takesData_8 : decode cX11_takesData 8 = .ok (.istore 4, 2) := by decide +kernel
theorem dX11_takesData_10 : decode cX11_takesData 10 = .ok (.aload_n 0, 1) := by decide +kernel
theorem dX11_takesData_11 : decode cX11_takesData 11 = .ok (.getfield 7, 3) := by decide +kernel
theorem dX11_takesData_14 : decode cX11_takesData 14 = .ok (.sipush 3403, 3) := by decide +kernel
theorem dX11_takesData_17 : decode cX11_takesData 17 = .ok (.iload_n 2, 1) := by decide +kernel
theorem dX11_takesData_18 : decode cX11_takesData 18 = .ok (.iadd, 1) := by decide +kernel
theorem dX11_takesData_19 : decode cX11_takesData 19 = .ok (.iaload, 1) := by decide +kernel
theorem dX11_takesData_20 : decode cX11_takesData 20 = .ok (.ifCond .ne 52, 3) := by decide +kernel
theorem dX11_takesData_23 : decode cX11_takesData 23 = .ok (.aload_n 0, 1) := by decide +kernel
theorem dX11_takesData_24 : decode cX11_takesData 24 = .ok (.getfield 7, 3) := by decide +kernel
theorem dX11_takesData_27 : decode cX11_takesData 27 = .ok (.iload_n 1, 1) := by decide +kernel
theorem dX11_takesData_28 : decode cX11_takesData 28 = .ok (.iconst 4, 1) := by decide +kernel
theorem dX11_takesData_29 : decode cX11_takesData 29 = .ok (.iadd, 1) := by decide +kernel
theorem dX11_takesData_30 : decode cX11_takesData 30 = .ok (.iconst 3, 1) := by decide +kernel
theorem dX11_takesData_31 : decode cX11_takesData 31 = .ok (.iadd, 1) := by decide +kernel
theorem dX11_takesData_32 : decode cX11_takesData 32 = .ok (.iaload, 1) := by decide +kernel
theorem dX11_takesData_33 : decode cX11_takesData 33 = .ok (.istore 5, 2) := by decide +kernel
theorem dX11_takesData_35 : decode cX11_takesData 35 = .ok (.iload 5, 2) := by decide +kernel
theorem dX11_takesData_37 : decode cX11_takesData 37 = .ok (.iload_n 3, 1) := by decide +kernel
theorem dX11_takesData_38 : decode cX11_takesData 38 = .ok (.if_icmp .ge 8, 3) := by decide +kernel
theorem dX11_takesData_41 : decode cX11_takesData 41 = .ok (.iload 5, 2) := by decide +kernel
theorem dX11_takesData_43 : decode cX11_takesData 43 = .ok (.goto 4, 3) := by decide +kernel
theorem dX11_takesData_46 : decode cX11_takesData 46 = .ok (.iload_n 3, 1) := by decide +kernel
theorem dX11_takesData_47 : decode cX11_takesData 47 = .ok (.istore 4, 2) := by decide +kernel
theorem dX11_takesData_49 : decode cX11_takesData 49 = .ok (.aload_n 0, 1) := by decide +kernel
theorem dX11_takesData_50 : decode cX11_takesData 50 = .ok (.getfield 7, 3) := by decide +kernel
theorem dX11_takesData_53 : decode cX11_takesData 53 = .ok (.sipush 3403, 3) := by decide +kernel
theorem dX11_takesData_56 : decode cX11_takesData 56 = .ok (.iload_n 2, 1) := by decide +kernel
theorem dX11_takesData_57 : decode cX11_takesData 57 = .ok (.iadd, 1) := by decide +kernel
theorem dX11_takesData_58 : decode cX11_takesData 58 = .ok (.iload 5, 2) := by decide +kernel
theorem dX11_takesData_60 : decode cX11_takesData 60 = .ok (.sipush 255, 3) := by decide +kernel
theorem dX11_takesData_63 : decode cX11_takesData 63 = .ok (.if_icmp .ne 7, 3) := by decide +kernel
theorem dX11_takesData_66 : decode cX11_takesData 66 = .ok (.iconst 0, 1) := by decide +kernel
theorem dX11_takesData_67 : decode cX11_takesData 67 = .ok (.goto 4, 3) := by decide +kernel
theorem dX11_takesData_70 : decode cX11_takesData 70 = .ok (.iconst 1, 1) := by decide +kernel
theorem dX11_takesData_71 : decode cX11_takesData 71 = .ok (.iastore, 1) := by decide +kernel
theorem dX11_takesData_72 : decode cX11_takesData 72 = .ok (.iconst 0, 1) := by decide +kernel
theorem dX11_takesData_73 : decode cX11_takesData 73 = .ok (.istore 5, 2) := by decide +kernel
theorem dX11_takesData_75 : decode cX11_takesData 75 = .ok (.iload 4, 2) := by decide +kernel
theorem dX11_takesData_77 : decode cX11_takesData 77 = .ok (.istore 6, 2) := by decide +kernel
theorem dX11_takesData_79 : decode cX11_takesData 79 = .ok (.iload 6, 2) := by decide +kernel
theorem dX11_takesData_81 : decode cX11_takesData 81 = .ok (.iload_n 3, 1) := by decide +kernel
theorem dX11_takesData_82 : decode cX11_takesData 82 = .ok (.if_icmp .ge 40, 3) := by decide +kernel
theorem dX11_takesData_85 : decode cX11_takesData 85 = .ok (.iload 5, 2) := by decide +kernel
theorem dX11_takesData_87 : decode cX11_takesData 87 = .ok (.aload_n 0, 1) := by decide +kernel
theorem dX11_takesData_88 : decode cX11_takesData 88 = .ok (.iload_n 2, 1) := by decide +kernel
theorem dX11_takesData_89 : decode cX11_takesData 89 = .ok (.aload_n 0, 1) := by decide +kernel
theorem dX11_takesData_90 : decode cX11_takesData 90 = .ok (.getfield 7, 3) := by decide +kernel
theorem dX11_takesData_93 : decode cX11_takesData 93 = .ok (.iload_n 1, 1) := by decide +kernel
theorem dX11_takesData_94 : decode cX11_takesData 94 = .ok (.iconst 4, 1) := by decide +kernel
theorem dX11_takesData_95 : decode cX11_takesData 95 = .ok (.iadd, 1) := by decide +kernel
theorem dX11_takesData_96 : decode cX11_takesData 96 = .ok (.iconst 4, 1) := by decide +kernel
theorem dX11_takesData_97 : decode cX11_takesData 97 = .ok (.iadd, 1) := by decide +kernel
theorem dX11_takesData_98 : decode cX11_takesData 98 = .ok (.iload 6, 2) := by decide +kernel
theorem dX11_takesData_100 : decode cX11_takesData 100 = .ok (.iadd, 1) := by decide +kernel
theorem dX11_takesData_101 : decode cX11_takesData 101 = .ok (.iaload, 1) := by decide +kernel
theorem dX11_takesData_102 : decode cX11_takesData 102 = .ok (.invokevirtual 151, 3) := by decide +kernel
theorem dX11_takesData_105 : decode cX11_takesData 105 = .ok (.ifCond .eq 7, 3) := by decide +kernel
theorem dX11_takesData_108 : decode cX11_takesData 108 = .ok (.iconst 1, 1) := by decide +kernel
theorem dX11_takesData_109 : decode cX11_takesData 109 = .ok (.goto 4, 3) := by decide +kernel
theorem dX11_takesData_112 : decode cX11_takesData 112 = .ok (.iconst 0, 1) := by decide +kernel
theorem dX11_takesData_113 : decode cX11_takesData 113 = .ok (.iadd, 1) := by decide +kernel
theorem dX11_takesData_114 : decode cX11_takesData 114 = .ok (.istore 5, 2) := by decide +kernel
theorem dX11_takesData_116 : decode cX11_takesData 116 = .ok (.iinc 6 1, 3) := by decide +kernel
theorem dX11_takesData_119 : decode cX11_takesData 119 = .ok (.goto (-40), 3) := by decide +kernel
theorem dX11_takesData_122 : decode cX11_takesData 122 = .ok (.iload 5, 2) := by decide +kernel
theorem dX11_takesData_124 : decode cX11_takesData 124 = .ok (.ireturn, 1) := by decide +kernel
theorem dX11_receives_0 : decode cX11_receives 0 = .ok (.aload_n 0, 1) := by decide +kernel
theorem dX11_receives_1 : decode cX11_receives 1 = .ok (.iload_n 1, 1) := by decide +kernel
theorem dX11_receives_2 : decode cX11_receives 2 = .ok (.invokevirtual 100, 3) := by decide +kernel
theorem dX11_receives_5 : decode cX11_receives 5 = .ok (.istore_n 2, 1) := by decide +kernel
theorem dX11_receives_6 : decode cX11_receives 6 = .ok (.aload_n 0, 1) := by decide +kernel
theorem dX11_receives_7 : decode cX11_receives 7 = .ok (.getfield 7, 3) := by decide +kernel
theorem dX11_receives_10 : decode cX11_receives 10 = .ok (.iload_n 2, 1) := by decide +kernel
theorem dX11_receives_11 : decode cX11_receives 11 = .ok (.iconst 4, 1) := by decide +kernel
theorem dX11_receives_12 : decode cX11_receives 12 = .ok (.iadd, 1) := by decide +kernel
theorem dX11_receives_13 : decode cX11_receives 13 = .ok (.iconst 1, 1) := by decide +kernel
theorem dX11_receives_14 : decode cX11_receives 14 = .ok (.iadd, 1) := by decide +kernel
theorem dX11_receives_15 : decode cX11_receives 15 = .ok (.iaload, 1) := by decide +kernel
theorem dX11_receives_16 : decode cX11_receives 16 = .ok (.istore_n 3, 1) := by decide +kernel
theorem dX11_receives_17 : decode cX11_receives 17 = .ok (.aload_n 0, 1) := by decide +kernel
theorem dX11_receives_18 : decode cX11_receives 18 = .ok (.iload_n 1, 1) := by decide +kernel
theorem dX11_receives_19 : decode cX11_receives 19 = .ok (.invokevirtual 141, 3) := by decide +kernel
theorem dX11_receives_22 : decode cX11_receives 22 = .ok (.aload_n 0, 1) := by decide +kernel
theorem dX11_receives_23 : decode cX11_receives 23 = .ok (.iload_n 1, 1) := by decide +kernel
theorem dX11_receives_24 : decode cX11_receives 24 = .ok (.invokevirtual 105, 3) := by decide +kernel
theorem dX11_receives_27 : decode cX11_receives 27 = .ok (.if_icmp .ne 16, 3) := by decide +kernel
theorem dX11_receives_30 : decode cX11_receives 30 = .ok (.iload_n 3, 1) := by decide +kernel
theorem dX11_receives_31 : decode cX11_receives 31 = .ok (.invokestatic 52, 3) := by decide +kernel
theorem dX11_receives_34 : decode cX11_receives 34 = .ok (.ifCond .ne 17, 3) := by decide +kernel
theorem dX11_receives_37 : decode cX11_receives 37 = .ok (.iload_n 3, 1) := by decide +kernel
theorem dX11_receives_38 : decode cX11_receives 38 = .ok (.bipush 7, 2) := by decide +kernel
theorem dX11_receives_40 : decode cX11_receives 40 = .ok (.if_icmp .eq 11, 3) := by decide +kernel
theorem dX11_receives_43 : decode cX11_receives 43 = .ok (.aload_n 0, 1) := by decide +kernel
theorem dX11_receives_44 : decode cX11_receives 44 = .ok (.iconst 1, 1) := by decide +kernel
theorem dX11_receives_45 : decode cX11_receives 45 = .ok (.iconst 1, 1) := by decide +kernel
theorem dX11_receives_46 : decode cX11_receives 46 = .ok (.invokevirtual 144, 3) := by decide +kernel
theorem dX11_receives_49 : decode cX11_receives 49 = .ok (.iconst 0, 1) := by decide +kernel
theorem dX11_receives_50 : decode cX11_receives 50 = .ok (.ireturn, 1) := by decide +kernel
theorem dX11_receives_51 : decode cX11_receives 51 = .ok (.aload_n 0, 1) := by decide +kernel
theorem dX11_receives_52 : decode cX11_receives 52 = .ok (.iload_n 2, 1) := by decide +kernel
theorem dX11_receives_53 : decode cX11_receives 53 = .ok (.iload_n 3, 1) := by decide +kernel
theorem dX11_receives_54 : decode cX11_receives 54 = .ok (.bipush 7, 2) := by decide +kernel
theorem dX11_receives_56 : decode cX11_receives 56 = .ok (.if_icmp .ne 7, 3) := by decide +kernel
theorem dX11_receives_59 : decode cX11_receives 59 = .ok (.iconst 4, 1) := by decide +kernel
theorem dX11_receives_60 : decode cX11_receives 60 = .ok (.goto 4, 3) := by decide +kernel
theorem dX11_receives_63 : decode cX11_receives 63 = .ok (.iload_n 3, 1) := by decide +kernel
theorem dX11_receives_64 : decode cX11_receives 64 = .ok (.invokevirtual 154, 3) := by decide +kernel
theorem dX11_receives_67 : decode cX11_receives 67 = .ok (.istore 4, 2) := by decide +kernel
theorem dX11_receives_69 : decode cX11_receives 69 = .ok (.iload_n 3, 1) := by decide +kernel
theorem dX11_receives_70 : decode cX11_receives 70 = .ok (.bipush 7, 2) := by decide +kernel
theorem dX11_receives_72 : decode cX11_receives 72 = .ok (.if_icmp .ne 11, 3) := by decide +kernel
theorem dX11_receives_75 : decode cX11_receives 75 = .ok (.aload_n 0, 1) := by decide +kernel
theorem dX11_receives_76 : decode cX11_receives 76 = .ok (.iconst 5, 1) := by decide +kernel
theorem dX11_receives_77 : decode cX11_receives 77 = .ok (.iconst 1, 1) := by decide +kernel
theorem dX11_receives_78 : decode cX11_receives 78 = .ok (.invokevirtual 144, 3) := by decide +kernel
theorem dX11_receives_81 : decode cX11_receives 81 = .ok (.iconst 0, 1) := by decide +kernel
theorem dX11_receives_82 : decode cX11_receives 82 = .ok (.ireturn, 1) := by decide +kernel
theorem dX11_receives_83 : decode cX11_receives 83 = .ok (.iload 4, 2) := by decide +kernel
theorem dX11_receives_85 : decode cX11_receives 85 = .ok (.ifCond .le 48, 3) := by decide +kernel
theorem dX11_receives_88 : decode cX11_receives 88 = .ok (.aload_n 0, 1) := by decide +kernel
theorem dX11_receives_89 : decode cX11_receives 89 = .ok (.iconst 3, 1) := by decide +kernel
theorem dX11_receives_90 : decode cX11_receives 90 = .ok (.aload_n 0, 1) := by decide +kernel
theorem dX11_receives_91 : decode cX11_receives 91 = .ok (.getfield 7, 3) := by decide +kernel
theorem dX11_receives_94 : decode cX11_receives 94 = .ok (.sipush 3407, 3) := by decide +kernel
theorem dX11_receives_97 : decode cX11_receives 97 = .ok (.iload_n 3, 1) := by decide +kernel
theorem dX11_receives_98 : decode cX11_receives 98 = .ok (.iadd, 1) := by decide +kernel
theorem dX11_receives_99 : decode cX11_receives 99 = .ok (.iaload, 1) := by decide +kernel
theorem dX11_receives_100 : decode cX11_receives 100 = .ok (.ifCond .le 7, 3) := by decide +kernel
theorem dX11_receives_103 : decode cX11_receives 103 = .ok (.iconst 1, 1) := by decide +kernel
theorem dX11_receives_104 : decode cX11_receives 104 = .ok (.goto 4, 3) := by decide +kernel
theorem dX11_receives_107 : decode cX11_receives 107 = .ok (.iconst 0, 1) := by decide +kernel
theorem dX11_receives_108 : decode cX11_receives 108 = .ok (.invokevirtual 144, 3) := by decide +kernel
theorem dX11_receives_111 : decode cX11_receives 111 = .ok (.aload_n 0, 1) := by decide +kernel
theorem dX11_receives_112 : decode cX11_receives 112 = .ok (.getfield 7, 3) := by decide +kernel
theorem dX11_receives_115 : decode cX11_receives 115 = .ok (.sipush 3407, 3) := by decide +kernel
theorem dX11_receives_118 : decode cX11_receives 118 = .ok (.iload_n 3, 1) := by decide +kernel
theorem dX11_receives_119 : decode cX11_receives 119 = .ok (.iadd, 1) := by decide +kernel
theorem dX11_receives_120 : decode cX11_receives 120 = .ok (.iconst 0, 1) := by decide +kernel
theorem dX11_receives_121 : decode cX11_receives 121 = .ok (.iastore, 1) := by decide +kernel
theorem dX11_receives_122 : decode cX11_receives 122 = .ok (.aload_n 0, 1) := by decide +kernel
theorem dX11_receives_123 : decode cX11_receives 123 = .ok (.getfield 7, 3) := by decide +kernel
theorem dX11_receives_126 : decode cX11_receives 126 = .ok (.sipush 3403, 3) := by decide +kernel
theorem dX11_receives_129 : decode cX11_receives 129 = .ok (.iload_n 3, 1) := by decide +kernel
theorem dX11_receives_130 : decode cX11_receives 130 = .ok (.iadd, 1) := by decide +kernel
theorem dX11_receives_131 : decode cX11_receives 131 = .ok (.iconst 0, 1) := by decide +kernel
theorem dX11_receives_132 : decode cX11_receives 132 = .ok (.iastore, 1) := by decide +kernel
theorem dX11_receives_133 : decode cX11_receives 133 = .ok (.iload_n 3, 1) := by decide +kernel
theorem dX11_receives_134 : decode cX11_receives 134 = .ok (.ifCond .ne 39, 3) := by decide +kernel
theorem dX11_receives_137 : decode cX11_receives 137 = .ok (.aload_n 0, 1) := by decide +kernel
theorem dX11_receives_138 : decode cX11_receives 138 = .ok (.getfield 7, 3) := by decide +kernel
theorem dX11_receives_141 : decode cX11_receives 141 = .ok (.iload_n 2, 1) := by decide +kernel
theorem dX11_receives_142 : decode cX11_receives 142 = .ok (.iconst 4, 1) := by decide +kernel
theorem dX11_receives_143 : decode cX11_receives 143 = .ok (.iadd, 1) := by decide +kernel
theorem dX11_receives_144 : decode cX11_receives 144 = .ok (.iconst 2, 1) := by decide +kernel
theorem dX11_receives_145 : decode cX11_receives 145 = .ok (.iadd, 1) := by decide +kernel
theorem dX11_receives_146 : decode cX11_receives 146 = .ok (.iaload, 1) := by decide +kernel
theorem dX11_receives_147 : decode cX11_receives 147 = .ok (.bipush 8, 2) := by decide +kernel
theorem dX11_receives_149 : decode cX11_receives 149 = .ok (.irem, 1) := by decide +kernel
theorem dX11_receives_150 : decode cX11_receives 150 = .ok (.ifCond .ne 23, 3) := by decide +kernel
theorem dX11_receives_153 : decode cX11_receives 153 = .ok (.aload_n 0, 1) := by decide +kernel
theorem dX11_receives_154 : decode cX11_receives 154 = .ok (.aload_n 0, 1) := by decide +kernel
theorem dX11_receives_155 : decode cX11_receives 155 = .ok (.getfield 7, 3) := by decide +kernel
theorem dX11_receives_158 : decode cX11_receives 158 = .ok (.iload_n 2, 1) := by decide +kernel
theorem dX11_receives_159 : decode cX11_receives 159 = .ok (.iconst 2, 1) := by decide +kernel
theorem dX11_receives_160 : decode cX11_receives 160 = .ok (.iadd, 1) := by decide +kernel
theorem dX11_receives_161 : decode cX11_receives 161 = .ok (.iaload, 1) := by decide +kernel
theorem dX11_receives_162 : decode cX11_receives 162 = .ok (.aload_n 0, 1) := by decide +kernel
theorem dX11_receives_163 : decode cX11_receives 163 = .ok (.getfield 7, 3) := by decide +kernel
theorem dX11_receives_166 : decode cX11_receives 166 = .ok (.iload_n 2, 1) := by decide +kernel
theorem dX11_receives_167 : decode cX11_receives 167 = .ok (.iconst 3, 1) := by decide +kernel
theorem dX11_receives_168 : decode cX11_receives 168 = .ok (.iadd, 1) := by decide +kernel
theorem dX11_receives_169 : decode cX11_receives 169 = .ok (.iaload, 1) := by decide +kernel
theorem dX11_receives_170 : decode cX11_receives 170 = .ok (.invokevirtual 157, 3) := by decide +kernel
theorem dX11_receives_173 : decode cX11_receives 173 = .ok (.aload_n 0, 1) := by decide +kernel
theorem dX11_receives_174 : decode cX11_receives 174 = .ok (.iload_n 2, 1) := by decide +kernel
theorem dX11_receives_175 : decode cX11_receives 175 = .ok (.iload_n 3, 1) := by decide +kernel
theorem dX11_receives_176 : decode cX11_receives 176 = .ok (.invokevirtual 160, 3) := by decide +kernel
theorem dX11_receives_179 : decode cX11_receives 179 = .ok (.ireturn, 1) := by decide +kernel
theorem dX11_receive_0 : decode cX11_receive 0 = .ok (.aload_n 0, 1) := by decide +kernel
theorem dX11_receive_1 : decode cX11_receive 1 = .ok (.iload_n 1, 1) := by decide +kernel
theorem dX11_receive_2 : decode cX11_receive 2 = .ok (.i2l, 1) := by decide +kernel
theorem dX11_receive_3 : decode cX11_receive 3 = .ok (.lconst 1, 1) := by decide +kernel
theorem dX11_receive_4 : decode cX11_receive 4 = .ok (.ldc2_w 125, 3) := by decide +kernel
theorem dX11_receive_7 : decode cX11_receive 7 = .ok (.invokestatic 23, 3) := by decide +kernel
theorem dX11_receive_10 : decode cX11_receive 10 = .ok (.ifCond .ne 7, 3) := by decide +kernel
theorem dX11_receive_13 : decode cX11_receive 13 = .ok (.iconst 1, 1) := by decide +kernel
theorem dX11_receive_14 : decode cX11_receive 14 = .ok (.goto 20, 3) := by decide +kernel
theorem dX11_receive_17 : decode cX11_receive 17 = .ok (.iload_n 1, 1) := by decide +kernel
theorem dX11_receive_18 : decode cX11_receive 18 = .ok (.aload_n 0, 1) := by decide +kernel
theorem dX11_receive_19 : decode cX11_receive 19 = .ok (.getfield 7, 3) := by decide +kernel
theorem dX11_receive_22 : decode cX11_receive 22 = .ok (.sipush 382, 3) := by decide +kernel
theorem dX11_receive_25 : decode cX11_receive 25 = .ok (.iaload, 1) := by decide +kernel
theorem dX11_receive_26 : decode cX11_receive 26 = .ok (.if_icmp .le 7, 3) := by decide +kernel
theorem dX11_receive_29 : decode cX11_receive 29 = .ok (.iconst 2, 1) := by decide +kernel
theorem dX11_receive_30 : decode cX11_receive 30 = .ok (.goto 4, 3) := by decide +kernel
theorem dX11_receive_33 : decode cX11_receive 33 = .ok (.iconst 0, 1) := by decide +kernel
theorem dX11_receive_34 : decode cX11_receive 34 = .ok (.invokevirtual 30, 3) := by decide +kernel
theorem dX11_receive_37 : decode cX11_receive 37 = .ok (.ifCond .eq 5, 3) := by decide +kernel
theorem dX11_receive_40 : decode cX11_receive 40 = .ok (.iconst 0, 1) := by decide +kernel
theorem dX11_receive_41 : decode cX11_receive 41 = .ok (.ireturn, 1) := by decide +kernel
theorem dX11_receive_42 : decode cX11_receive 42 = .ok (.aload_n 0, 1) := by decide +kernel
theorem dX11_receive_43 : decode cX11_receive 43 = .ok (.invokevirtual 49, 3) := by decide +kernel
theorem dX11_receive_46 : decode cX11_receive 46 = .ok (.iconst 0, 1) := by decide +kernel
theorem dX11_receive_47 : decode cX11_receive 47 = .ok (.istore_n 2, 1) := by decide +kernel
theorem dX11_receive_48 : decode cX11_receive 48 = .ok (.iconst 0, 1) := by decide +kernel
theorem dX11_receive_49 : decode cX11_receive 49 = .ok (.istore_n 3, 1) := by decide +kernel
theorem dX11_receive_50 : decode cX11_receive 50 = .ok (.iload_n 3, 1) := by decide +kernel
theorem dX11_receive_51 : decode cX11_receive 51 = .ok (.iload_n 1, 1) := by decide +kernel
theorem dX11_receive_52 : decode cX11_receive 52 = .ok (.if_icmp .ge 37, 3) := by decide +kernel
theorem dX11_receive_55 : decode cX11_receive 55 = .ok (.iload_n 2, 1) := by decide +kernel
theorem dX11_receive_56 : decode cX11_receive 56 = .ok (.aload_n 0, 1) := by decide +kernel
theorem dX11_receive_57 : decode cX11_receive 57 = .ok (.getfield 7, 3) := by decide +kernel
theorem dX11_receive_60 : decode cX11_receive 60 = .ok (.aload_n 0, 1) := by decide +kernel
theorem dX11_receive_61 : decode cX11_receive 61 = .ok (.iload_n 3, 1) := by decide +kernel
theorem dX11_receive_62 : decode cX11_receive 62 = .ok (.invokevirtual 100, 3) := by decide +kernel
theorem dX11_receive_65 : decode cX11_receive 65 = .ok (.iconst 1, 1) := by decide +kernel
theorem dX11_receive_66 : decode cX11_receive 66 = .ok (.iadd, 1) := by decide +kernel
theorem dX11_receive_67 : decode cX11_receive 67 = .ok (.iaload, 1) := by decide +kernel
theorem dX11_receive_68 : decode cX11_receive 68 = .ok (.iconst 1, 1) := by decide +kernel
theorem dX11_receive_69 : decode cX11_receive 69 = .ok (.if_icmp .ne 7, 3) := by decide +kernel
theorem dX11_receive_72 : decode cX11_receive 72 = .ok (.iconst 0, 1) := by decide +kernel
theorem dX11_receive_73 : decode cX11_receive 73 = .ok (.goto 8, 3) := by decide +kernel
theorem dX11_receive_76 : decode cX11_receive 76 = .ok (.aload_n 0, 1) := by decide +kernel
theorem dX11_receive_77 : decode cX11_receive 77 = .ok (.iload_n 3, 1) := by decide +kernel
theorem dX11_receive_78 : decode cX11_receive 78 = .ok (.invokevirtual 163, 3) := by decide +kernel
theorem dX11_receive_81 : decode cX11_receive 81 = .ok (.iadd, 1) := by decide +kernel
theorem dX11_receive_82 : decode cX11_receive 82 = .ok (.istore_n 2, 1) := by decide +kernel
theorem dX11_receive_83 : decode cX11_receive 83 = .ok (.iinc 3 1, 3) := by decide +kernel
theorem dX11_receive_86 : decode cX11_receive 86 = .ok (.goto (-36), 3) := by decide +kernel
theorem dX11_receive_89 : decode cX11_receive 89 = .ok (.aload_n 0, 1) := by decide +kernel
theorem dX11_receive_90 : decode cX11_receive 90 = .ok (.getfield 7, 3) := by decide +kernel
theorem dX11_receive_93 : decode cX11_receive 93 = .ok (.sipush 382, 3) := by decide +kernel
theorem dX11_receive_96 : decode cX11_receive 96 = .ok (.dup2, 1) := by decide +kernel
theorem dX11_receive_97 : decode cX11_receive 97 = .ok (.iaload, 1) := by decide +kernel
theorem dX11_receive_98 : decode cX11_receive 98 = .ok (.iload_n 1, 1) := by decide +kernel
theorem dX11_receive_99 : decode cX11_receive 99 = .ok (.isub, 1) := by decide +kernel
theorem dX11_receive_100 : decode cX11_receive 100 = .ok (.iastore, 1) := by decide +kernel
theorem dX11_receive_101 : decode cX11_receive 101 = .ok (.sipush 383, 3) := by decide +kernel
theorem dX11_receive_104 : decode cX11_receive 104 = .ok (.istore_n 3, 1) := by decide +kernel
theorem dX11_receive_105 : decode cX11_receive 105 = .ok (.iload_n 3, 1) := by decide +kernel
theorem dX11_receive_106 : decode cX11_receive 106 = .ok (.sipush 383, 3) := by decide +kernel
theorem dX11_receive_109 : decode cX11_receive 109 = .ok (.bipush 50, 2) := by decide +kernel
theorem dX11_receive_111 : decode cX11_receive 111 = .ok (.aload_n 0, 1) := by decide +kernel
theorem dX11_receive_112 : decode cX11_receive 112 = .ok (.getfield 7, 3) := by decide +kernel
theorem dX11_receive_115 : decode cX11_receive 115 = .ok (.sipush 382, 3) := by decide +kernel
theorem dX11_receive_118 : decode cX11_receive 118 = .ok (.iaload, 1) := by decide +kernel
theorem dX11_receive_119 : decode cX11_receive 119 = .ok (.imul, 1) := by decide +kernel
theorem dX11_receive_120 : decode cX11_receive 120 = .ok (.iadd, 1) := by decide +kernel
theorem dX11_receive_121 : decode cX11_receive 121 = .ok (.if_icmp .ge 26, 3) := by decide +kernel
theorem dX11_receive_124 : decode cX11_receive 124 = .ok (.aload_n 0, 1) := by decide +kernel
theorem dX11_receive_125 : decode cX11_receive 125 = .ok (.getfield 7, 3) := by decide +kernel
theorem dX11_receive_128 : decode cX11_receive 128 = .ok (.iload_n 3, 1) := by decide +kernel
theorem dX11_receive_129 : decode cX11_receive 129 = .ok (.aload_n 0, 1) := by decide +kernel
theorem dX11_receive_130 : decode cX11_receive 130 = .ok (.getfield 7, 3) := by decide +kernel
theorem dX11_receive_133 : decode cX11_receive 133 = .ok (.iload_n 3, 1) := by decide +kernel
theorem dX11_receive_134 : decode cX11_receive 134 = .ok (.bipush 50, 2) := by decide +kernel
theorem dX11_receive_136 : decode cX11_receive 136 = .ok (.iload_n 1, 1) := by decide +kernel
theorem dX11_receive_137 : decode cX11_receive 137 = .ok (.imul, 1) := by decide +kernel
theorem dX11_receive_138 : decode cX11_receive 138 = .ok (.iadd, 1) := by decide +kernel
theorem dX11_receive_139 : decode cX11_receive 139 = .ok (.iaload, 1) := by decide +kernel
theorem dX11_receive_140 : decode cX11_receive 140 = .ok (.iastore, 1) := by decide +kernel
theorem dX11_receive_141 : decode cX11_receive 141 = .ok (.iinc 3 1, 3) := by decide +kernel
theorem dX11_receive_144 : decode cX11_receive 144 = .ok (.goto (-39), 3) := by decide +kernel
theorem dX11_receive_147 : decode cX11_receive 147 = .ok (.iload_n 2, 1) := by decide +kernel
theorem dX11_receive_148 : decode cX11_receive 148 = .ok (.ireturn, 1) := by decide +kernel
theorem dX11_count_0 : decode cX11_count 0 = .ok (.aload_n 0, 1) := by decide +kernel
theorem dX11_count_1 : decode cX11_count 1 = .ok (.iload_n 1, 1) := by decide +kernel
theorem dX11_count_2 : decode cX11_count 2 = .ok (.i2l, 1) := by decide +kernel
theorem dX11_count_3 : decode cX11_count 3 = .ok (.lconst 0, 1) := by decide +kernel
theorem dX11_count_4 : decode cX11_count 4 = .ok (.ldc2_w 166, 3) := by decide +kernel
theorem dX11_count_7 : decode cX11_count 7 = .ok (.invokestatic 23, 3) := by decide +kernel
theorem dX11_count_10 : decode cX11_count 10 = .ok (.ifCond .eq 7, 3) := by decide +kernel
theorem dX11_count_13 : decode cX11_count 13 = .ok (.iconst 0, 1) := by decide +kernel
theorem dX11_count_14 : decode cX11_count 14 = .ok (.goto 4, 3) := by decide +kernel
theorem dX11_count_17 : decode cX11_count 17 = .ok (.iconst 1, 1) := by decide +kernel
theorem dX11_count_18 : decode cX11_count 18 = .ok (.invokevirtual 30, 3) := by decide +kernel
theorem dX11_count_21 : decode cX11_count 21 = .ok (.ifCond .eq 7, 3) := by decide +kernel
theorem dX11_count_24 : decode cX11_count 24 = .ok (.iconst 0, 1) := by decide +kernel
theorem dX11_count_25 : decode cX11_count 25 = .ok (.goto 13, 3) := by decide +kernel
theorem dX11_count_28 : decode cX11_count 28 = .ok (.aload_n 0, 1) := by decide +kernel
theorem dX11_count_29 : decode cX11_count 29 = .ok (.getfield 7, 3) := by decide +kernel
theorem dX11_count_32 : decode cX11_count 32 = .ok (.sipush 3383, 3) := by decide +kernel
theorem dX11_count_35 : decode cX11_count 35 = .ok (.iload_n 1, 1) := by decide +kernel
theorem dX11_count_36 : decode cX11_count 36 = .ok (.iadd, 1) := by decide +kernel
theorem dX11_count_37 : decode cX11_count 37 = .ok (.iaload, 1) := by decide +kernel
theorem dX11_count_38 : decode cX11_count 38 = .ok (.ireturn, 1) := by decide +kernel
theorem dX11_receivedOf_0 : decode cX11_receivedOf 0 = .ok (.iload_n 2, 1) := by decide +kernel
theorem dX11_receivedOf_1 : decode cX11_receivedOf 1 = .ok (.ifCond .ne 16, 3) := by decide +kernel
theorem dX11_receivedOf_4 : decode cX11_receivedOf 4 = .ok (.aload_n 0, 1) := by decide +kernel
theorem dX11_receivedOf_5 : decode cX11_receivedOf 5 = .ok (.getfield 7, 3) := by decide +kernel
theorem dX11_receivedOf_8 : decode cX11_receivedOf 8 = .ok (.sipush 3395, 3) := by decide +kernel
theorem dX11_receivedOf_11 : decode cX11_receivedOf 11 = .ok (.iload_n 1, 1) := by decide +kernel
theorem dX11_receivedOf_12 : decode cX11_receivedOf 12 = .ok (.iadd, 1) := by decide +kernel
theorem dX11_receivedOf_13 : decode cX11_receivedOf 13 = .ok (.iaload, 1) := by decide +kernel
theorem dX11_receivedOf_14 : decode cX11_receivedOf 14 = .ok (.goto 49, 3) := by decide +kernel
theorem dX11_receivedOf_17 : decode cX11_receivedOf 17 = .ok (.iload_n 2, 1) := by decide +kernel
theorem dX11_receivedOf_18 : decode cX11_receivedOf 18 = .ok (.iconst 1, 1) := by decide +kernel
theorem dX11_receivedOf_19 : decode cX11_receivedOf 19 = .ok (.if_icmp .ne 16, 3) := by decide +kernel
theorem dX11_receivedOf_22 : decode cX11_receivedOf 22 = .ok (.aload_n 0, 1) := by decide +kernel
theorem dX11_receivedOf_23 : decode cX11_receivedOf 23 = .ok (.getfield 7, 3) := by decide +kernel
theorem dX11_receivedOf_26 : decode cX11_receivedOf 26 = .ok (.sipush 3399, 3) := by decide +kernel
theorem dX11_receivedOf_29 : decode cX11_receivedOf 29 = .ok (.iload_n 1, 1) := by decide +kernel
theorem dX11_receivedOf_30 : decode cX11_receivedOf 30 = .ok (.iadd, 1) := by decide +kernel
theorem dX11_receivedOf_31 : decode cX11_receivedOf 31 = .ok (.iaload, 1) := by decide +kernel
theorem dX11_receivedOf_32 : decode cX11_receivedOf 32 = .ok (.goto 31, 3) := by decide +kernel
theorem dX11_receivedOf_35 : decode cX11_receivedOf 35 = .ok (.iload_n 2, 1) := by decide +kernel
theorem dX11_receivedOf_36 : decode cX11_receivedOf 36 = .ok (.iconst 2, 1) := by decide +kernel
theorem dX11_receivedOf_37 : decode cX11_receivedOf 37 = .ok (.if_icmp .ne 16, 3) := by decide +kernel
theorem dX11_receivedOf_40 : decode cX11_receivedOf 40 = .ok (.aload_n 0, 1) := by decide +kernel
theorem dX11_receivedOf_41 : decode cX11_receivedOf 41 = .ok (.getfield 7, 3) := by decide +kernel
theorem dX11_receivedOf_44 : decode cX11_receivedOf 44 = .ok (.sipush 3407, 3) := by decide +kernel
theorem dX11_receivedOf_47 : decode cX11_receivedOf 47 = .ok (.iload_n 1, 1) := by decide +kernel
theorem dX11_receivedOf_48 : decode cX11_receivedOf 48 = .ok (.iadd, 1) := by decide +kernel
theorem dX11_receivedOf_49 : decode cX11_receivedOf 49 = .ok (.iaload, 1) := by decide +kernel
theorem dX11_receivedOf_50 : decode cX11_receivedOf 50 = .ok (.goto 13, 3) := by decide +kernel
theorem dX11_receivedOf_53 : decode cX11_receivedOf 53 = .ok (.aload_n 0, 1) := by decide +kernel
theorem dX11_receivedOf_54 : decode cX11_receivedOf 54 = .ok (.getfield 7, 3) := by decide +kernel
theorem dX11_receivedOf_57 : decode cX11_receivedOf 57 = .ok (.sipush 3403, 3) := by decide +kernel
theorem dX11_receivedOf_60 : decode cX11_receivedOf 60 = .ok (.iload_n 1, 1) := by decide +kernel
theorem dX11_receivedOf_61 : decode cX11_receivedOf 61 = .ok (.iadd, 1) := by decide +kernel
theorem dX11_receivedOf_62 : decode cX11_receivedOf 62 = .ok (.iaload, 1) := by decide +kernel
theorem dX11_receivedOf_63 : decode cX11_receivedOf 63 = .ok (.ireturn, 1) := by decide +kernel
theorem dX11_received_0 : decode cX11_received 0 = .ok (.aload_n 0, 1) := by decide +kernel
theorem dX11_received_1 : decode cX11_received 1 = .ok (.iload_n 1, 1) := by decide +kernel
theorem dX11_received_2 : decode cX11_received 2 = .ok (.invokestatic 52, 3) := by decide +kernel
theorem dX11_received_5 : decode cX11_received 5 = .ok (.ifCond .ne 7, 3) := by decide +kernel
theorem dX11_received_8 : decode cX11_received 8 = .ok (.iconst 1, 1) := by decide +kernel
theorem dX11_received_9 : decode cX11_received 9 = .ok (.goto 20, 3) := by decide +kernel
theorem dX11_received_12 : decode cX11_received 12 = .ok (.iload_n 2, 1) := by decide +kernel
theorem dX11_received_13 : decode cX11_received 13 = .ok (.i2l, 1) := by decide +kernel
theorem dX11_received_14 : decode cX11_received 14 = .ok (.lconst 0, 1) := by decide +kernel
theorem dX11_received_15 : decode cX11_received 15 = .ok (.ldc2_w 21, 3) := by decide +kernel
theorem dX11_received_18 : decode cX11_received 18 = .ok (.invokestatic 23, 3) := by decide +kernel
theorem dX11_received_21 : decode cX11_received 21 = .ok (.ifCond .eq 7, 3) := by decide +kernel
theorem dX11_received_24 : decode cX11_received 24 = .ok (.iconst 0, 1) := by decide +kernel
theorem dX11_received_25 : decode cX11_received 25 = .ok (.goto 4, 3) := by decide +kernel
theorem dX11_received_28 : decode cX11_received 28 = .ok (.iconst 2, 1) := by decide +kernel
theorem dX11_received_29 : decode cX11_received 29 = .ok (.invokevirtual 30, 3) := by decide +kernel
theorem dX11_received_32 : decode cX11_received 32 = .ok (.ifCond .eq 7, 3) := by decide +kernel
theorem dX11_received_35 : decode cX11_received 35 = .ok (.iconst 0, 1) := by decide +kernel
theorem dX11_received_36 : decode cX11_received 36 = .ok (.goto 9, 3) := by decide +kernel
theorem dX11_received_39 : decode cX11_received 39 = .ok (.aload_n 0, 1) := by decide +kernel
theorem dX11_received_40 : decode cX11_received 40 = .ok (.iload_n 1, 1) := by decide +kernel
theorem dX11_received_41 : decode cX11_received 41 = .ok (.iload_n 2, 1) := by decide +kernel
theorem dX11_received_42 : decode cX11_received 42 = .ok (.invokevirtual 168, 3) := by decide +kernel
theorem dX11_received_45 : decode cX11_received 45 = .ok (.ireturn, 1) := by decide +kernel
theorem dX11_application_0 : decode cX11_application 0 = .ok (.aload_n 0, 1) := by decide +kernel
theorem dX11_application_1 : decode cX11_application 1 = .ok (.iload_n 1, 1) := by decide +kernel
theorem dX11_application_2 : decode cX11_application 2 = .ok (.i2l, 1) := by decide +kernel
theorem dX11_application_3 : decode cX11_application 3 = .ok (.lconst 0, 1) := by decide +kernel
theorem dX11_application_4 : decode cX11_application 4 = .ok (.ldc2_w 65, 3) := by decide +kernel
theorem dX11_application_7 : decode cX11_application 7 = .ok (.invokestatic 23, 3) := by decide +kernel
theorem dX11_application_10 : decode cX11_application 10 = .ok (.ifCond .ne 7, 3) := by decide +kernel
theorem dX11_application_13 : decode cX11_application 13 = .ok (.iconst 1, 1) := by decide +kernel
theorem dX11_application_14 : decode cX11_application 14 = .ok (.goto 20, 3) := by decide +kernel
theorem dX11_application_17 : decode cX11_application 17 = .ok (.iload_n 2, 1) := by decide +kernel
theorem dX11_application_18 : decode cX11_application 18 = .ok (.i2l, 1) := by decide +kernel
theorem dX11_application_19 : decode cX11_application 19 = .ok (.lconst 0, 1) := by decide +kernel
theorem dX11_application_20 : decode cX11_application 20 = .ok (.ldc2_w 76, 3) := by decide +kernel
theorem dX11_application_23 : decode cX11_application 23 = .ok (.invokestatic 23, 3) := by decide +kernel
theorem dX11_application_26 : decode cX11_application 26 = .ok (.ifCond .eq 7, 3) := by decide +kernel
theorem dX11_application_29 : decode cX11_application 29 = .ok (.iconst 0, 1) := by decide +kernel
theorem dX11_application_30 : decode cX11_application 30 = .ok (.goto 4, 3) := by decide +kernel
theorem dX11_application_33 : decode cX11_application 33 = .ok (.iconst 2, 1) := by decide +kernel
theorem dX11_application_34 : decode cX11_application 34 = .ok (.invokevirtual 30, 3) := by decide +kernel
theorem dX11_application_37 : decode cX11_application 37 = .ok (.ifCond .eq 7, 3) := by decide +kernel
theorem dX11_application_40 : decode cX11_application 40 = .ok (.iconst 0, 1) := by decide +kernel
theorem dX11_application_41 : decode cX11_application 41 = .ok (.goto 17, 3) := by decide +kernel
theorem dX11_application_44 : decode cX11_application 44 = .ok (.aload_n 0, 1) := by decide +kernel
theorem dX11_application_45 : decode cX11_application 45 = .ok (.getfield 7, 3) := by decide +kernel
theorem dX11_application_48 : decode cX11_application 48 = .ok (.sipush 4443, 3) := by decide +kernel
theorem dX11_application_51 : decode cX11_application 51 = .ok (.iconst 4, 1) := by decide +kernel
theorem dX11_application_52 : decode cX11_application 52 = .ok (.iload_n 1, 1) := by decide +kernel
theorem dX11_application_53 : decode cX11_application 53 = .ok (.imul, 1) := by decide +kernel
theorem dX11_application_54 : decode cX11_application 54 = .ok (.iadd, 1) := by decide +kernel
theorem dX11_application_55 : decode cX11_application 55 = .ok (.iload_n 2, 1) := by decide +kernel
theorem dX11_application_56 : decode cX11_application 56 = .ok (.iadd, 1) := by decide +kernel
theorem dX11_application_57 : decode cX11_application 57 = .ok (.iaload, 1) := by decide +kernel
theorem dX11_application_58 : decode cX11_application 58 = .ok (.ireturn, 1) := by decide +kernel
theorem dX11_packets_0 : decode cX11_packets 0 = .ok (.aload_n 0, 1) := by decide +kernel
theorem dX11_packets_1 : decode cX11_packets 1 = .ok (.iconst 0, 1) := by decide +kernel
theorem dX11_packets_2 : decode cX11_packets 2 = .ok (.putfield 17, 3) := by decide +kernel
theorem dX11_packets_5 : decode cX11_packets 5 = .ok (.aload_n 0, 1) := by decide +kernel
theorem dX11_packets_6 : decode cX11_packets 6 = .ok (.getfield 7, 3) := by decide +kernel
theorem dX11_packets_9 : decode cX11_packets 9 = .ok (.sipush 4503, 3) := by decide +kernel
theorem dX11_packets_12 : decode cX11_packets 12 = .ok (.iaload, 1) := by decide +kernel
theorem dX11_packets_13 : decode cX11_packets 13 = .ok (.ireturn, 1) := by decide +kernel
theorem dX11_isPacket_0 : decode cX11_isPacket 0 = .ok (.iload_n 1, 1) := by decide +kernel
theorem dX11_isPacket_1 : decode cX11_isPacket 1 = .ok (.i2l, 1) := by decide +kernel
theorem dX11_isPacket_2 : decode cX11_isPacket 2 = .ok (.lconst 0, 1) := by decide +kernel
theorem dX11_isPacket_3 : decode cX11_isPacket 3 = .ok (.aload_n 0, 1) := by decide +kernel
theorem dX11_isPacket_4 : decode cX11_isPacket 4 = .ok (.getfield 7, 3) := by decide +kernel
theorem dX11_isPacket_7 : decode cX11_isPacket 7 = .ok (.sipush 4503, 3) := by decide +kernel
theorem dX11_isPacket_10 : decode cX11_isPacket 10 = .ok (.iaload, 1) := by decide +kernel
theorem dX11_isPacket_11 : decode cX11_isPacket 11 = .ok (.iconst 1, 1) := by decide +kernel
theorem dX11_isPacket_12 : decode cX11_isPacket 12 = .ok (.isub, 1) := by decide +kernel
theorem dX11_isPacket_13 : decode cX11_isPacket 13 = .ok (.i2l, 1) := by decide +kernel
theorem dX11_isPacket_14 : decode cX11_isPacket 14 = .ok (.invokestatic 23, 3) := by decide +kernel
theorem dX11_isPacket_17 : decode cX11_isPacket 17 = .ok (.ireturn, 1) := by decide +kernel
theorem dX11_packet_0 : decode cX11_packet 0 = .ok (.aload_n 0, 1) := by decide +kernel
theorem dX11_packet_1 : decode cX11_packet 1 = .ok (.aload_n 0, 1) := by decide +kernel
theorem dX11_packet_2 : decode cX11_packet 2 = .ok (.iload_n 1, 1) := by decide +kernel
theorem dX11_packet_3 : decode cX11_packet 3 = .ok (.invokevirtual 171, 3) := by decide +kernel
theorem dX11_packet_6 : decode cX11_packet 6 = .ok (.ifCond .ne 7, 3) := by decide +kernel
theorem dX11_packet_9 : decode cX11_packet 9 = .ok (.iconst 1, 1) := by decide +kernel
theorem dX11_packet_10 : decode cX11_packet 10 = .ok (.goto 20, 3) := by decide +kernel
theorem dX11_packet_13 : decode cX11_packet 13 = .ok (.iload_n 2, 1) := by decide +kernel
theorem dX11_packet_14 : decode cX11_packet 14 = .ok (.i2l, 1) := by decide +kernel
theorem dX11_packet_15 : decode cX11_packet 15 = .ok (.lconst 0, 1) := by decide +kernel
theorem dX11_packet_16 : decode cX11_packet 16 = .ok (.ldc2_w 174, 3) := by decide +kernel
theorem dX11_packet_19 : decode cX11_packet 19 = .ok (.invokestatic 23, 3) := by decide +kernel
theorem dX11_packet_22 : decode cX11_packet 22 = .ok (.ifCond .eq 7, 3) := by decide +kernel
theorem dX11_packet_25 : decode cX11_packet 25 = .ok (.iconst 0, 1) := by decide +kernel
theorem dX11_packet_26 : decode cX11_packet 26 = .ok (.goto 4, 3) := by decide +kernel
theorem dX11_packet_29 : decode cX11_packet 29 = .ok (.iconst 2, 1) := by decide +kernel
theorem dX11_packet_30 : decode cX11_packet 30 = .ok (.invokevirtual 30, 3) := by decide +kernel
theorem dX11_packet_33 : decode cX11_packet 33 = .ok (.ifCond .eq 7, 3) := by decide +kernel
theorem dX11_packet_36 : decode cX11_packet 36 = .ok (.iconst 0, 1) := by decide +kernel
theorem dX11_packet_37 : decode cX11_packet 37 = .ok (.goto 19, 3) := by decide +kernel
theorem dX11_packet_40 : decode cX11_packet 40 = .ok (.aload_n 0, 1) := by decide +kernel
theorem dX11_packet_41 : decode cX11_packet 41 = .ok (.getfield 7, 3) := by decide +kernel
theorem dX11_packet_44 : decode cX11_packet 44 = .ok (.sipush 4504, 3) := by decide +kernel
theorem dX11_packet_47 : decode cX11_packet 47 = .ok (.sipush 260, 3) := by decide +kernel
theorem dX11_packet_50 : decode cX11_packet 50 = .ok (.iload_n 1, 1) := by decide +kernel
theorem dX11_packet_51 : decode cX11_packet 51 = .ok (.imul, 1) := by decide +kernel
theorem dX11_packet_52 : decode cX11_packet 52 = .ok (.iadd, 1) := by decide +kernel
theorem dX11_packet_53 : decode cX11_packet 53 = .ok (.iload_n 2, 1) := by decide +kernel
theorem dX11_packet_54 : decode cX11_packet 54 = .ok (.iadd, 1) := by decide +kernel
theorem dX11_packet_55 : decode cX11_packet 55 = .ok (.iaload, 1) := by decide +kernel
theorem dX11_packet_56 : decode cX11_packet 56 = .ok (.ireturn, 1) := by decide +kernel
theorem dX11_packetByte_0 : decode cX11_packetByte 0 = .ok (.aload_n 0, 1) := by decide +kernel
theorem dX11_packetByte_1 : decode cX11_packetByte 1 = .ok (.iload_n 1, 1) := by decide +kernel
theorem dX11_packetByte_2 : decode cX11_packetByte 2 = .ok (.invokevirtual 171, 3) := by decide +kernel
theorem dX11_packetByte_5 : decode cX11_packetByte 5 = .ok (.ifCond .eq 35, 3) := by decide +kernel
theorem dX11_packetByte_8 : decode cX11_packetByte 8 = .ok (.iload_n 2, 1) := by decide +kernel
theorem dX11_packetByte_9 : decode cX11_packetByte 9 = .ok (.i2l, 1) := by decide +kernel
theorem dX11_packetByte_10 : decode cX11_packetByte 10 = .ok (.lconst 0, 1) := by decide +kernel
theorem dX11_packetByte_11 : decode cX11_packetByte 11 = .ok (.aload_n 0, 1) := by decide +kernel
theorem dX11_packetByte_12 : decode cX11_packetByte 12 = .ok (.getfield 7, 3) := by decide +kernel
theorem dX11_packetByte_15 : decode cX11_packetByte 15 = .ok (.sipush 4504, 3) := by decide +kernel
theorem dX11_packetByte_18 : decode cX11_packetByte 18 = .ok (.sipush 260, 3) := by decide +kernel
theorem dX11_packetByte_21 : decode cX11_packetByte 21 = .ok (.iload_n 1, 1) := by decide +kernel
theorem dX11_packetByte_22 : decode cX11_packetByte 22 = .ok (.imul, 1) := by decide +kernel
theorem dX11_packetByte_23 : decode cX11_packetByte 23 = .ok (.iadd, 1) := by decide +kernel
theorem dX11_packetByte_24 : decode cX11_packetByte 24 = .ok (.iconst 3, 1) := by decide +kernel
theorem dX11_packetByte_25 : decode cX11_packetByte 25 = .ok (.iadd, 1) := by decide +kernel
theorem dX11_packetByte_26 : decode cX11_packetByte 26 = .ok (.iaload, 1) := by decide +kernel
theorem dX11_packetByte_27 : decode cX11_packetByte 27 = .ok (.iconst 1, 1) := by decide +kernel
theorem dX11_packetByte_28 : decode cX11_packetByte 28 = .ok (.isub, 1) := by decide +kernel
theorem dX11_packetByte_29 : decode cX11_packetByte 29 = .ok (.i2l, 1) := by decide +kernel
theorem dX11_packetByte_30 : decode cX11_packetByte 30 = .ok (.invokestatic 23, 3) := by decide +kernel
theorem dX11_packetByte_33 : decode cX11_packetByte 33 = .ok (.ifCond .eq 7, 3) := by decide +kernel
theorem dX11_packetByte_36 : decode cX11_packetByte 36 = .ok (.iconst 1, 1) := by decide +kernel
theorem dX11_packetByte_37 : decode cX11_packetByte 37 = .ok (.goto 4, 3) := by decide +kernel
theorem dX11_packetByte_40 : decode cX11_packetByte 40 = .ok (.iconst 0, 1) := by decide +kernel
theorem dX11_packetByte_41 : decode cX11_packetByte 41 = .ok (.istore_n 3, 1) := by decide +kernel
theorem dX11_packetByte_42 : decode cX11_packetByte 42 = .ok (.aload_n 0, 1) := by decide +kernel
theorem dX11_packetByte_43 : decode cX11_packetByte 43 = .ok (.iload_n 3, 1) := by decide +kernel
theorem dX11_packetByte_44 : decode cX11_packetByte 44 = .ok (.ifCond .eq 7, 3) := by decide +kernel
theorem dX11_packetByte_47 : decode cX11_packetByte 47 = .ok (.iconst 0, 1) := by decide +kernel
theorem dX11_packetByte_48 : decode cX11_packetByte 48 = .ok (.goto 4, 3) := by decide +kernel
theorem dX11_packetByte_51 : decode cX11_packetByte 51 = .ok (.iconst 1, 1) := by decide +kernel
theorem dX11_packetByte_52 : decode cX11_packetByte 52 = .ok (.invokevirtual 30, 3) := by decide +kernel
theorem dX11_packetByte_55 : decode cX11_packetByte 55 = .ok (.ifCond .eq 7, 3) := by decide +kernel
theorem dX11_packetByte_58 : decode cX11_packetByte 58 = .ok (.iconst 0, 1) := by decide +kernel
theorem dX11_packetByte_59 : decode cX11_packetByte 59 = .ok (.goto 21, 3) := by decide +kernel
theorem dX11_packetByte_62 : decode cX11_packetByte 62 = .ok (.aload_n 0, 1) := by decide +kernel
theorem dX11_packetByte_63 : decode cX11_packetByte 63 = .ok (.getfield 7, 3) := by decide +kernel
theorem dX11_packetByte_66 : decode cX11_packetByte 66 = .ok (.sipush 4504, 3) := by decide +kernel
theorem dX11_packetByte_69 : decode cX11_packetByte 69 = .ok (.sipush 260, 3) := by decide +kernel
theorem dX11_packetByte_72 : decode cX11_packetByte 72 = .ok (.iload_n 1, 1) := by decide +kernel
theorem dX11_packetByte_73 : decode cX11_packetByte 73 = .ok (.imul, 1) := by decide +kernel
theorem dX11_packetByte_74 : decode cX11_packetByte 74 = .ok (.iadd, 1) := by decide +kernel
theorem dX11_packetByte_75 : decode cX11_packetByte 75 = .ok (.iconst 5, 1) := by decide +kernel
theorem dX11_packetByte_76 : decode cX11_packetByte 76 = .ok (.iadd, 1) := by decide +kernel
theorem dX11_packetByte_77 : decode cX11_packetByte 77 = .ok (.iload_n 2, 1) := by decide +kernel
theorem dX11_packetByte_78 : decode cX11_packetByte 78 = .ok (.iadd, 1) := by decide +kernel
theorem dX11_packetByte_79 : decode cX11_packetByte 79 = .ok (.iaload, 1) := by decide +kernel
theorem dX11_packetByte_80 : decode cX11_packetByte 80 = .ok (.ireturn, 1) := by decide +kernel
theorem dX11_clock_0 : decode cX11_clock 0 = .ok (.aload_n 0, 1) := by decide +kernel
theorem dX11_clock_1 : decode cX11_clock 1 = .ok (.iconst 0, 1) := by decide +kernel
theorem dX11_clock_2 : decode cX11_clock 2 = .ok (.putfield 17, 3) := by decide +kernel
theorem dX11_clock_5 : decode cX11_clock 5 = .ok (.aload_n 0, 1) := by decide +kernel
theorem dX11_clock_6 : decode cX11_clock 6 = .ok (.invokevirtual 114, 3) := by decide +kernel
theorem dX11_clock_9 : decode cX11_clock 9 = .ok (.lreturn, 1) := by decide +kernel
theorem dX11_timePairs_0 : decode cX11_timePairs 0 = .ok (.aload_n 0, 1) := by decide +kernel
theorem dX11_timePairs_1 : decode cX11_timePairs 1 = .ok (.iconst 0, 1) := by decide +kernel
theorem dX11_timePairs_2 : decode cX11_timePairs 2 = .ok (.putfield 17, 3) := by decide +kernel
theorem dX11_timePairs_5 : decode cX11_timePairs 5 = .ok (.aload_n 0, 1) := by decide +kernel
theorem dX11_timePairs_6 : decode cX11_timePairs 6 = .ok (.getfield 7, 3) := by decide +kernel
theorem dX11_timePairs_9 : decode cX11_timePairs 9 = .ok (.sipush 12304, 3) := by decide +kernel
theorem dX11_timePairs_12 : decode cX11_timePairs 12 = .ok (.iaload, 1) := by decide +kernel
theorem dX11_timePairs_13 : decode cX11_timePairs 13 = .ok (.ireturn, 1) := by decide +kernel
theorem dX11_groundTime_0 : decode cX11_groundTime 0 = .ok (.aload_n 0, 1) := by decide +kernel
theorem dX11_groundTime_1 : decode cX11_groundTime 1 = .ok (.lload_n 1, 1) := by decide +kernel
theorem dX11_groundTime_2 : decode cX11_groundTime 2 = .ok (.ldc2_w 176, 3) := by decide +kernel
theorem dX11_groundTime_5 : decode cX11_groundTime 5 = .ok (.ldc2_w 178, 3) := by decide +kernel
theorem dX11_groundTime_8 : decode cX11_groundTime 8 = .ok (.invokestatic 23, 3) := by decide +kernel
theorem dX11_groundTime_11 : decode cX11_groundTime 11 = .ok (.ifCond .ne 7, 3) := by decide +kernel
theorem dX11_groundTime_14 : decode cX11_groundTime 14 = .ok (.iconst 1, 1) := by decide +kernel
theorem dX11_groundTime_15 : decode cX11_groundTime 15 = .ok (.goto 39, 3) := by decide +kernel
theorem dX11_groundTime_18 : decode cX11_groundTime 18 = .ok (.aload_n 0, 1) := by decide +kernel
theorem dX11_groundTime_19 : decode cX11_groundTime 19 = .ok (.getfield 7, 3) := by decide +kernel
theorem dX11_groundTime_22 : decode cX11_groundTime 22 = .ok (.sipush 12304, 3) := by decide +kernel
theorem dX11_groundTime_25 : decode cX11_groundTime 25 = .ok (.iaload, 1) := by decide +kernel
theorem dX11_groundTime_26 : decode cX11_groundTime 26 = .ok (.iconst 2, 1) := by decide +kernel
theorem dX11_groundTime_27 : decode cX11_groundTime 27 = .ok (.if_icmp .lt 22, 3) := by decide +kernel
theorem dX11_groundTime_30 : decode cX11_groundTime 30 = .ok (.aload_n 0, 1) := by decide +kernel
theorem dX11_groundTime_31 : decode cX11_groundTime 31 = .ok (.getfield 7, 3) := by decide +kernel
theorem dX11_groundTime_34 : decode cX11_groundTime 34 = .ok (.sipush 12305, 3) := by decide +kernel
theorem dX11_groundTime_37 : decode cX11_groundTime 37 = .ok (.iaload, 1) := by decide +kernel
theorem dX11_groundTime_38 : decode cX11_groundTime 38 = .ok (.aload_n 0, 1) := by decide +kernel
theorem dX11_groundTime_39 : decode cX11_groundTime 39 = .ok (.getfield 7, 3) := by decide +kernel
theorem dX11_groundTime_42 : decode cX11_groundTime 42 = .ok (.sipush 12307, 3) := by decide +kernel
theorem dX11_groundTime_45 : decode cX11_groundTime 45 = .ok (.iaload, 1) := by decide +kernel
theorem dX11_groundTime_46 : decode cX11_groundTime 46 = .ok (.if_icmp .ne 7, 3) := by decide +kernel
theorem dX11_groundTime_49 : decode cX11_groundTime 49 = .ok (.iconst 2, 1) := by decide +kernel
theorem dX11_groundTime_50 : decode cX11_groundTime 50 = .ok (.goto 4, 3) := by decide +kernel
theorem dX11_groundTime_53 : decode cX11_groundTime 53 = .ok (.iconst 0, 1) := by decide +kernel
theorem dX11_groundTime_54 : decode cX11_groundTime 54 = .ok (.invokevirtual 30, 3) := by decide +kernel
theorem dX11_groundTime_57 : decode cX11_groundTime 57 = .ok (.ifCond .eq 5, 3) := by decide +kernel
theorem dX11_groundTime_60 : decode cX11_groundTime 60 = .ok (.lconst 0, 1) := by decide +kernel
theorem dX11_groundTime_61 : decode cX11_groundTime 61 = .ok (.lreturn, 1) := by decide +kernel
theorem dX11_groundTime_62 : decode cX11_groundTime 62 = .ok (.lload_n 1, 1) := by decide +kernel
theorem dX11_groundTime_63 : decode cX11_groundTime 63 = .ok (.aload_n 0, 1) := by decide +kernel
theorem dX11_groundTime_64 : decode cX11_groundTime 64 = .ok (.getfield 7, 3) := by decide +kernel
theorem dX11_groundTime_67 : decode cX11_groundTime 67 = .ok (.sipush 12307, 3) := by decide +kernel
theorem dX11_groundTime_70 : decode cX11_groundTime 70 = .ok (.iaload, 1) := by decide +kernel
theorem dX11_groundTime_71 : decode cX11_groundTime 71 = .ok (.i2l, 1) := by decide +kernel
theorem dX11_groundTime_72 : decode cX11_groundTime 72 = .ok (.lsub, 1) := by decide +kernel
theorem dX11_groundTime_73 : decode cX11_groundTime 73 = .ok (.aload_n 0, 1) := by decide +kernel
theorem dX11_groundTime_74 : decode cX11_groundTime 74 = .ok (.getfield 7, 3) := by decide +kernel
theorem dX11_groundTime_77 : decode cX11_groundTime 77 = .ok (.sipush 12308, 3) := by decide +kernel
theorem dX11_groundTime_80 : decode cX11_groundTime 80 = .ok (.iaload, 1) := by decide +kernel
theorem dX11_groundTime_81 : decode cX11_groundTime 81 = .ok (.aload_n 0, 1) := by decide +kernel
theorem dX11_groundTime_82 : decode cX11_groundTime 82 = .ok (.getfield 7, 3) := by decide +kernel
theorem dX11_groundTime_85 : decode cX11_groundTime 85 = .ok (.sipush 12306, 3) := by decide +kernel
theorem dX11_groundTime_88 : decode cX11_groundTime 88 = .ok (.iaload, 1) := by decide +kernel
theorem dX11_groundTime_89 : decode cX11_groundTime 89 = .ok (.isub, 1) := by decide +kernel
theorem dX11_groundTime_90 : decode cX11_groundTime 90 = .ok (.i2l, 1) := by decide +kernel
theorem dX11_groundTime_91 : decode cX11_groundTime 91 = .ok (.lmul, 1) := by decide +kernel
theorem dX11_groundTime_92 : decode cX11_groundTime 92 = .ok (.lstore_n 3, 1) := by decide +kernel
theorem dX11_groundTime_93 : decode cX11_groundTime 93 = .ok (.aload_n 0, 1) := by decide +kernel
theorem dX11_groundTime_94 : decode cX11_groundTime 94 = .ok (.getfield 7, 3) := by decide +kernel
theorem dX11_groundTime_97 : decode cX11_groundTime 97 = .ok (.sipush 12308, 3) := by decide +kernel
theorem dX11_groundTime_100 : decode cX11_groundTime 100 = .ok (.iaload, 1) := by decide +kernel
theorem dX11_groundTime_101 : decode cX11_groundTime 101 = .ok (.i2l, 1) := by decide +kernel
theorem dX11_groundTime_102 : decode cX11_groundTime 102 = .ok (.lload_n 3, 1) := by decide +kernel
theorem dX11_groundTime_103 : decode cX11_groundTime 103 = .ok (.aload_n 0, 1) := by decide +kernel
theorem dX11_groundTime_104 : decode cX11_groundTime 104 = .ok (.getfield 7, 3) := by decide +kernel
theorem dX11_groundTime_107 : decode cX11_groundTime 107 = .ok (.sipush 12307, 3) := by decide +kernel
theorem dX11_groundTime_110 : decode cX11_groundTime 110 = .ok (.iaload, 1) := by decide +kernel
theorem dX11_groundTime_111 : decode cX11_groundTime 111 = .ok (.aload_n 0, 1) := by decide +kernel
theorem dX11_groundTime_112 : decode cX11_groundTime 112 = .ok (.getfield 7, 3) := by decide +kernel
theorem dX11_groundTime_115 : decode cX11_groundTime 115 = .ok (.sipush 12305, 3) := by decide +kernel
theorem dX11_groundTime_118 : decode cX11_groundTime 118 = .ok (.iaload, 1) := by decide +kernel
theorem dX11_groundTime_119 : decode cX11_groundTime 119 = .ok (.isub, 1) := by decide +kernel
theorem dX11_groundTime_120 : decode cX11_groundTime 120 = .ok (.i2l, 1) := by decide +kernel
theorem dX11_groundTime_121 : decode cX11_groundTime 121 = .ok (.invokestatic 110, 3) := by decide +kernel
theorem dX11_groundTime_124 : decode cX11_groundTime 124 = .ok (.ladd, 1) := by decide +kernel
theorem dX11_groundTime_125 : decode cX11_groundTime 125 = .ok (.lreturn, 1) := by decide +kernel
theorem dX11_mix_0 : decode cX11_mix 0 = .ok (.aload_n 0, 1) := by decide +kernel
theorem dX11_mix_1 : decode cX11_mix 1 = .ok (.ldc2_w 180, 3) := by decide +kernel
theorem dX11_mix_4 : decode cX11_mix 4 = .ok (.aload_n 0, 1) := by decide +kernel
theorem dX11_mix_5 : decode cX11_mix 5 = .ok (.getfield 182, 3) := by decide +kernel
theorem dX11_mix_8 : decode cX11_mix 8 = .ok (.lmul, 1) := by decide +kernel
theorem dX11_mix_9 : decode cX11_mix 9 = .ok (.lload_n 1, 1) := by decide +kernel
theorem dX11_mix_10 : decode cX11_mix 10 = .ok (.ladd, 1) := by decide +kernel
theorem dX11_mix_11 : decode cX11_mix 11 = .ok (.putfield 182, 3) := by decide +kernel
theorem dX11_mix_14 : decode cX11_mix 14 = .ok (.return_, 1) := by decide +kernel
theorem dX11_mixAll_0 : decode cX11_mixAll 0 = .ok (.iload_n 1, 1) := by decide +kernel
theorem dX11_mixAll_1 : decode cX11_mixAll 1 = .ok (.istore_n 3, 1) := by decide +kernel
theorem dX11_mixAll_2 : decode cX11_mixAll 2 = .ok (.iload_n 3, 1) := by decide +kernel
theorem dX11_mixAll_3 : decode cX11_mixAll 3 = .ok (.iload_n 1, 1) := by decide +kernel
theorem dX11_mixAll_4 : decode cX11_mixAll 4 = .ok (.iload_n 2, 1) := by decide +kernel
theorem dX11_mixAll_5 : decode cX11_mixAll 5 = .ok (.iadd, 1) := by decide +kernel
theorem dX11_mixAll_6 : decode cX11_mixAll 6 = .ok (.if_icmp .ge 20, 3) := by decide +kernel
theorem dX11_mixAll_9 : decode cX11_mixAll 9 = .ok (.aload_n 0, 1) := by decide +kernel
theorem dX11_mixAll_10 : decode cX11_mixAll 10 = .ok (.aload_n 0, 1) := by decide +kernel
theorem dX11_mixAll_11 : decode cX11_mixAll 11 = .ok (.getfield 7, 3) := by decide +kernel
theorem dX11_mixAll_14 : decode cX11_mixAll 14 = .ok (.iload_n 3, 1) := by decide +kernel
theorem dX11_mixAll_15 : decode cX11_mixAll 15 = .ok (.iaload, 1) := by decide +kernel
theorem dX11_mixAll_16 : decode cX11_mixAll 16 = .ok (.i2l, 1) := by decide +kernel
theorem dX11_mixAll_17 : decode cX11_mixAll 17 = .ok (.invokevirtual 186, 3) := by decide +kernel
theorem dX11_mixAll_20 : decode cX11_mixAll 20 = .ok (.iinc 3 1, 3) := by decide +kernel
theorem dX11_mixAll_23 : decode cX11_mixAll 23 = .ok (.goto (-21), 3) := by decide +kernel
theorem dX11_mixAll_26 : decode cX11_mixAll 26 = .ok (.return_, 1) := by decide +kernel
theorem dX11_mixChannel_0 : decode cX11_mixChannel 0 = .ok (.aload_n 0, 1) := by decide +kernel
theorem dX11_mixChannel_1 : decode cX11_mixChannel 1 = .ok (.aload_n 0, 1) := by decide +kernel
theorem dX11_mixChannel_2 : decode cX11_mixChannel 2 = .ok (.getfield 7, 3) := by decide +kernel
theorem dX11_mixChannel_5 : decode cX11_mixChannel 5 = .ok (.bipush 25, 2) := by decide +kernel
theorem dX11_mixChannel_7 : decode cX11_mixChannel 7 = .ok (.iload_n 1, 1) := by decide +kernel
theorem dX11_mixChannel_8 : decode cX11_mixChannel 8 = .ok (.iadd, 1) := by decide +kernel
theorem dX11_mixChannel_9 : decode cX11_mixChannel 9 = .ok (.iaload, 1) := by decide +kernel
theorem dX11_mixChannel_10 : decode cX11_mixChannel 10 = .ok (.i2l, 1) := by decide +kernel
theorem dX11_mixChannel_11 : decode cX11_mixChannel 11 = .ok (.invokevirtual 186, 3) := by decide +kernel
theorem dX11_mixChannel_14 : decode cX11_mixChannel 14 = .ok (.aload_n 0, 1) := by decide +kernel
theorem dX11_mixChannel_15 : decode cX11_mixChannel 15 = .ok (.aload_n 0, 1) := by decide +kernel
theorem dX11_mixChannel_16 : decode cX11_mixChannel 16 = .ok (.getfield 7, 3) := by decide +kernel
theorem dX11_mixChannel_19 : decode cX11_mixChannel 19 = .ok (.bipush 29, 2) := by decide +kernel
theorem dX11_mixChannel_21 : decode cX11_mixChannel 21 = .ok (.iload_n 1, 1) := by decide +kernel
theorem dX11_mixChannel_22 : decode cX11_mixChannel 22 = .ok (.iadd, 1) := by decide +kernel
theorem dX11_mixChannel_23 : decode cX11_mixChannel 23 = .ok (.iaload, 1) := by decide +kernel
theorem dX11_mixChannel_24 : decode cX11_mixChannel 24 = .ok (.i2l, 1) := by decide +kernel
theorem dX11_mixChannel_25 : decode cX11_mixChannel 25 = .ok (.invokevirtual 186, 3) := by decide +kernel
theorem dX11_mixChannel_28 : decode cX11_mixChannel 28 = .ok (.aload_n 0, 1) := by decide +kernel
theorem dX11_mixChannel_29 : decode cX11_mixChannel 29 = .ok (.aload_n 0, 1) := by decide +kernel
theorem dX11_mixChannel_30 : decode cX11_mixChannel 30 = .ok (.getfield 7, 3) := by decide +kernel
theorem dX11_mixChannel_33 : decode cX11_mixChannel 33 = .ok (.bipush 33, 2) := by decide +kernel
theorem dX11_mixChannel_35 : decode cX11_mixChannel 35 = .ok (.iload_n 1, 1) := by decide +kernel
theorem dX11_mixChannel_36 : decode cX11_mixChannel 36 = .ok (.iadd, 1) := by decide +kernel
theorem dX11_mixChannel_37 : decode cX11_mixChannel 37 = .ok (.iaload, 1) := by decide +kernel
theorem dX11_mixChannel_38 : decode cX11_mixChannel 38 = .ok (.i2l, 1) := by decide +kernel
theorem dX11_mixChannel_39 : decode cX11_mixChannel 39 = .ok (.invokevirtual 186, 3) := by decide +kernel
theorem dX11_mixChannel_42 : decode cX11_mixChannel 42 = .ok (.iconst 0, 1) := by decide +kernel
theorem dX11_mixChannel_43 : decode cX11_mixChannel 43 = .ok (.istore_n 2, 1) := by decide +kernel
theorem dX11_mixChannel_44 : decode cX11_mixChannel 44 = .ok (.iload_n 2, 1) := by decide +kernel
theorem dX11_mixChannel_45 : decode cX11_mixChannel 45 = .ok (.iconst 3, 1) := by decide +kernel
theorem dX11_mixChannel_46 : decode cX11_mixChannel 46 = .ok (.if_icmp .ge 20, 3) := by decide +kernel
theorem dX11_mixChannel_49 : decode cX11_mixChannel 49 = .ok (.aload_n 0, 1) := by decide +kernel
theorem dX11_mixChannel_50 : decode cX11_mixChannel 50 = .ok (.aload_n 0, 1) := by decide +kernel
theorem dX11_mixChannel_51 : decode cX11_mixChannel 51 = .ok (.iload_n 1, 1) := by decide +kernel
theorem dX11_mixChannel_52 : decode cX11_mixChannel 52 = .ok (.iload_n 2, 1) := by decide +kernel
theorem dX11_mixChannel_53 : decode cX11_mixChannel 53 = .ok (.invokevirtual 78, 3) := by decide +kernel
theorem dX11_mixChannel_56 : decode cX11_mixChannel 56 = .ok (.i2l, 1) := by decide +kernel
theorem dX11_mixChannel_57 : decode cX11_mixChannel 57 = .ok (.invokevirtual 186, 3) := by decide +kernel
theorem dX11_mixChannel_60 : decode cX11_mixChannel 60 = .ok (.iinc 2 1, 3) := by decide +kernel
theorem dX11_mixChannel_63 : decode cX11_mixChannel 63 = .ok (.goto (-19), 3) := by decide +kernel
theorem dX11_mixChannel_66 : decode cX11_mixChannel 66 = .ok (.iconst 0, 1) := by decide +kernel
theorem dX11_mixChannel_67 : decode cX11_mixChannel 67 = .ok (.istore_n 2, 1) := by decide +kernel
theorem dX11_mixChannel_68 : decode cX11_mixChannel 68 = .ok (.iload_n 2, 1) := by decide +kernel
theorem dX11_mixChannel_69 : decode cX11_mixChannel 69 = .ok (.iconst 3, 1) := by decide +kernel
theorem dX11_mixChannel_70 : decode cX11_mixChannel 70 = .ok (.if_icmp .ge 20, 3) := by decide +kernel
theorem dX11_mixChannel_73 : decode cX11_mixChannel 73 = .ok (.aload_n 0, 1) := by decide +kernel
theorem dX11_mixChannel_74 : decode cX11_mixChannel 74 = .ok (.aload_n 0, 1) := by decide +kernel
theorem dX11_mixChannel_75 : decode cX11_mixChannel 75 = .ok (.iload_n 1, 1) := by decide +kernel
theorem dX11_mixChannel_76 : decode cX11_mixChannel 76 = .ok (.iload_n 2, 1) := by decide +kernel
theorem dX11_mixChannel_77 : decode cX11_mixChannel 77 = .ok (.invokevirtual 131, 3) := by decide +kernel
theorem dX11_mixChannel_80 : decode cX11_mixChannel 80 = .ok (.i2l, 1) := by decide +kernel
theorem dX11_mixChannel_81 : decode cX11_mixChannel 81 = .ok (.invokevirtual 186, 3) := by decide +kernel
theorem dX11_mixChannel_84 : decode cX11_mixChannel 84 = .ok (.iinc 2 1, 3) := by decide +kernel
theorem dX11_mixChannel_87 : decode cX11_mixChannel 87 = .ok (.goto (-19), 3) := by decide +kernel
theorem dX11_mixChannel_90 : decode cX11_mixChannel 90 = .ok (.iconst 0, 1) := by decide +kernel
theorem dX11_mixChannel_91 : decode cX11_mixChannel 91 = .ok (.istore_n 2, 1) := by decide +kernel
theorem dX11_mixChannel_92 : decode cX11_mixChannel 92 = .ok (.iload_n 2, 1) := by decide +kernel
theorem dX11_mixChannel_93 : decode cX11_mixChannel 93 = .ok (.iconst 4, 1) := by decide +kernel
theorem dX11_mixChannel_94 : decode cX11_mixChannel 94 = .ok (.if_icmp .ge 20, 3) := by decide +kernel
theorem dX11_mixChannel_97 : decode cX11_mixChannel 97 = .ok (.aload_n 0, 1) := by decide +kernel
theorem dX11_mixChannel_98 : decode cX11_mixChannel 98 = .ok (.aload_n 0, 1) := by decide +kernel
theorem dX11_mixChannel_99 : decode cX11_mixChannel 99 = .ok (.iload_n 1, 1) := by decide +kernel
theorem dX11_mixChannel_100 : decode cX11_mixChannel 100 = .ok (.iload_n 2, 1) := by decide +kernel
theorem dX11_mixChannel_101 : decode cX11_mixChannel 101 = .ok (.invokevirtual 168, 3) := by decide +kernel
theorem dX11_mixChannel_104 : decode cX11_mixChannel 104 = .ok (.i2l, 1) := by decide +kernel
theorem dX11_mixChannel_105 : decode cX11_mixChannel 105 = .ok (.invokevirtual 186, 3) := by decide +kernel
theorem dX11_mixChannel_108 : decode cX11_mixChannel 108 = .ok (.iinc 2 1, 3) := by decide +kernel
theorem dX11_mixChannel_111 : decode cX11_mixChannel 111 = .ok (.goto (-19), 3) := by decide +kernel
theorem dX11_mixChannel_114 : decode cX11_mixChannel 114 = .ok (.return_, 1) := by decide +kernel
theorem dX11_digest_0 : decode cX11_digest 0 = .ok (.aload_n 0, 1) := by decide +kernel
theorem dX11_digest_1 : decode cX11_digest 1 = .ok (.iconst 0, 1) := by decide +kernel
theorem dX11_digest_2 : decode cX11_digest 2 = .ok (.putfield 17, 3) := by decide +kernel
theorem dX11_digest_5 : decode cX11_digest 5 = .ok (.aload_n 0, 1) := by decide +kernel
theorem dX11_digest_6 : decode cX11_digest 6 = .ok (.ldc2_w 190, 3) := by decide +kernel
theorem dX11_digest_9 : decode cX11_digest 9 = .ok (.putfield 182, 3) := by decide +kernel
theorem dX11_digest_12 : decode cX11_digest 12 = .ok (.aload_n 0, 1) := by decide +kernel
theorem dX11_digest_13 : decode cX11_digest 13 = .ok (.aload_n 0, 1) := by decide +kernel
theorem dX11_digest_14 : decode cX11_digest 14 = .ok (.getfield 27, 3) := by decide +kernel
theorem dX11_digest_17 : decode cX11_digest 17 = .ok (.i2l, 1) := by decide +kernel
theorem dX11_digest_18 : decode cX11_digest 18 = .ok (.invokevirtual 186, 3) := by decide +kernel
theorem dX11_digest_21 : decode cX11_digest 21 = .ok (.aload_n 0, 1) := by decide +kernel
theorem dX11_digest_22 : decode cX11_digest 22 = .ok (.iconst 0, 1) := by decide +kernel
theorem dX11_digest_23 : decode cX11_digest 23 = .ok (.iconst 4, 1) := by decide +kernel
theorem dX11_digest_24 : decode cX11_digest 24 = .ok (.invokevirtual 192, 3) := by decide +kernel
theorem dX11_digest_27 : decode cX11_digest 27 = .ok (.aload_n 0, 1) := by decide +kernel
theorem dX11_digest_28 : decode cX11_digest 28 = .ok (.aload_n 0, 1) := by decide +kernel
theorem dX11_digest_29 : decode cX11_digest 29 = .ok (.invokevirtual 95, 3) := by decide +kernel
theorem dX11_digest_32 : decode cX11_digest 32 = .ok (.i2l, 1) := by decide +kernel
theorem dX11_digest_33 : decode cX11_digest 33 = .ok (.invokevirtual 186, 3) := by decide +kernel
theorem dX11_digest_36 : decode cX11_digest 36 = .ok (.aload_n 0, 1) := by decide +kernel
theorem dX11_digest_37 : decode cX11_digest 37 = .ok (.aload_n 0, 1) := by decide +kernel
theorem dX11_digest_38 : decode cX11_digest 38 = .ok (.invokevirtual 114, 3) := by decide +kernel
theorem dX11_digest_41 : decode cX11_digest 41 = .ok (.invokevirtual 186, 3) := by decide +kernel
theorem dX11_digest_44 : decode cX11_digest 44 = .ok (.iconst 0, 1) := by decide +kernel
theorem dX11_digest_45 : decode cX11_digest 45 = .ok (.istore_n 1, 1) := by decide +kernel
theorem dX11_digest_46 : decode cX11_digest 46 = .ok (.iload_n 1, 1) := by decide +kernel
theorem dX11_digest_47 : decode cX11_digest 47 = .ok (.iconst 4, 1) := by decide +kernel
theorem dX11_digest_48 : decode cX11_digest 48 = .ok (.if_icmp .ge 14, 3) := by decide +kernel
theorem dX11_digest_51 : decode cX11_digest 51 = .ok (.aload_n 0, 1) := by decide +kernel
theorem dX11_digest_52 : decode cX11_digest 52 = .ok (.iload_n 1, 1) := by decide +kernel
theorem dX11_digest_53 : decode cX11_digest 53 = .ok (.invokevirtual 195, 3) := by decide +kernel
theorem dX11_digest_56 : decode cX11_digest 56 = .ok (.iinc 1 1, 3) := by decide +kernel
theorem dX11_digest_59 : decode cX11_digest 59 = .ok (.goto (-13), 3) := by decide +kernel
theorem dX11_digest_62 : decode cX11_digest 62 = .ok (.aload_n 0, 1) := by decide +kernel
theorem dX11_digest_63 : decode cX11_digest 63 = .ok (.aload_n 0, 1) := by decide +kernel
theorem dX11_digest_64 : decode cX11_digest 64 = .ok (.getfield 7, 3) := by decide +kernel
theorem dX11_digest_67 : decode cX11_digest 67 = .ok (.bipush 45, 2) := by decide +kernel
theorem dX11_digest_69 : decode cX11_digest 69 = .ok (.iaload, 1) := by decide +kernel
theorem dX11_digest_70 : decode cX11_digest 70 = .ok (.i2l, 1) := by decide +kernel
theorem dX11_digest_71 : decode cX11_digest 71 = .ok (.invokevirtual 186, 3) := by decide +kernel
theorem dX11_digest_74 : decode cX11_digest 74 = .ok (.aload_n 0, 1) := by decide +kernel
theorem dX11_digest_75 : decode cX11_digest 75 = .ok (.aload_n 0, 1) := by decide +kernel
theorem dX11_digest_76 : decode cX11_digest 76 = .ok (.getfield 7, 3) := by decide +kernel
theorem dX11_digest_79 : decode cX11_digest 79 = .ok (.sipush 382, 3) := by decide +kernel
theorem dX11_digest_82 : decode cX11_digest 82 = .ok (.iaload, 1) := by decide +kernel
theorem dX11_digest_83 : decode cX11_digest 83 = .ok (.i2l, 1) := by decide +kernel
theorem dX11_digest_84 : decode cX11_digest 84 = .ok (.invokevirtual 186, 3) := by decide +kernel
theorem dX11_digest_87 : decode cX11_digest 87 = .ok (.iconst 0, 1) := by decide +kernel
theorem dX11_digest_88 : decode cX11_digest 88 = .ok (.istore_n 1, 1) := by decide +kernel
theorem dX11_digest_89 : decode cX11_digest 89 = .ok (.iload_n 1, 1) := by decide +kernel
theorem dX11_digest_90 : decode cX11_digest 90 = .ok (.aload_n 0, 1) := by decide +kernel
theorem dX11_digest_91 : decode cX11_digest 91 = .ok (.getfield 7, 3) := by decide +kernel
theorem dX11_digest_94 : decode cX11_digest 94 = .ok (.sipush 382, 3) := by decide +kernel
theorem dX11_digest_97 : decode cX11_digest 97 = .ok (.iaload, 1) := by decide +kernel
theorem dX11_digest_98 : decode cX11_digest 98 = .ok (.if_icmp .ge 55, 3) := by decide +kernel
theorem dX11_digest_101 : decode cX11_digest 101 = .ok (.aload_n 0, 1) := by decide +kernel
theorem dX11_digest_102 : decode cX11_digest 102 = .ok (.aload_n 0, 1) := by decide +kernel
theorem dX11_digest_103 : decode cX11_digest 103 = .ok (.getfield 7, 3) := by decide +kernel
theorem dX11_digest_106 : decode cX11_digest 106 = .ok (.aload_n 0, 1) := by decide +kernel
theorem dX11_digest_107 : decode cX11_digest 107 = .ok (.iload_n 1, 1) := by decide +kernel
theorem dX11_digest_108 : decode cX11_digest 108 = .ok (.invokevirtual 100, 3) := by decide +kernel
theorem dX11_digest_111 : decode cX11_digest 111 = .ok (.iconst 1, 1) := by decide +kernel
theorem dX11_digest_112 : decode cX11_digest 112 = .ok (.iadd, 1) := by decide +kernel
theorem dX11_digest_113 : decode cX11_digest 113 = .ok (.iaload, 1) := by decide +kernel
theorem dX11_digest_114 : decode cX11_digest 114 = .ok (.i2l, 1) := by decide +kernel
theorem dX11_digest_115 : decode cX11_digest 115 = .ok (.invokevirtual 186, 3) := by decide +kernel
theorem dX11_digest_118 : decode cX11_digest 118 = .ok (.aload_n 0, 1) := by decide +kernel
theorem dX11_digest_119 : decode cX11_digest 119 = .ok (.aload_n 0, 1) := by decide +kernel
theorem dX11_digest_120 : decode cX11_digest 120 = .ok (.getfield 7, 3) := by decide +kernel
theorem dX11_digest_123 : decode cX11_digest 123 = .ok (.aload_n 0, 1) := by decide +kernel
theorem dX11_digest_124 : decode cX11_digest 124 = .ok (.iload_n 1, 1) := by decide +kernel
theorem dX11_digest_125 : decode cX11_digest 125 = .ok (.invokevirtual 100, 3) := by decide +kernel
theorem dX11_digest_128 : decode cX11_digest 128 = .ok (.iconst 4, 1) := by decide +kernel
theorem dX11_digest_129 : decode cX11_digest 129 = .ok (.iadd, 1) := by decide +kernel
theorem dX11_digest_130 : decode cX11_digest 130 = .ok (.iconst 3, 1) := by decide +kernel
theorem dX11_digest_131 : decode cX11_digest 131 = .ok (.iadd, 1) := by decide +kernel
theorem dX11_digest_132 : decode cX11_digest 132 = .ok (.iaload, 1) := by decide +kernel
theorem dX11_digest_133 : decode cX11_digest 133 = .ok (.i2l, 1) := by decide +kernel
theorem dX11_digest_134 : decode cX11_digest 134 = .ok (.invokevirtual 186, 3) := by decide +kernel
theorem dX11_digest_137 : decode cX11_digest 137 = .ok (.aload_n 0, 1) := by decide +kernel
theorem dX11_digest_138 : decode cX11_digest 138 = .ok (.aload_n 0, 1) := by decide +kernel
theorem dX11_digest_139 : decode cX11_digest 139 = .ok (.iload_n 1, 1) := by decide +kernel
theorem dX11_digest_140 : decode cX11_digest 140 = .ok (.invokevirtual 141, 3) := by decide +kernel
theorem dX11_digest_143 : decode cX11_digest 143 = .ok (.i2l, 1) := by decide +kernel
theorem dX11_digest_144 : decode cX11_digest 144 = .ok (.invokevirtual 186, 3) := by decide +kernel
theorem dX11_digest_147 : decode cX11_digest 147 = .ok (.iinc 1 1, 3) := by decide +kernel
theorem dX11_digest_150 : decode cX11_digest 150 = .ok (.goto (-61), 3) := by decide +kernel
theorem dX11_digest_153 : decode cX11_digest 153 = .ok (.aload_n 0, 1) := by decide +kernel
theorem dX11_digest_154 : decode cX11_digest 154 = .ok (.sipush 3383, 3) := by decide +kernel
theorem dX11_digest_157 : decode cX11_digest 157 = .ok (.bipush 6, 2) := by decide +kernel
theorem dX11_digest_159 : decode cX11_digest 159 = .ok (.invokevirtual 192, 3) := by decide +kernel
theorem dX11_digest_162 : decode cX11_digest 162 = .ok (.iconst 0, 1) := by decide +kernel
theorem dX11_digest_163 : decode cX11_digest 163 = .ok (.istore_n 1, 1) := by decide +kernel
theorem dX11_digest_164 : decode cX11_digest 164 = .ok (.iload_n 1, 1) := by decide +kernel
theorem dX11_digest_165 : decode cX11_digest 165 = .ok (.bipush 15, 2) := by decide +kernel
theorem dX11_digest_167 : decode cX11_digest 167 = .ok (.if_icmp .ge 21, 3) := by decide +kernel
theorem dX11_digest_170 : decode cX11_digest 170 = .ok (.aload_n 0, 1) := by decide +kernel
theorem dX11_digest_171 : decode cX11_digest 171 = .ok (.sipush 4443, 3) := by decide +kernel
theorem dX11_digest_174 : decode cX11_digest 174 = .ok (.iconst 4, 1) := by decide +kernel
theorem dX11_digest_175 : decode cX11_digest 175 = .ok (.iload_n 1, 1) := by decide +kernel
theorem dX11_digest_176 : decode cX11_digest 176 = .ok (.imul, 1) := by decide +kernel
theorem dX11_digest_177 : decode cX11_digest 177 = .ok (.iadd, 1) := by decide +kernel
theorem dX11_digest_178 : decode cX11_digest 178 = .ok (.iconst 3, 1) := by decide +kernel
theorem dX11_digest_179 : decode cX11_digest 179 = .ok (.invokevirtual 192, 3) := by decide +kernel
theorem dX11_digest_182 : decode cX11_digest 182 = .ok (.iinc 1 1, 3) := by decide +kernel
theorem dX11_digest_185 : decode cX11_digest 185 = .ok (.goto (-21), 3) := by decide +kernel
theorem dX11_digest_188 : decode cX11_digest 188 = .ok (.aload_n 0, 1) := by decide +kernel
theorem dX11_digest_189 : decode cX11_digest 189 = .ok (.aload_n 0, 1) := by decide +kernel
theorem dX11_digest_190 : decode cX11_digest 190 = .ok (.getfield 7, 3) := by decide +kernel
theorem dX11_digest_193 : decode cX11_digest 193 = .ok (.sipush 4503, 3) := by decide +kernel
theorem dX11_digest_196 : decode cX11_digest 196 = .ok (.iaload, 1) := by decide +kernel
theorem dX11_digest_197 : decode cX11_digest 197 = .ok (.i2l, 1) := by decide +kernel
theorem dX11_digest_198 : decode cX11_digest 198 = .ok (.invokevirtual 186, 3) := by decide +kernel
theorem dX11_digest_201 : decode cX11_digest 201 = .ok (.iconst 0, 1) := by decide +kernel
theorem dX11_digest_202 : decode cX11_digest 202 = .ok (.istore_n 1, 1) := by decide +kernel
theorem dX11_digest_203 : decode cX11_digest 203 = .ok (.iload_n 1, 1) := by decide +kernel
theorem dX11_digest_204 : decode cX11_digest 204 = .ok (.aload_n 0, 1) := by decide +kernel
theorem dX11_digest_205 : decode cX11_digest 205 = .ok (.getfield 7, 3) := by decide +kernel
theorem dX11_digest_208 : decode cX11_digest 208 = .ok (.sipush 4503, 3) := by decide +kernel
theorem dX11_digest_211 : decode cX11_digest 211 = .ok (.iaload, 1) := by decide +kernel
theorem dX11_digest_212 : decode cX11_digest 212 = .ok (.if_icmp .ge 23, 3) := by decide +kernel
theorem dX11_digest_215 : decode cX11_digest 215 = .ok (.aload_n 0, 1) := by decide +kernel
theorem dX11_digest_216 : decode cX11_digest 216 = .ok (.sipush 4504, 3) := by decide +kernel
theorem dX11_digest_219 : decode cX11_digest 219 = .ok (.sipush 260, 3) := by decide +kernel
theorem dX11_digest_222 : decode cX11_digest 222 = .ok (.iload_n 1, 1) := by decide +kernel
theorem dX11_digest_223 : decode cX11_digest 223 = .ok (.imul, 1) := by decide +kernel
theorem dX11_digest_224 : decode cX11_digest 224 = .ok (.iadd, 1) := by decide +kernel
theorem dX11_digest_225 : decode cX11_digest 225 = .ok (.iconst 5, 1) := by decide +kernel
theorem dX11_digest_226 : decode cX11_digest 226 = .ok (.invokevirtual 192, 3) := by decide +kernel
theorem dX11_digest_229 : decode cX11_digest 229 = .ok (.iinc 1 1, 3) := by decide +kernel
theorem dX11_digest_232 : decode cX11_digest 232 = .ok (.goto (-29), 3) := by decide +kernel
theorem dX11_digest_235 : decode cX11_digest 235 = .ok (.aload_n 0, 1) := by decide +kernel
theorem dX11_digest_236 : decode cX11_digest 236 = .ok (.sipush 12304, 3) := by decide +kernel
theorem dX11_digest_239 : decode cX11_digest 239 = .ok (.iconst 1, 1) := by decide +kernel
theorem dX11_digest_240 : decode cX11_digest 240 = .ok (.iconst 2, 1) := by decide +kernel
theorem dX11_digest_241 : decode cX11_digest 241 = .ok (.aload_n 0, 1) := by decide +kernel
theorem dX11_digest_242 : decode cX11_digest 242 = .ok (.getfield 7, 3) := by decide +kernel
theorem dX11_digest_245 : decode cX11_digest 245 = .ok (.sipush 12304, 3) := by decide +kernel
theorem dX11_digest_248 : decode cX11_digest 248 = .ok (.iaload, 1) := by decide +kernel
theorem dX11_digest_249 : decode cX11_digest 249 = .ok (.imul, 1) := by decide +kernel
theorem dX11_digest_250 : decode cX11_digest 250 = .ok (.iadd, 1) := by decide +kernel
theorem dX11_digest_251 : decode cX11_digest 251 = .ok (.invokevirtual 192, 3) := by decide +kernel
theorem dX11_digest_254 : decode cX11_digest 254 = .ok (.aload_n 0, 1) := by decide +kernel
theorem dX11_digest_255 : decode cX11_digest 255 = .ok (.getfield 182, 3) := by decide +kernel
theorem dX11_digest_258 : decode cX11_digest 258 = .ok (.lreturn, 1) := by decide +kernel
end
section
theorem dL_setFrameLength_0 : decode cL_setFrameLength 0 = .ok (.aload_n 2, 1) := by decide +kernel
theorem dL_setFrameLength_1 : decode cL_setFrameLength 1 = .ok (.iconst 0, 1) := by decide +kernel
theorem dL_setFrameLength_2 : decode cL_setFrameLength 2 = .ok (.aload_n 0, 1) := by decide +kernel
theorem dL_setFrameLength_3 : decode cL_setFrameLength 3 = .ok (.iload_n 1, 1) := by decide +kernel
theorem dL_setFrameLength_4 : decode cL_setFrameLength 4 = .ok (.invokevirtual 7, 3) := by decide +kernel
theorem dL_setFrameLength_7 : decode cL_setFrameLength 7 = .ok (.i2l, 1) := by decide +kernel
theorem dL_setFrameLength_8 : decode cL_setFrameLength 8 = .ok (.lastore, 1) := by decide +kernel
theorem dL_setFrameLength_9 : decode cL_setFrameLength 9 = .ok (.goto 9, 3) := by decide +kernel
theorem dL_setFrameLength_12 : decode cL_setFrameLength 12 = .ok (.astore_n 3, 1) := by decide +kernel
theorem dL_setFrameLength_13 : decode cL_setFrameLength 13 = .ok (.iconst 1, 1) := by decide +kernel
theorem dL_setFrameLength_14 : decode cL_setFrameLength 14 = .ok (.ireturn, 1) := by decide +kernel
theorem dL_setFrameLength_15 : decode cL_setFrameLength 15 = .ok (.astore_n 3, 1) := by decide +kernel
theorem dL_setFrameLength_16 : decode cL_setFrameLength 16 = .ok (.iconst 2, 1) := by decide +kernel
theorem dL_setFrameLength_17 : decode cL_setFrameLength 17 = .ok (.ireturn, 1) := by decide +kernel
theorem dL_setFrameLength_18 : decode cL_setFrameLength 18 = .ok (.iconst 0, 1) := by decide +kernel
theorem dL_setFrameLength_19 : decode cL_setFrameLength 19 = .ok (.ireturn, 1) := by decide +kernel
theorem dL_setChannel_0 : decode cL_setChannel 0 = .ok (.aload 5, 2) := by decide +kernel
theorem dL_setChannel_2 : decode cL_setChannel 2 = .ok (.iconst 0, 1) := by decide +kernel
theorem dL_setChannel_3 : decode cL_setChannel 3 = .ok (.aload_n 0, 1) := by decide +kernel
theorem dL_setChannel_4 : decode cL_setChannel 4 = .ok (.iload_n 1, 1) := by decide +kernel
theorem dL_setChannel_5 : decode cL_setChannel 5 = .ok (.iload_n 2, 1) := by decide +kernel
theorem dL_setChannel_6 : decode cL_setChannel 6 = .ok (.iload_n 3, 1) := by decide +kernel
theorem dL_setChannel_7 : decode cL_setChannel 7 = .ok (.iload 4, 2) := by decide +kernel
theorem dL_setChannel_9 : decode cL_setChannel 9 = .ok (.invokevirtual 17, 3) := by decide +kernel
theorem dL_setChannel_12 : decode cL_setChannel 12 = .ok (.i2l, 1) := by decide +kernel
theorem dL_setChannel_13 : decode cL_setChannel 13 = .ok (.lastore, 1) := by decide +kernel
theorem dL_setChannel_14 : decode cL_setChannel 14 = .ok (.goto 11, 3) := by decide +kernel
theorem dL_setChannel_17 : decode cL_setChannel 17 = .ok (.astore 6, 2) := by decide +kernel
theorem dL_setChannel_19 : decode cL_setChannel 19 = .ok (.iconst 1, 1) := by decide +kernel
theorem dL_setChannel_20 : decode cL_setChannel 20 = .ok (.ireturn, 1) := by decide +kernel
theorem dL_setChannel_21 : decode cL_setChannel 21 = .ok (.astore 6, 2) := by decide +kernel
theorem dL_setChannel_23 : decode cL_setChannel 23 = .ok (.iconst 2, 1) := by decide +kernel
theorem dL_setChannel_24 : decode cL_setChannel 24 = .ok (.ireturn, 1) := by decide +kernel
theorem dL_setChannel_25 : decode cL_setChannel 25 = .ok (.iconst 0, 1) := by decide +kernel
theorem dL_setChannel_26 : decode cL_setChannel 26 = .ok (.ireturn, 1) := by decide +kernel
theorem dL_setClock_0 : decode cL_setClock 0 = .ok (.aload_n 3, 1) := by decide +kernel
theorem dL_setClock_1 : decode cL_setClock 1 = .ok (.iconst 0, 1) := by decide +kernel
theorem dL_setClock_2 : decode cL_setClock 2 = .ok (.aload_n 0, 1) := by decide +kernel
theorem dL_setClock_3 : decode cL_setClock 3 = .ok (.iload_n 1, 1) := by decide +kernel
theorem dL_setClock_4 : decode cL_setClock 4 = .ok (.iload_n 2, 1) := by decide +kernel
theorem dL_setClock_5 : decode cL_setClock 5 = .ok (.invokevirtual 23, 3) := by decide +kernel
theorem dL_setClock_8 : decode cL_setClock 8 = .ok (.i2l, 1) := by decide +kernel
theorem dL_setClock_9 : decode cL_setClock 9 = .ok (.lastore, 1) := by decide +kernel
theorem dL_setClock_10 : decode cL_setClock 10 = .ok (.goto 7, 3) := by decide +kernel
theorem dL_setClock_13 : decode cL_setClock 13 = .ok (.astore 4, 2) := by decide +kernel
theorem dL_setClock_15 : decode cL_setClock 15 = .ok (.iconst 1, 1) := by decide +kernel
theorem dL_setClock_16 : decode cL_setClock 16 = .ok (.ireturn, 1) := by decide +kernel
theorem dL_setClock_17 : decode cL_setClock 17 = .ok (.iconst 0, 1) := by decide +kernel
theorem dL_setClock_18 : decode cL_setClock 18 = .ok (.ireturn, 1) := by decide +kernel
theorem dL_addPacket_0 : decode cL_addPacket 0 = .ok (.aload 5, 2) := by decide +kernel
theorem dL_addPacket_2 : decode cL_addPacket 2 = .ok (.iconst 0, 1) := by decide +kernel
theorem dL_addPacket_3 : decode cL_addPacket 3 = .ok (.aload_n 0, 1) := by decide +kernel
theorem dL_addPacket_4 : decode cL_addPacket 4 = .ok (.iload_n 1, 1) := by decide +kernel
theorem dL_addPacket_5 : decode cL_addPacket 5 = .ok (.iload_n 2, 1) := by decide +kernel
theorem dL_addPacket_6 : decode cL_addPacket 6 = .ok (.iload_n 3, 1) := by decide +kernel
theorem dL_addPacket_7 : decode cL_addPacket 7 = .ok (.iload 4, 2) := by decide +kernel
theorem dL_addPacket_9 : decode cL_addPacket 9 = .ok (.invokevirtual 27, 3) := by decide +kernel
theorem dL_addPacket_12 : decode cL_addPacket 12 = .ok (.i2l, 1) := by decide +kernel
theorem dL_addPacket_13 : decode cL_addPacket 13 = .ok (.lastore, 1) := by decide +kernel
theorem dL_addPacket_14 : decode cL_addPacket 14 = .ok (.goto 15, 3) := by decide +kernel
theorem dL_addPacket_17 : decode cL_addPacket 17 = .ok (.astore 6, 2) := by decide +kernel
theorem dL_addPacket_19 : decode cL_addPacket 19 = .ok (.iconst 1, 1) := by decide +kernel
theorem dL_addPacket_20 : decode cL_addPacket 20 = .ok (.ireturn, 1) := by decide +kernel
theorem dL_addPacket_21 : decode cL_addPacket 21 = .ok (.astore 6, 2) := by decide +kernel
theorem dL_addPacket_23 : decode cL_addPacket 23 = .ok (.iconst 2, 1) := by decide +kernel
theorem dL_addPacket_24 : decode cL_addPacket 24 = .ok (.ireturn, 1) := by decide +kernel
theorem dL_addPacket_25 : decode cL_addPacket 25 = .ok (.astore 6, 2) := by decide +kernel
theorem dL_addPacket_27 : decode cL_addPacket 27 = .ok (.iconst 3, 1) := by decide +kernel
theorem dL_addPacket_28 : decode cL_addPacket 28 = .ok (.ireturn, 1) := by decide +kernel
theorem dL_addPacket_29 : decode cL_addPacket 29 = .ok (.iconst 0, 1) := by decide +kernel
theorem dL_addPacket_30 : decode cL_addPacket 30 = .ok (.ireturn, 1) := by decide +kernel
theorem dL_queue_0 : decode cL_queue 0 = .ok (.aload_n 3, 1) := by decide +kernel
theorem dL_queue_1 : decode cL_queue 1 = .ok (.iconst 0, 1) := by decide +kernel
theorem dL_queue_2 : decode cL_queue 2 = .ok (.aload_n 0, 1) := by decide +kernel
theorem dL_queue_3 : decode cL_queue 3 = .ok (.iload_n 1, 1) := by decide +kernel
theorem dL_queue_4 : decode cL_queue 4 = .ok (.iload_n 2, 1) := by decide +kernel
theorem dL_queue_5 : decode cL_queue 5 = .ok (.invokevirtual 30, 3) := by decide +kernel
theorem dL_queue_8 : decode cL_queue 8 = .ok (.i2l, 1) := by decide +kernel
theorem dL_queue_9 : decode cL_queue 9 = .ok (.lastore, 1) := by decide +kernel
theorem dL_queue_10 : decode cL_queue 10 = .ok (.goto 11, 3) := by decide +kernel
theorem dL_queue_13 : decode cL_queue 13 = .ok (.astore 4, 2) := by decide +kernel
theorem dL_queue_15 : decode cL_queue 15 = .ok (.iconst 1, 1) := by decide +kernel
theorem dL_queue_16 : decode cL_queue 16 = .ok (.ireturn, 1) := by decide +kernel
theorem dL_queue_17 : decode cL_queue 17 = .ok (.astore 4, 2) := by decide +kernel
theorem dL_queue_19 : decode cL_queue 19 = .ok (.iconst 2, 1) := by decide +kernel
theorem dL_queue_20 : decode cL_queue 20 = .ok (.ireturn, 1) := by decide +kernel
theorem dL_queue_21 : decode cL_queue 21 = .ok (.iconst 0, 1) := by decide +kernel
theorem dL_queue_22 : decode cL_queue 22 = .ok (.ireturn, 1) := by decide +kernel
theorem dL_send_0 : decode cL_send 0 = .ok (.aload_n 2, 1) := by decide +kernel
theorem dL_send_1 : decode cL_send 1 = .ok (.iconst 0, 1) := by decide +kernel
theorem dL_send_2 : decode cL_send 2 = .ok (.aload_n 0, 1) := by decide +kernel
theorem dL_send_3 : decode cL_send 3 = .ok (.iload_n 1, 1) := by decide +kernel
theorem dL_send_4 : decode cL_send 4 = .ok (.invokevirtual 33, 3) := by decide +kernel
theorem dL_send_7 : decode cL_send 7 = .ok (.i2l, 1) := by decide +kernel
theorem dL_send_8 : decode cL_send 8 = .ok (.lastore, 1) := by decide +kernel
theorem dL_send_9 : decode cL_send 9 = .ok (.goto 9, 3) := by decide +kernel
theorem dL_send_12 : decode cL_send 12 = .ok (.astore_n 3, 1) := by decide +kernel
theorem dL_send_13 : decode cL_send 13 = .ok (.iconst 1, 1) := by decide +kernel
theorem dL_send_14 : decode cL_send 14 = .ok (.ireturn, 1) := by decide +kernel
theorem dL_send_15 : decode cL_send 15 = .ok (.astore_n 3, 1) := by decide +kernel
theorem dL_send_16 : decode cL_send 16 = .ok (.iconst 2, 1) := by decide +kernel
theorem dL_send_17 : decode cL_send 17 = .ok (.ireturn, 1) := by decide +kernel
theorem dL_send_18 : decode cL_send 18 = .ok (.iconst 0, 1) := by decide +kernel
theorem dL_send_19 : decode cL_send 19 = .ok (.ireturn, 1) := by decide +kernel
theorem dL_sent_0 : decode cL_sent 0 = .ok (.aload_n 3, 1) := by decide +kernel
theorem dL_sent_1 : decode cL_sent 1 = .ok (.iconst 0, 1) := by decide +kernel
theorem dL_sent_2 : decode cL_sent 2 = .ok (.aload_n 0, 1) := by decide +kernel
theorem dL_sent_3 : decode cL_sent 3 = .ok (.iload_n 1, 1) := by decide +kernel
theorem dL_sent_4 : decode cL_sent 4 = .ok (.iload_n 2, 1) := by decide +kernel
theorem dL_sent_5 : decode cL_sent 5 = .ok (.invokevirtual 36, 3) := by decide +kernel
theorem dL_sent_8 : decode cL_sent 8 = .ok (.i2l, 1) := by decide +kernel
theorem dL_sent_9 : decode cL_sent 9 = .ok (.lastore, 1) := by decide +kernel
theorem dL_sent_10 : decode cL_sent 10 = .ok (.goto 11, 3) := by decide +kernel
theorem dL_sent_13 : decode cL_sent 13 = .ok (.astore 4, 2) := by decide +kernel
theorem dL_sent_15 : decode cL_sent 15 = .ok (.iconst 1, 1) := by decide +kernel
theorem dL_sent_16 : decode cL_sent 16 = .ok (.ireturn, 1) := by decide +kernel
theorem dL_sent_17 : decode cL_sent 17 = .ok (.astore 4, 2) := by decide +kernel
theorem dL_sent_19 : decode cL_sent 19 = .ok (.iconst 2, 1) := by decide +kernel
theorem dL_sent_20 : decode cL_sent 20 = .ok (.ireturn, 1) := by decide +kernel
theorem dL_sent_21 : decode cL_sent 21 = .ok (.iconst 0, 1) := by decide +kernel
theorem dL_sent_22 : decode cL_sent 22 = .ok (.ireturn, 1) := by decide +kernel
theorem dL_frameByte_0 : decode cL_frameByte 0 = .ok (.aload_n 3, 1) := by decide +kernel
theorem dL_frameByte_1 : decode cL_frameByte 1 = .ok (.iconst 0, 1) := by decide +kernel
theorem dL_frameByte_2 : decode cL_frameByte 2 = .ok (.aload_n 0, 1) := by decide +kernel
theorem dL_frameByte_3 : decode cL_frameByte 3 = .ok (.iload_n 1, 1) := by decide +kernel
theorem dL_frameByte_4 : decode cL_frameByte 4 = .ok (.iload_n 2, 1) := by decide +kernel
theorem dL_frameByte_5 : decode cL_frameByte 5 = .ok (.invokevirtual 39, 3) := by decide +kernel
theorem dL_frameByte_8 : decode cL_frameByte 8 = .ok (.i2l, 1) := by decide +kernel
theorem dL_frameByte_9 : decode cL_frameByte 9 = .ok (.lastore, 1) := by decide +kernel
theorem dL_frameByte_10 : decode cL_frameByte 10 = .ok (.goto 7, 3) := by decide +kernel
theorem dL_frameByte_13 : decode cL_frameByte 13 = .ok (.astore 4, 2) := by decide +kernel
theorem dL_frameByte_15 : decode cL_frameByte 15 = .ok (.iconst 1, 1) := by decide +kernel
theorem dL_frameByte_16 : decode cL_frameByte 16 = .ok (.ireturn, 1) := by decide +kernel
theorem dL_frameByte_17 : decode cL_frameByte 17 = .ok (.iconst 0, 1) := by decide +kernel
theorem dL_frameByte_18 : decode cL_frameByte 18 = .ok (.ireturn, 1) := by decide +kernel
theorem dL_corrupt_0 : decode cL_corrupt 0 = .ok (.aload 4, 2) := by decide +kernel
theorem dL_corrupt_2 : decode cL_corrupt 2 = .ok (.iconst 0, 1) := by decide +kernel
theorem dL_corrupt_3 : decode cL_corrupt 3 = .ok (.aload_n 0, 1) := by decide +kernel
theorem dL_corrupt_4 : decode cL_corrupt 4 = .ok (.iload_n 1, 1) := by decide +kernel
theorem dL_corrupt_5 : decode cL_corrupt 5 = .ok (.iload_n 2, 1) := by decide +kernel
theorem dL_corrupt_6 : decode cL_corrupt 6 = .ok (.iload_n 3, 1) := by decide +kernel
theorem dL_corrupt_7 : decode cL_corrupt 7 = .ok (.invokevirtual 42, 3) := by decide +kernel
theorem dL_corrupt_10 : decode cL_corrupt 10 = .ok (.i2l, 1) := by decide +kernel
theorem dL_corrupt_11 : decode cL_corrupt 11 = .ok (.lastore, 1) := by decide +kernel
theorem dL_corrupt_12 : decode cL_corrupt 12 = .ok (.goto 11, 3) := by decide +kernel
theorem dL_corrupt_15 : decode cL_corrupt 15 = .ok (.astore 5, 2) := by decide +kernel
theorem dL_corrupt_17 : decode cL_corrupt 17 = .ok (.iconst 1, 1) := by decide +kernel
theorem dL_corrupt_18 : decode cL_corrupt 18 = .ok (.ireturn, 1) := by decide +kernel
theorem dL_corrupt_19 : decode cL_corrupt 19 = .ok (.astore 5, 2) := by decide +kernel
theorem dL_corrupt_21 : decode cL_corrupt 21 = .ok (.iconst 2, 1) := by decide +kernel
theorem dL_corrupt_22 : decode cL_corrupt 22 = .ok (.ireturn, 1) := by decide +kernel
theorem dL_corrupt_23 : decode cL_corrupt 23 = .ok (.iconst 0, 1) := by decide +kernel
theorem dL_corrupt_24 : decode cL_corrupt 24 = .ok (.ireturn, 1) := by decide +kernel
theorem dL_repair_0 : decode cL_repair 0 = .ok (.aload_n 2, 1) := by decide +kernel
theorem dL_repair_1 : decode cL_repair 1 = .ok (.iconst 0, 1) := by decide +kernel
theorem dL_repair_2 : decode cL_repair 2 = .ok (.aload_n 0, 1) := by decide +kernel
theorem dL_repair_3 : decode cL_repair 3 = .ok (.iload_n 1, 1) := by decide +kernel
theorem dL_repair_4 : decode cL_repair 4 = .ok (.invokevirtual 46, 3) := by decide +kernel
theorem dL_repair_7 : decode cL_repair 7 = .ok (.i2l, 1) := by decide +kernel
theorem dL_repair_8 : decode cL_repair 8 = .ok (.lastore, 1) := by decide +kernel
theorem dL_repair_9 : decode cL_repair 9 = .ok (.goto 6, 3) := by decide +kernel
theorem dL_repair_12 : decode cL_repair 12 = .ok (.astore_n 3, 1) := by decide +kernel
theorem dL_repair_13 : decode cL_repair 13 = .ok (.iconst 1, 1) := by decide +kernel
theorem dL_repair_14 : decode cL_repair 14 = .ok (.ireturn, 1) := by decide +kernel
theorem dL_repair_15 : decode cL_repair 15 = .ok (.iconst 0, 1) := by decide +kernel
theorem dL_repair_16 : decode cL_repair 16 = .ok (.ireturn, 1) := by decide +kernel
theorem dL_lose_0 : decode cL_lose 0 = .ok (.aload_n 2, 1) := by decide +kernel
theorem dL_lose_1 : decode cL_lose 1 = .ok (.iconst 0, 1) := by decide +kernel
theorem dL_lose_2 : decode cL_lose 2 = .ok (.aload_n 0, 1) := by decide +kernel
theorem dL_lose_3 : decode cL_lose 3 = .ok (.iload_n 1, 1) := by decide +kernel
theorem dL_lose_4 : decode cL_lose 4 = .ok (.invokevirtual 49, 3) := by decide +kernel
theorem dL_lose_7 : decode cL_lose 7 = .ok (.i2l, 1) := by decide +kernel
theorem dL_lose_8 : decode cL_lose 8 = .ok (.lastore, 1) := by decide +kernel
theorem dL_lose_9 : decode cL_lose 9 = .ok (.goto 6, 3) := by decide +kernel
theorem dL_lose_12 : decode cL_lose 12 = .ok (.astore_n 3, 1) := by decide +kernel
theorem dL_lose_13 : decode cL_lose 13 = .ok (.iconst 1, 1) := by decide +kernel
theorem dL_lose_14 : decode cL_lose 14 = .ok (.ireturn, 1) := by decide +kernel
theorem dL_lose_15 : decode cL_lose 15 = .ok (.iconst 0, 1) := by decide +kernel
theorem dL_lose_16 : decode cL_lose 16 = .ok (.ireturn, 1) := by decide +kernel
theorem dL_receive_0 : decode cL_receive 0 = .ok (.aload_n 2, 1) := by decide +kernel
theorem dL_receive_1 : decode cL_receive 1 = .ok (.iconst 0, 1) := by decide +kernel
theorem dL_receive_2 : decode cL_receive 2 = .ok (.aload_n 0, 1) := by decide +kernel
theorem dL_receive_3 : decode cL_receive 3 = .ok (.iload_n 1, 1) := by decide +kernel
theorem dL_receive_4 : decode cL_receive 4 = .ok (.invokevirtual 52, 3) := by decide +kernel
theorem dL_receive_7 : decode cL_receive 7 = .ok (.i2l, 1) := by decide +kernel
theorem dL_receive_8 : decode cL_receive 8 = .ok (.lastore, 1) := by decide +kernel
theorem dL_receive_9 : decode cL_receive 9 = .ok (.goto 9, 3) := by decide +kernel
theorem dL_receive_12 : decode cL_receive 12 = .ok (.astore_n 3, 1) := by decide +kernel
theorem dL_receive_13 : decode cL_receive 13 = .ok (.iconst 1, 1) := by decide +kernel
theorem dL_receive_14 : decode cL_receive 14 = .ok (.ireturn, 1) := by decide +kernel
theorem dL_receive_15 : decode cL_receive 15 = .ok (.astore_n 3, 1) := by decide +kernel
theorem dL_receive_16 : decode cL_receive 16 = .ok (.iconst 2, 1) := by decide +kernel
theorem dL_receive_17 : decode cL_receive 17 = .ok (.ireturn, 1) := by decide +kernel
theorem dL_receive_18 : decode cL_receive 18 = .ok (.iconst 0, 1) := by decide +kernel
theorem dL_receive_19 : decode cL_receive 19 = .ok (.ireturn, 1) := by decide +kernel
theorem dL_count_0 : decode cL_count 0 = .ok (.aload_n 2, 1) := by decide +kernel
theorem dL_count_1 : decode cL_count 1 = .ok (.iconst 0, 1) := by decide +kernel
theorem dL_count_2 : decode cL_count 2 = .ok (.aload_n 0, 1) := by decide +kernel
theorem dL_count_3 : decode cL_count 3 = .ok (.iload_n 1, 1) := by decide +kernel
theorem dL_count_4 : decode cL_count 4 = .ok (.invokevirtual 55, 3) := by decide +kernel
theorem dL_count_7 : decode cL_count 7 = .ok (.i2l, 1) := by decide +kernel
theorem dL_count_8 : decode cL_count 8 = .ok (.lastore, 1) := by decide +kernel
theorem dL_count_9 : decode cL_count 9 = .ok (.goto 6, 3) := by decide +kernel
theorem dL_count_12 : decode cL_count 12 = .ok (.astore_n 3, 1) := by decide +kernel
theorem dL_count_13 : decode cL_count 13 = .ok (.iconst 1, 1) := by decide +kernel
theorem dL_count_14 : decode cL_count 14 = .ok (.ireturn, 1) := by decide +kernel
theorem dL_count_15 : decode cL_count 15 = .ok (.iconst 0, 1) := by decide +kernel
theorem dL_count_16 : decode cL_count 16 = .ok (.ireturn, 1) := by decide +kernel
theorem dL_received_0 : decode cL_received 0 = .ok (.aload_n 3, 1) := by decide +kernel
theorem dL_received_1 : decode cL_received 1 = .ok (.iconst 0, 1) := by decide +kernel
theorem dL_received_2 : decode cL_received 2 = .ok (.aload_n 0, 1) := by decide +kernel
theorem dL_received_3 : decode cL_received 3 = .ok (.iload_n 1, 1) := by decide +kernel
theorem dL_received_4 : decode cL_received 4 = .ok (.iload_n 2, 1) := by decide +kernel
theorem dL_received_5 : decode cL_received 5 = .ok (.invokevirtual 58, 3) := by decide +kernel
theorem dL_received_8 : decode cL_received 8 = .ok (.i2l, 1) := by decide +kernel
theorem dL_received_9 : decode cL_received 9 = .ok (.lastore, 1) := by decide +kernel
theorem dL_received_10 : decode cL_received 10 = .ok (.goto 11, 3) := by decide +kernel
theorem dL_received_13 : decode cL_received 13 = .ok (.astore 4, 2) := by decide +kernel
theorem dL_received_15 : decode cL_received 15 = .ok (.iconst 1, 1) := by decide +kernel
theorem dL_received_16 : decode cL_received 16 = .ok (.ireturn, 1) := by decide +kernel
theorem dL_received_17 : decode cL_received 17 = .ok (.astore 4, 2) := by decide +kernel
theorem dL_received_19 : decode cL_received 19 = .ok (.iconst 2, 1) := by decide +kernel
theorem dL_received_20 : decode cL_received 20 = .ok (.ireturn, 1) := by decide +kernel
theorem dL_received_21 : decode cL_received 21 = .ok (.iconst 0, 1) := by decide +kernel
theorem dL_received_22 : decode cL_received 22 = .ok (.ireturn, 1) := by decide +kernel
theorem dL_application_0 : decode cL_application 0 = .ok (.aload_n 3, 1) := by decide +kernel
theorem dL_application_1 : decode cL_application 1 = .ok (.iconst 0, 1) := by decide +kernel
theorem dL_application_2 : decode cL_application 2 = .ok (.aload_n 0, 1) := by decide +kernel
theorem dL_application_3 : decode cL_application 3 = .ok (.iload_n 1, 1) := by decide +kernel
theorem dL_application_4 : decode cL_application 4 = .ok (.iload_n 2, 1) := by decide +kernel
theorem dL_application_5 : decode cL_application 5 = .ok (.invokevirtual 61, 3) := by decide +kernel
theorem dL_application_8 : decode cL_application 8 = .ok (.i2l, 1) := by decide +kernel
theorem dL_application_9 : decode cL_application 9 = .ok (.lastore, 1) := by decide +kernel
theorem dL_application_10 : decode cL_application 10 = .ok (.goto 11, 3) := by decide +kernel
theorem dL_application_13 : decode cL_application 13 = .ok (.astore 4, 2) := by decide +kernel
theorem dL_application_15 : decode cL_application 15 = .ok (.iconst 1, 1) := by decide +kernel
theorem dL_application_16 : decode cL_application 16 = .ok (.ireturn, 1) := by decide +kernel
theorem dL_application_17 : decode cL_application 17 = .ok (.astore 4, 2) := by decide +kernel
theorem dL_application_19 : decode cL_application 19 = .ok (.iconst 2, 1) := by decide +kernel
theorem dL_application_20 : decode cL_application 20 = .ok (.ireturn, 1) := by decide +kernel
theorem dL_application_21 : decode cL_application 21 = .ok (.iconst 0, 1) := by decide +kernel
theorem dL_application_22 : decode cL_application 22 = .ok (.ireturn, 1) := by decide +kernel
theorem dL_packet_0 : decode cL_packet 0 = .ok (.aload_n 3, 1) := by decide +kernel
theorem dL_packet_1 : decode cL_packet 1 = .ok (.iconst 0, 1) := by decide +kernel
theorem dL_packet_2 : decode cL_packet 2 = .ok (.aload_n 0, 1) := by decide +kernel
theorem dL_packet_3 : decode cL_packet 3 = .ok (.iload_n 1, 1) := by decide +kernel
theorem dL_packet_4 : decode cL_packet 4 = .ok (.iload_n 2, 1) := by decide +kernel
theorem dL_packet_5 : decode cL_packet 5 = .ok (.invokevirtual 64, 3) := by decide +kernel
theorem dL_packet_8 : decode cL_packet 8 = .ok (.i2l, 1) := by decide +kernel
theorem dL_packet_9 : decode cL_packet 9 = .ok (.lastore, 1) := by decide +kernel
theorem dL_packet_10 : decode cL_packet 10 = .ok (.goto 11, 3) := by decide +kernel
theorem dL_packet_13 : decode cL_packet 13 = .ok (.astore 4, 2) := by decide +kernel
theorem dL_packet_15 : decode cL_packet 15 = .ok (.iconst 1, 1) := by decide +kernel
theorem dL_packet_16 : decode cL_packet 16 = .ok (.ireturn, 1) := by decide +kernel
theorem dL_packet_17 : decode cL_packet 17 = .ok (.astore 4, 2) := by decide +kernel
theorem dL_packet_19 : decode cL_packet 19 = .ok (.iconst 2, 1) := by decide +kernel
theorem dL_packet_20 : decode cL_packet 20 = .ok (.ireturn, 1) := by decide +kernel
theorem dL_packet_21 : decode cL_packet 21 = .ok (.iconst 0, 1) := by decide +kernel
theorem dL_packet_22 : decode cL_packet 22 = .ok (.ireturn, 1) := by decide +kernel
theorem dL_packetByte_0 : decode cL_packetByte 0 = .ok (.aload_n 3, 1) := by decide +kernel
theorem dL_packetByte_1 : decode cL_packetByte 1 = .ok (.iconst 0, 1) := by decide +kernel
theorem dL_packetByte_2 : decode cL_packetByte 2 = .ok (.aload_n 0, 1) := by decide +kernel
theorem dL_packetByte_3 : decode cL_packetByte 3 = .ok (.iload_n 1, 1) := by decide +kernel
theorem dL_packetByte_4 : decode cL_packetByte 4 = .ok (.iload_n 2, 1) := by decide +kernel
theorem dL_packetByte_5 : decode cL_packetByte 5 = .ok (.invokevirtual 67, 3) := by decide +kernel
theorem dL_packetByte_8 : decode cL_packetByte 8 = .ok (.i2l, 1) := by decide +kernel
theorem dL_packetByte_9 : decode cL_packetByte 9 = .ok (.lastore, 1) := by decide +kernel
theorem dL_packetByte_10 : decode cL_packetByte 10 = .ok (.goto 7, 3) := by decide +kernel
theorem dL_packetByte_13 : decode cL_packetByte 13 = .ok (.astore 4, 2) := by decide +kernel
theorem dL_packetByte_15 : decode cL_packetByte 15 = .ok (.iconst 1, 1) := by decide +kernel
theorem dL_packetByte_16 : decode cL_packetByte 16 = .ok (.ireturn, 1) := by decide +kernel
theorem dL_packetByte_17 : decode cL_packetByte 17 = .ok (.iconst 0, 1) := by decide +kernel
theorem dL_packetByte_18 : decode cL_packetByte 18 = .ok (.ireturn, 1) := by decide +kernel
theorem dL_groundTime_0 : decode cL_groundTime 0 = .ok (.aload_n 3, 1) := by decide +kernel
theorem dL_groundTime_1 : decode cL_groundTime 1 = .ok (.iconst 0, 1) := by decide +kernel
theorem dL_groundTime_2 : decode cL_groundTime 2 = .ok (.aload_n 0, 1) := by decide +kernel
theorem dL_groundTime_3 : decode cL_groundTime 3 = .ok (.lload_n 1, 1) := by decide +kernel
theorem dL_groundTime_4 : decode cL_groundTime 4 = .ok (.invokevirtual 70, 3) := by decide +kernel
theorem dL_groundTime_7 : decode cL_groundTime 7 = .ok (.lastore, 1) := by decide +kernel
theorem dL_groundTime_8 : decode cL_groundTime 8 = .ok (.goto 11, 3) := by decide +kernel
theorem dL_groundTime_11 : decode cL_groundTime 11 = .ok (.astore 4, 2) := by decide +kernel
theorem dL_groundTime_13 : decode cL_groundTime 13 = .ok (.iconst 1, 1) := by decide +kernel
theorem dL_groundTime_14 : decode cL_groundTime 14 = .ok (.ireturn, 1) := by decide +kernel
theorem dL_groundTime_15 : decode cL_groundTime 15 = .ok (.astore 4, 2) := by decide +kernel
theorem dL_groundTime_17 : decode cL_groundTime 17 = .ok (.iconst 2, 1) := by decide +kernel
theorem dL_groundTime_18 : decode cL_groundTime 18 = .ok (.ireturn, 1) := by decide +kernel
theorem dL_groundTime_19 : decode cL_groundTime 19 = .ok (.iconst 0, 1) := by decide +kernel
theorem dL_groundTime_20 : decode cL_groundTime 20 = .ok (.ireturn, 1) := by decide +kernel
theorem dL_undo_0 : decode cL_undo 0 = .ok (.aload_n 1, 1) := by decide +kernel
theorem dL_undo_1 : decode cL_undo 1 = .ok (.iconst 0, 1) := by decide +kernel
theorem dL_undo_2 : decode cL_undo 2 = .ok (.aload_n 0, 1) := by decide +kernel
theorem dL_undo_3 : decode cL_undo 3 = .ok (.invokevirtual 74, 3) := by decide +kernel
theorem dL_undo_6 : decode cL_undo 6 = .ok (.i2l, 1) := by decide +kernel
theorem dL_undo_7 : decode cL_undo 7 = .ok (.lastore, 1) := by decide +kernel
theorem dL_undo_8 : decode cL_undo 8 = .ok (.goto 6, 3) := by decide +kernel
theorem dL_undo_11 : decode cL_undo 11 = .ok (.astore_n 2, 1) := by decide +kernel
theorem dL_undo_12 : decode cL_undo 12 = .ok (.iconst 1, 1) := by decide +kernel
theorem dL_undo_13 : decode cL_undo 13 = .ok (.ireturn, 1) := by decide +kernel
theorem dL_undo_14 : decode cL_undo 14 = .ok (.iconst 0, 1) := by decide +kernel
theorem dL_undo_15 : decode cL_undo 15 = .ok (.ireturn, 1) := by decide +kernel
theorem dL_law_0 : decode cL_law 0 = .ok (.new 8, 3) := by decide +kernel
theorem dL_law_3 : decode cL_law 3 = .ok (.dup, 1) := by decide +kernel
theorem dL_law_4 : decode cL_law 4 = .ok (.invokespecial 78, 3) := by decide +kernel
theorem dL_law_7 : decode cL_law 7 = .ok (.astore_n 1, 1) := by decide +kernel
theorem dL_law_8 : decode cL_law 8 = .ok (.new 79, 3) := by decide +kernel
theorem dL_law_11 : decode cL_law 11 = .ok (.dup, 1) := by decide +kernel
theorem dL_law_12 : decode cL_law 12 = .ok (.invokespecial 81, 3) := by decide +kernel
theorem dL_law_15 : decode cL_law 15 = .ok (.astore_n 2, 1) := by decide +kernel
theorem dL_law_16 : decode cL_law 16 = .ok (.iconst 1, 1) := by decide +kernel
theorem dL_law_17 : decode cL_law 17 = .ok (.newarray .long, 2) := by decide +kernel
theorem dL_law_19 : decode cL_law 19 = .ok (.astore_n 3, 1) := by decide +kernel
theorem dL_law_20 : decode cL_law 20 = .ok (.iconst 0, 1) := by decide +kernel
theorem dL_law_21 : decode cL_law 21 = .ok (.istore 4, 2) := by decide +kernel
theorem dL_law_23 : decode cL_law 23 = .ok (.iload 4, 2) := by decide +kernel
theorem dL_law_25 : decode cL_law 25 = .ok (.aload_n 0, 1) := by decide +kernel
theorem dL_law_26 : decode cL_law 26 = .ok (.arraylength, 1) := by decide +kernel
theorem dL_law_27 : decode cL_law 27 = .ok (.iconst 5, 1) := by decide +kernel
theorem dL_law_28 : decode cL_law 28 = .ok (.isub, 1) := by decide +kernel
theorem dL_law_29 : decode cL_law 29 = .ok (.if_icmp .gt 1501, 3) := by decide +kernel
theorem dL_law_32 : decode cL_law 32 = .ok (.aload_n 0, 1) := by decide +kernel
theorem dL_law_33 : decode cL_law 33 = .ok (.iload 4, 2) := by decide +kernel
theorem dL_law_35 : decode cL_law 35 = .ok (.iaload, 1) := by decide +kernel
theorem dL_law_36 : decode cL_law 36 = .ok (.bipush 31, 2) := by decide +kernel
theorem dL_law_38 : decode cL_law 38 = .ok (.iand, 1) := by decide +kernel
theorem dL_law_39 : decode cL_law 39 = .ok (.tableswitch 1485 0 25 #[117, 173, 265, 333, 425, 493, 506, 562, 575, 643, 656, 724, 804, 860, 916, 972, 1028, 1096, 1164, 1177, 1245, 1313, 1327, 1340, 1427, 1471], 117) := by decide +kernel
theorem dL_law_156 : decode cL_law 156 = .ok (.aload_n 1, 1) := by decide +kernel
theorem dL_law_157 : decode cL_law 157 = .ok (.aload_n 0, 1) := by decide +kernel
theorem dL_law_158 : decode cL_law 158 = .ok (.iload 4, 2) := by decide +kernel
theorem dL_law_160 : decode cL_law 160 = .ok (.iconst 1, 1) := by decide +kernel
theorem dL_law_161 : decode cL_law 161 = .ok (.iadd, 1) := by decide +kernel
theorem dL_law_162 : decode cL_law 162 = .ok (.iaload, 1) := by decide +kernel
theorem dL_law_163 : decode cL_law 163 = .ok (.aload_n 3, 1) := by decide +kernel
theorem dL_law_164 : decode cL_law 164 = .ok (.invokestatic 82, 3) := by decide +kernel
theorem dL_law_167 : decode cL_law 167 = .ok (.istore 5, 2) := by decide +kernel
theorem dL_law_169 : decode cL_law 169 = .ok (.aload_n 2, 1) := by decide +kernel
theorem dL_law_170 : decode cL_law 170 = .ok (.aload_n 0, 1) := by decide +kernel
theorem dL_law_171 : decode cL_law 171 = .ok (.iload 4, 2) := by decide +kernel
theorem dL_law_173 : decode cL_law 173 = .ok (.iconst 1, 1) := by decide +kernel
theorem dL_law_174 : decode cL_law 174 = .ok (.iadd, 1) := by decide +kernel
theorem dL_law_175 : decode cL_law 175 = .ok (.iaload, 1) := by decide +kernel
theorem dL_law_176 : decode cL_law 176 = .ok (.invokevirtual 87, 3) := by decide +kernel
theorem dL_law_179 : decode cL_law 179 = .ok (.istore 6, 2) := by decide +kernel
theorem dL_law_181 : decode cL_law 181 = .ok (.aload_n 2, 1) := by decide +kernel
theorem dL_law_182 : decode cL_law 182 = .ok (.invokevirtual 88, 3) := by decide +kernel
theorem dL_law_185 : decode cL_law 185 = .ok (.iload 5, 2) := by decide +kernel
theorem dL_law_187 : decode cL_law 187 = .ok (.if_icmp .eq 5, 3) := by decide +kernel
theorem dL_law_190 : decode cL_law 190 = .ok (.iconst 0, 1) := by decide +kernel
theorem dL_law_191 : decode cL_law 191 = .ok (.ireturn, 1) := by decide +kernel
theorem dL_law_192 : decode cL_law 192 = .ok (.iload 5, 2) := by decide +kernel
theorem dL_law_194 : decode cL_law 194 = .ok (.ifCond .ne 15, 3) := by decide +kernel
theorem dL_law_197 : decode cL_law 197 = .ok (.aload_n 3, 1) := by decide +kernel
theorem dL_law_198 : decode cL_law 198 = .ok (.iconst 0, 1) := by decide +kernel
theorem dL_law_199 : decode cL_law 199 = .ok (.laload, 1) := by decide +kernel
theorem dL_law_200 : decode cL_law 200 = .ok (.iload 6, 2) := by decide +kernel
theorem dL_law_202 : decode cL_law 202 = .ok (.i2l, 1) := by decide +kernel
theorem dL_law_203 : decode cL_law 203 = .ok (.lcmp, 1) := by decide +kernel
theorem dL_law_204 : decode cL_law 204 = .ok (.ifCond .eq 5, 3) := by decide +kernel
theorem dL_law_207 : decode cL_law 207 = .ok (.iconst 0, 1) := by decide +kernel
theorem dL_law_208 : decode cL_law 208 = .ok (.ireturn, 1) := by decide +kernel
theorem dL_law_209 : decode cL_law 209 = .ok (.goto 1315, 3) := by decide +kernel
theorem dL_law_212 : decode cL_law 212 = .ok (.aload_n 1, 1) := by decide +kernel
theorem dL_law_213 : decode cL_law 213 = .ok (.aload_n 0, 1) := by decide +kernel
theorem dL_law_214 : decode cL_law 214 = .ok (.iload 4, 2) := by decide +kernel
theorem dL_law_216 : decode cL_law 216 = .ok (.iconst 1, 1) := by decide +kernel
theorem dL_law_217 : decode cL_law 217 = .ok (.iadd, 1) := by decide +kernel
theorem dL_law_218 : decode cL_law 218 = .ok (.iaload, 1) := by decide +kernel
theorem dL_law_219 : decode cL_law 219 = .ok (.aload_n 0, 1) := by decide +kernel
theorem dL_law_220 : decode cL_law 220 = .ok (.iload 4, 2) := by decide +kernel
theorem dL_law_222 : decode cL_law 222 = .ok (.iconst 2, 1) := by decide +kernel
theorem dL_law_223 : decode cL_law 223 = .ok (.iadd, 1) := by decide +kernel
theorem dL_law_224 : decode cL_law 224 = .ok (.iaload, 1) := by decide +kernel
theorem dL_law_225 : decode cL_law 225 = .ok (.aload_n 0, 1) := by decide +kernel
theorem dL_law_226 : decode cL_law 226 = .ok (.iload 4, 2) := by decide +kernel
theorem dL_law_228 : decode cL_law 228 = .ok (.iconst 3, 1) := by decide +kernel
theorem dL_law_229 : decode cL_law 229 = .ok (.iadd, 1) := by decide +kernel
theorem dL_law_230 : decode cL_law 230 = .ok (.iaload, 1) := by decide +kernel
theorem dL_law_231 : decode cL_law 231 = .ok (.aload_n 0, 1) := by decide +kernel
theorem dL_law_232 : decode cL_law 232 = .ok (.iload 4, 2) := by decide +kernel
theorem dL_law_234 : decode cL_law 234 = .ok (.iconst 4, 1) := by decide +kernel
theorem dL_law_235 : decode cL_law 235 = .ok (.iadd, 1) := by decide +kernel
theorem dL_law_236 : decode cL_law 236 = .ok (.iaload, 1) := by decide +kernel
theorem dL_law_237 : decode cL_law 237 = .ok (.aload_n 3, 1) := by decide +kernel
theorem dL_law_238 : decode cL_law 238 = .ok (.invokestatic 91, 3) := by decide +kernel
theorem dL_law_241 : decode cL_law 241 = .ok (.istore 5, 2) := by decide +kernel
theorem dL_law_243 : decode cL_law 243 = .ok (.aload_n 2, 1) := by decide +kernel
theorem dL_law_244 : decode cL_law 244 = .ok (.aload_n 0, 1) := by decide +kernel
theorem dL_law_245 : decode cL_law 245 = .ok (.iload 4, 2) := by decide +kernel
theorem dL_law_247 : decode cL_law 247 = .ok (.iconst 1, 1) := by decide +kernel
theorem dL_law_248 : decode cL_law 248 = .ok (.iadd, 1) := by decide +kernel
theorem dL_law_249 : decode cL_law 249 = .ok (.iaload, 1) := by decide +kernel
theorem dL_law_250 : decode cL_law 250 = .ok (.aload_n 0, 1) := by decide +kernel
theorem dL_law_251 : decode cL_law 251 = .ok (.iload 4, 2) := by decide +kernel
theorem dL_law_253 : decode cL_law 253 = .ok (.iconst 2, 1) := by decide +kernel
theorem dL_law_254 : decode cL_law 254 = .ok (.iadd, 1) := by decide +kernel
theorem dL_law_255 : decode cL_law 255 = .ok (.iaload, 1) := by decide +kernel
theorem dL_law_256 : decode cL_law 256 = .ok (.aload_n 0, 1) := by decide +kernel
theorem dL_law_257 : decode cL_law 257 = .ok (.iload 4, 2) := by decide +kernel
theorem dL_law_259 : decode cL_law 259 = .ok (.iconst 3, 1) := by decide +kernel
theorem dL_law_260 : decode cL_law 260 = .ok (.iadd, 1) := by decide +kernel
theorem dL_law_261 : decode cL_law 261 = .ok (.iaload, 1) := by decide +kernel
theorem dL_law_262 : decode cL_law 262 = .ok (.aload_n 0, 1) := by decide +kernel
theorem dL_law_263 : decode cL_law 263 = .ok (.iload 4, 2) := by decide +kernel
theorem dL_law_265 : decode cL_law 265 = .ok (.iconst 4, 1) := by decide +kernel
theorem dL_law_266 : decode cL_law 266 = .ok (.iadd, 1) := by decide +kernel
theorem dL_law_267 : decode cL_law 267 = .ok (.iaload, 1) := by decide +kernel
theorem dL_law_268 : decode cL_law 268 = .ok (.invokevirtual 94, 3) := by decide +kernel
theorem dL_law_271 : decode cL_law 271 = .ok (.istore 6, 2) := by decide +kernel
theorem dL_law_273 : decode cL_law 273 = .ok (.aload_n 2, 1) := by decide +kernel
theorem dL_law_274 : decode cL_law 274 = .ok (.invokevirtual 88, 3) := by decide +kernel
theorem dL_law_277 : decode cL_law 277 = .ok (.iload 5, 2) := by decide +kernel
theorem dL_law_279 : decode cL_law 279 = .ok (.if_icmp .eq 5, 3) := by decide +kernel
theorem dL_law_282 : decode cL_law 282 = .ok (.iconst 0, 1) := by decide +kernel
theorem dL_law_283 : decode cL_law 283 = .ok (.ireturn, 1) := by decide +kernel
theorem dL_law_284 : decode cL_law 284 = .ok (.iload 5, 2) := by decide +kernel
theorem dL_law_286 : decode cL_law 286 = .ok (.ifCond .ne 15, 3) := by decide +kernel
theorem dL_law_289 : decode cL_law 289 = .ok (.aload_n 3, 1) := by decide +kernel
theorem dL_law_290 : decode cL_law 290 = .ok (.iconst 0, 1) := by decide +kernel
theorem dL_law_291 : decode cL_law 291 = .ok (.laload, 1) := by decide +kernel
theorem dL_law_292 : decode cL_law 292 = .ok (.iload 6, 2) := by decide +kernel
theorem dL_law_294 : decode cL_law 294 = .ok (.i2l, 1) := by decide +kernel
theorem dL_law_295 : decode cL_law 295 = .ok (.lcmp, 1) := by decide +kernel
theorem dL_law_296 : decode cL_law 296 = .ok (.ifCond .eq 5, 3) := by decide +kernel
theorem dL_law_299 : decode cL_law 299 = .ok (.iconst 0, 1) := by decide +kernel
theorem dL_law_300 : decode cL_law 300 = .ok (.ireturn, 1) := by decide +kernel
theorem dL_law_301 : decode cL_law 301 = .ok (.goto 1223, 3) := by decide +kernel
theorem dL_law_304 : decode cL_law 304 = .ok (.aload_n 1, 1) := by decide +kernel
theorem dL_law_305 : decode cL_law 305 = .ok (.aload_n 0, 1) := by decide +kernel
theorem dL_law_306 : decode cL_law 306 = .ok (.iload 4, 2) := by decide +kernel
theorem dL_law_308 : decode cL_law 308 = .ok (.iconst 1, 1) := by decide +kernel
theorem dL_law_309 : decode cL_law 309 = .ok (.iadd, 1) := by decide +kernel
theorem dL_law_310 : decode cL_law 310 = .ok (.iaload, 1) := by decide +kernel
theorem dL_law_311 : decode cL_law 311 = .ok (.aload_n 0, 1) := by decide +kernel
theorem dL_law_312 : decode cL_law 312 = .ok (.iload 4, 2) := by decide +kernel
theorem dL_law_314 : decode cL_law 314 = .ok (.iconst 2, 1) := by decide +kernel
theorem dL_law_315 : decode cL_law 315 = .ok (.iadd, 1) := by decide +kernel
theorem dL_law_316 : decode cL_law 316 = .ok (.iaload, 1) := by decide +kernel
theorem dL_law_317 : decode cL_law 317 = .ok (.aload_n 3, 1) := by decide +kernel
theorem dL_law_318 : decode cL_law 318 = .ok (.invokestatic 95, 3) := by decide +kernel
theorem dL_law_321 : decode cL_law 321 = .ok (.istore 5, 2) := by decide +kernel
theorem dL_law_323 : decode cL_law 323 = .ok (.aload_n 2, 1) := by decide +kernel
theorem dL_law_324 : decode cL_law 324 = .ok (.aload_n 0, 1) := by decide +kernel
theorem dL_law_325 : decode cL_law 325 = .ok (.iload 4, 2) := by decide +kernel
theorem dL_law_327 : decode cL_law 327 = .ok (.iconst 1, 1) := by decide +kernel
theorem dL_law_328 : decode cL_law 328 = .ok (.iadd, 1) := by decide +kernel
theorem dL_law_329 : decode cL_law 329 = .ok (.iaload, 1) := by decide +kernel
theorem dL_law_330 : decode cL_law 330 = .ok (.aload_n 0, 1) := by decide +kernel
theorem dL_law_331 : decode cL_law 331 = .ok (.iload 4, 2) := by decide +kernel
theorem dL_law_333 : decode cL_law 333 = .ok (.iconst 2, 1) := by decide +kernel
theorem dL_law_334 : decode cL_law 334 = .ok (.iadd, 1) := by decide +kernel
theorem dL_law_335 : decode cL_law 335 = .ok (.iaload, 1) := by decide +kernel
theorem dL_law_336 : decode cL_law 336 = .ok (.invokevirtual 98, 3) := by decide +kernel
theorem dL_law_339 : decode cL_law 339 = .ok (.istore 6, 2) := by decide +kernel
theorem dL_law_341 : decode cL_law 341 = .ok (.aload_n 2, 1) := by decide +kernel
theorem dL_law_342 : decode cL_law 342 = .ok (.invokevirtual 88, 3) := by decide +kernel
theorem dL_law_345 : decode cL_law 345 = .ok (.iload 5, 2) := by decide +kernel
theorem dL_law_347 : decode cL_law 347 = .ok (.if_icmp .eq 5, 3) := by decide +kernel
theorem dL_law_350 : decode cL_law 350 = .ok (.iconst 0, 1) := by decide +kernel
theorem dL_law_351 : decode cL_law 351 = .ok (.ireturn, 1) := by decide +kernel
theorem dL_law_352 : decode cL_law 352 = .ok (.iload 5, 2) := by decide +kernel
theorem dL_law_354 : decode cL_law 354 = .ok (.ifCond .ne 15, 3) := by decide +kernel
theorem dL_law_357 : decode cL_law 357 = .ok (.aload_n 3, 1) := by decide +kernel
theorem dL_law_358 : decode cL_law 358 = .ok (.iconst 0, 1) := by decide +kernel
theorem dL_law_359 : decode cL_law 359 = .ok (.laload, 1) := by decide +kernel
theorem dL_law_360 : decode cL_law 360 = .ok (.iload 6, 2) := by decide +kernel
theorem dL_law_362 : decode cL_law 362 = .ok (.i2l, 1) := by decide +kernel
theorem dL_law_363 : decode cL_law 363 = .ok (.lcmp, 1) := by decide +kernel
theorem dL_law_364 : decode cL_law 364 = .ok (.ifCond .eq 5, 3) := by decide +kernel
theorem dL_law_367 : decode cL_law 367 = .ok (.iconst 0, 1) := by decide +kernel
theorem dL_law_368 : decode cL_law 368 = .ok (.ireturn, 1) := by decide +kernel
theorem dL_law_369 : decode cL_law 369 = .ok (.goto 1155, 3) := by decide +kernel
theorem dL_law_372 : decode cL_law 372 = .ok (.aload_n 1, 1) := by decide +kernel
theorem dL_law_373 : decode cL_law 373 = .ok (.aload_n 0, 1) := by decide +kernel
theorem dL_law_374 : decode cL_law 374 = .ok (.iload 4, 2) := by decide +kernel
theorem dL_law_376 : decode cL_law 376 = .ok (.iconst 1, 1) := by decide +kernel
theorem dL_law_377 : decode cL_law 377 = .ok (.iadd, 1) := by decide +kernel
theorem dL_law_378 : decode cL_law 378 = .ok (.iaload, 1) := by decide +kernel
theorem dL_law_379 : decode cL_law 379 = .ok (.aload_n 0, 1) := by decide +kernel
theorem dL_law_380 : decode cL_law 380 = .ok (.iload 4, 2) := by decide +kernel
theorem dL_law_382 : decode cL_law 382 = .ok (.iconst 2, 1) := by decide +kernel
theorem dL_law_383 : decode cL_law 383 = .ok (.iadd, 1) := by decide +kernel
theorem dL_law_384 : decode cL_law 384 = .ok (.iaload, 1) := by decide +kernel
theorem dL_law_385 : decode cL_law 385 = .ok (.aload_n 0, 1) := by decide +kernel
theorem dL_law_386 : decode cL_law 386 = .ok (.iload 4, 2) := by decide +kernel
theorem dL_law_388 : decode cL_law 388 = .ok (.iconst 3, 1) := by decide +kernel
theorem dL_law_389 : decode cL_law 389 = .ok (.iadd, 1) := by decide +kernel
theorem dL_law_390 : decode cL_law 390 = .ok (.iaload, 1) := by decide +kernel
theorem dL_law_391 : decode cL_law 391 = .ok (.aload_n 0, 1) := by decide +kernel
theorem dL_law_392 : decode cL_law 392 = .ok (.iload 4, 2) := by decide +kernel
theorem dL_law_394 : decode cL_law 394 = .ok (.iconst 4, 1) := by decide +kernel
theorem dL_law_395 : decode cL_law 395 = .ok (.iadd, 1) := by decide +kernel
theorem dL_law_396 : decode cL_law 396 = .ok (.iaload, 1) := by decide +kernel
theorem dL_law_397 : decode cL_law 397 = .ok (.aload_n 3, 1) := by decide +kernel
theorem dL_law_398 : decode cL_law 398 = .ok (.invokestatic 99, 3) := by decide +kernel
theorem dL_law_401 : decode cL_law 401 = .ok (.istore 5, 2) := by decide +kernel
theorem dL_law_403 : decode cL_law 403 = .ok (.aload_n 2, 1) := by decide +kernel
theorem dL_law_404 : decode cL_law 404 = .ok (.aload_n 0, 1) := by decide +kernel
theorem dL_law_405 : decode cL_law 405 = .ok (.iload 4, 2) := by decide +kernel
theorem dL_law_407 : decode cL_law 407 = .ok (.iconst 1, 1) := by decide +kernel
theorem dL_law_408 : decode cL_law 408 = .ok (.iadd, 1) := by decide +kernel
theorem dL_law_409 : decode cL_law 409 = .ok (.iaload, 1) := by decide +kernel
theorem dL_law_410 : decode cL_law 410 = .ok (.aload_n 0, 1) := by decide +kernel
theorem dL_law_411 : decode cL_law 411 = .ok (.iload 4, 2) := by decide +kernel
theorem dL_law_413 : decode cL_law 413 = .ok (.iconst 2, 1) := by decide +kernel
theorem dL_law_414 : decode cL_law 414 = .ok (.iadd, 1) := by decide +kernel
theorem dL_law_415 : decode cL_law 415 = .ok (.iaload, 1) := by decide +kernel
theorem dL_law_416 : decode cL_law 416 = .ok (.aload_n 0, 1) := by decide +kernel
theorem dL_law_417 : decode cL_law 417 = .ok (.iload 4, 2) := by decide +kernel
theorem dL_law_419 : decode cL_law 419 = .ok (.iconst 3, 1) := by decide +kernel
theorem dL_law_420 : decode cL_law 420 = .ok (.iadd, 1) := by decide +kernel
theorem dL_law_421 : decode cL_law 421 = .ok (.iaload, 1) := by decide +kernel
theorem dL_law_422 : decode cL_law 422 = .ok (.aload_n 0, 1) := by decide +kernel
theorem dL_law_423 : decode cL_law 423 = .ok (.iload 4, 2) := by decide +kernel
theorem dL_law_425 : decode cL_law 425 = .ok (.iconst 4, 1) := by decide +kernel
theorem dL_law_426 : decode cL_law 426 = .ok (.iadd, 1) := by decide +kernel
theorem dL_law_427 : decode cL_law 427 = .ok (.iaload, 1) := by decide +kernel
theorem dL_law_428 : decode cL_law 428 = .ok (.invokevirtual 101, 3) := by decide +kernel
theorem dL_law_431 : decode cL_law 431 = .ok (.istore 6, 2) := by decide +kernel
theorem dL_law_433 : decode cL_law 433 = .ok (.aload_n 2, 1) := by decide +kernel
theorem dL_law_434 : decode cL_law 434 = .ok (.invokevirtual 88, 3) := by decide +kernel
theorem dL_law_437 : decode cL_law 437 = .ok (.iload 5, 2) := by decide +kernel
theorem dL_law_439 : decode cL_law 439 = .ok (.if_icmp .eq 5, 3) := by decide +kernel
theorem dL_law_442 : decode cL_law 442 = .ok (.iconst 0, 1) := by decide +kernel
theorem dL_law_443 : decode cL_law 443 = .ok (.ireturn, 1) := by decide +kernel
theorem dL_law_444 : decode cL_law 444 = .ok (.iload 5, 2) := by decide +kernel
theorem dL_law_446 : decode cL_law 446 = .ok (.ifCond .ne 15, 3) := by decide +kernel
theorem dL_law_449 : decode cL_law 449 = .ok (.aload_n 3, 1) := by decide +kernel
theorem dL_law_450 : decode cL_law 450 = .ok (.iconst 0, 1) := by decide +kernel
theorem dL_law_451 : decode cL_law 451 = .ok (.laload, 1) := by decide +kernel
theorem dL_law_452 : decode cL_law 452 = .ok (.iload 6, 2) := by decide +kernel
theorem dL_law_454 : decode cL_law 454 = .ok (.i2l, 1) := by decide +kernel
theorem dL_law_455 : decode cL_law 455 = .ok (.lcmp, 1) := by decide +kernel
theorem dL_law_456 : decode cL_law 456 = .ok (.ifCond .eq 5, 3) := by decide +kernel
theorem dL_law_459 : decode cL_law 459 = .ok (.iconst 0, 1) := by decide +kernel
theorem dL_law_460 : decode cL_law 460 = .ok (.ireturn, 1) := by decide +kernel
theorem dL_law_461 : decode cL_law 461 = .ok (.goto 1063, 3) := by decide +kernel
theorem dL_law_464 : decode cL_law 464 = .ok (.aload_n 1, 1) := by decide +kernel
theorem dL_law_465 : decode cL_law 465 = .ok (.aload_n 0, 1) := by decide +kernel
theorem dL_law_466 : decode cL_law 466 = .ok (.iload 4, 2) := by decide +kernel
theorem dL_law_468 : decode cL_law 468 = .ok (.iconst 1, 1) := by decide +kernel
theorem dL_law_469 : decode cL_law 469 = .ok (.iadd, 1) := by decide +kernel
theorem dL_law_470 : decode cL_law 470 = .ok (.iaload, 1) := by decide +kernel
theorem dL_law_471 : decode cL_law 471 = .ok (.aload_n 0, 1) := by decide +kernel
theorem dL_law_472 : decode cL_law 472 = .ok (.iload 4, 2) := by decide +kernel
theorem dL_law_474 : decode cL_law 474 = .ok (.iconst 2, 1) := by decide +kernel
theorem dL_law_475 : decode cL_law 475 = .ok (.iadd, 1) := by decide +kernel
theorem dL_law_476 : decode cL_law 476 = .ok (.iaload, 1) := by decide +kernel
theorem dL_law_477 : decode cL_law 477 = .ok (.aload_n 3, 1) := by decide +kernel
theorem dL_law_478 : decode cL_law 478 = .ok (.invokestatic 102, 3) := by decide +kernel
theorem dL_law_481 : decode cL_law 481 = .ok (.istore 5, 2) := by decide +kernel
theorem dL_law_483 : decode cL_law 483 = .ok (.aload_n 2, 1) := by decide +kernel
theorem dL_law_484 : decode cL_law 484 = .ok (.aload_n 0, 1) := by decide +kernel
theorem dL_law_485 : decode cL_law 485 = .ok (.iload 4, 2) := by decide +kernel
theorem dL_law_487 : decode cL_law 487 = .ok (.iconst 1, 1) := by decide +kernel
theorem dL_law_488 : decode cL_law 488 = .ok (.iadd, 1) := by decide +kernel
theorem dL_law_489 : decode cL_law 489 = .ok (.iaload, 1) := by decide +kernel
theorem dL_law_490 : decode cL_law 490 = .ok (.aload_n 0, 1) := by decide +kernel
theorem dL_law_491 : decode cL_law 491 = .ok (.iload 4, 2) := by decide +kernel
theorem dL_law_493 : decode cL_law 493 = .ok (.iconst 2, 1) := by decide +kernel
theorem dL_law_494 : decode cL_law 494 = .ok (.iadd, 1) := by decide +kernel
theorem dL_law_495 : decode cL_law 495 = .ok (.iaload, 1) := by decide +kernel
theorem dL_law_496 : decode cL_law 496 = .ok (.invokevirtual 104, 3) := by decide +kernel
theorem dL_law_499 : decode cL_law 499 = .ok (.istore 6, 2) := by decide +kernel
theorem dL_law_501 : decode cL_law 501 = .ok (.aload_n 2, 1) := by decide +kernel
theorem dL_law_502 : decode cL_law 502 = .ok (.invokevirtual 88, 3) := by decide +kernel
theorem dL_law_505 : decode cL_law 505 = .ok (.iload 5, 2) := by decide +kernel
theorem dL_law_507 : decode cL_law 507 = .ok (.if_icmp .eq 5, 3) := by decide +kernel
theorem dL_law_510 : decode cL_law 510 = .ok (.iconst 0, 1) := by decide +kernel
theorem dL_law_511 : decode cL_law 511 = .ok (.ireturn, 1) := by decide +kernel
theorem dL_law_512 : decode cL_law 512 = .ok (.iload 5, 2) := by decide +kernel
theorem dL_law_514 : decode cL_law 514 = .ok (.ifCond .ne 15, 3) := by decide +kernel
theorem dL_law_517 : decode cL_law 517 = .ok (.aload_n 3, 1) := by decide +kernel
theorem dL_law_518 : decode cL_law 518 = .ok (.iconst 0, 1) := by decide +kernel
theorem dL_law_519 : decode cL_law 519 = .ok (.laload, 1) := by decide +kernel
theorem dL_law_520 : decode cL_law 520 = .ok (.iload 6, 2) := by decide +kernel
theorem dL_law_522 : decode cL_law 522 = .ok (.i2l, 1) := by decide +kernel
theorem dL_law_523 : decode cL_law 523 = .ok (.lcmp, 1) := by decide +kernel
theorem dL_law_524 : decode cL_law 524 = .ok (.ifCond .eq 5, 3) := by decide +kernel
theorem dL_law_527 : decode cL_law 527 = .ok (.iconst 0, 1) := by decide +kernel
theorem dL_law_528 : decode cL_law 528 = .ok (.ireturn, 1) := by decide +kernel
theorem dL_law_529 : decode cL_law 529 = .ok (.goto 995, 3) := by decide +kernel
theorem dL_law_532 : decode cL_law 532 = .ok (.aload_n 1, 1) := by decide +kernel
theorem dL_law_533 : decode cL_law 533 = .ok (.invokevirtual 105, 3) := by decide +kernel
theorem dL_law_536 : decode cL_law 536 = .ok (.aload_n 2, 1) := by decide +kernel
theorem dL_law_537 : decode cL_law 537 = .ok (.invokevirtual 108, 3) := by decide +kernel
theorem dL_law_540 : decode cL_law 540 = .ok (.if_icmp .eq 984, 3) := by decide +kernel
theorem dL_law_543 : decode cL_law 543 = .ok (.iconst 0, 1) := by decide +kernel
theorem dL_law_544 : decode cL_law 544 = .ok (.ireturn, 1) := by decide +kernel
theorem dL_law_545 : decode cL_law 545 = .ok (.aload_n 1, 1) := by decide +kernel
theorem dL_law_546 : decode cL_law 546 = .ok (.aload_n 0, 1) := by decide +kernel
theorem dL_law_547 : decode cL_law 547 = .ok (.iload 4, 2) := by decide +kernel
theorem dL_law_549 : decode cL_law 549 = .ok (.iconst 1, 1) := by decide +kernel
theorem dL_law_550 : decode cL_law 550 = .ok (.iadd, 1) := by decide +kernel
theorem dL_law_551 : decode cL_law 551 = .ok (.iaload, 1) := by decide +kernel
theorem dL_law_552 : decode cL_law 552 = .ok (.aload_n 3, 1) := by decide +kernel
theorem dL_law_553 : decode cL_law 553 = .ok (.invokestatic 109, 3) := by decide +kernel
theorem dL_law_556 : decode cL_law 556 = .ok (.istore 5, 2) := by decide +kernel
theorem dL_law_558 : decode cL_law 558 = .ok (.aload_n 2, 1) := by decide +kernel
theorem dL_law_559 : decode cL_law 559 = .ok (.aload_n 0, 1) := by decide +kernel
theorem dL_law_560 : decode cL_law 560 = .ok (.iload 4, 2) := by decide +kernel
theorem dL_law_562 : decode cL_law 562 = .ok (.iconst 1, 1) := by decide +kernel
theorem dL_law_563 : decode cL_law 563 = .ok (.iadd, 1) := by decide +kernel
theorem dL_law_564 : decode cL_law 564 = .ok (.iaload, 1) := by decide +kernel
theorem dL_law_565 : decode cL_law 565 = .ok (.invokevirtual 111, 3) := by decide +kernel
theorem dL_law_568 : decode cL_law 568 = .ok (.istore 6, 2) := by decide +kernel
theorem dL_law_570 : decode cL_law 570 = .ok (.aload_n 2, 1) := by decide +kernel
theorem dL_law_571 : decode cL_law 571 = .ok (.invokevirtual 88, 3) := by decide +kernel
theorem dL_law_574 : decode cL_law 574 = .ok (.iload 5, 2) := by decide +kernel
theorem dL_law_576 : decode cL_law 576 = .ok (.if_icmp .eq 5, 3) := by decide +kernel
theorem dL_law_579 : decode cL_law 579 = .ok (.iconst 0, 1) := by decide +kernel
theorem dL_law_580 : decode cL_law 580 = .ok (.ireturn, 1) := by decide +kernel
theorem dL_law_581 : decode cL_law 581 = .ok (.iload 5, 2) := by decide +kernel
theorem dL_law_583 : decode cL_law 583 = .ok (.ifCond .ne 15, 3) := by decide +kernel
theorem dL_law_586 : decode cL_law 586 = .ok (.aload_n 3, 1) := by decide +kernel
theorem dL_law_587 : decode cL_law 587 = .ok (.iconst 0, 1) := by decide +kernel
theorem dL_law_588 : decode cL_law 588 = .ok (.laload, 1) := by decide +kernel
theorem dL_law_589 : decode cL_law 589 = .ok (.iload 6, 2) := by decide +kernel
theorem dL_law_591 : decode cL_law 591 = .ok (.i2l, 1) := by decide +kernel
theorem dL_law_592 : decode cL_law 592 = .ok (.lcmp, 1) := by decide +kernel
theorem dL_law_593 : decode cL_law 593 = .ok (.ifCond .eq 5, 3) := by decide +kernel
theorem dL_law_596 : decode cL_law 596 = .ok (.iconst 0, 1) := by decide +kernel
theorem dL_law_597 : decode cL_law 597 = .ok (.ireturn, 1) := by decide +kernel
theorem dL_law_598 : decode cL_law 598 = .ok (.goto 926, 3) := by decide +kernel
theorem dL_law_601 : decode cL_law 601 = .ok (.aload_n 1, 1) := by decide +kernel
theorem dL_law_602 : decode cL_law 602 = .ok (.invokevirtual 112, 3) := by decide +kernel
theorem dL_law_605 : decode cL_law 605 = .ok (.aload_n 2, 1) := by decide +kernel
theorem dL_law_606 : decode cL_law 606 = .ok (.invokevirtual 115, 3) := by decide +kernel
theorem dL_law_609 : decode cL_law 609 = .ok (.if_icmp .eq 915, 3) := by decide +kernel
theorem dL_law_612 : decode cL_law 612 = .ok (.iconst 0, 1) := by decide +kernel
theorem dL_law_613 : decode cL_law 613 = .ok (.ireturn, 1) := by decide +kernel
theorem dL_law_614 : decode cL_law 614 = .ok (.aload_n 1, 1) := by decide +kernel
theorem dL_law_615 : decode cL_law 615 = .ok (.aload_n 0, 1) := by decide +kernel
theorem dL_law_616 : decode cL_law 616 = .ok (.iload 4, 2) := by decide +kernel
theorem dL_law_618 : decode cL_law 618 = .ok (.iconst 1, 1) := by decide +kernel
theorem dL_law_619 : decode cL_law 619 = .ok (.iadd, 1) := by decide +kernel
theorem dL_law_620 : decode cL_law 620 = .ok (.iaload, 1) := by decide +kernel
theorem dL_law_621 : decode cL_law 621 = .ok (.aload_n 0, 1) := by decide +kernel
theorem dL_law_622 : decode cL_law 622 = .ok (.iload 4, 2) := by decide +kernel
theorem dL_law_624 : decode cL_law 624 = .ok (.iconst 2, 1) := by decide +kernel
theorem dL_law_625 : decode cL_law 625 = .ok (.iadd, 1) := by decide +kernel
theorem dL_law_626 : decode cL_law 626 = .ok (.iaload, 1) := by decide +kernel
theorem dL_law_627 : decode cL_law 627 = .ok (.aload_n 3, 1) := by decide +kernel
theorem dL_law_628 : decode cL_law 628 = .ok (.invokestatic 116, 3) := by decide +kernel
theorem dL_law_631 : decode cL_law 631 = .ok (.istore 5, 2) := by decide +kernel
theorem dL_law_633 : decode cL_law 633 = .ok (.aload_n 2, 1) := by decide +kernel
theorem dL_law_634 : decode cL_law 634 = .ok (.aload_n 0, 1) := by decide +kernel
theorem dL_law_635 : decode cL_law 635 = .ok (.iload 4, 2) := by decide +kernel
theorem dL_law_637 : decode cL_law 637 = .ok (.iconst 1, 1) := by decide +kernel
theorem dL_law_638 : decode cL_law 638 = .ok (.iadd, 1) := by decide +kernel
theorem dL_law_639 : decode cL_law 639 = .ok (.iaload, 1) := by decide +kernel
theorem dL_law_640 : decode cL_law 640 = .ok (.aload_n 0, 1) := by decide +kernel
theorem dL_law_641 : decode cL_law 641 = .ok (.iload 4, 2) := by decide +kernel
theorem dL_law_643 : decode cL_law 643 = .ok (.iconst 2, 1) := by decide +kernel
theorem dL_law_644 : decode cL_law 644 = .ok (.iadd, 1) := by decide +kernel
theorem dL_law_645 : decode cL_law 645 = .ok (.iaload, 1) := by decide +kernel
theorem dL_law_646 : decode cL_law 646 = .ok (.invokevirtual 118, 3) := by decide +kernel
theorem dL_law_649 : decode cL_law 649 = .ok (.istore 6, 2) := by decide +kernel
theorem dL_law_651 : decode cL_law 651 = .ok (.aload_n 2, 1) := by decide +kernel
theorem dL_law_652 : decode cL_law 652 = .ok (.invokevirtual 88, 3) := by decide +kernel
theorem dL_law_655 : decode cL_law 655 = .ok (.iload 5, 2) := by decide +kernel
theorem dL_law_657 : decode cL_law 657 = .ok (.if_icmp .eq 5, 3) := by decide +kernel
theorem dL_law_660 : decode cL_law 660 = .ok (.iconst 0, 1) := by decide +kernel
theorem dL_law_661 : decode cL_law 661 = .ok (.ireturn, 1) := by decide +kernel
theorem dL_law_662 : decode cL_law 662 = .ok (.iload 5, 2) := by decide +kernel
theorem dL_law_664 : decode cL_law 664 = .ok (.ifCond .ne 15, 3) := by decide +kernel
theorem dL_law_667 : decode cL_law 667 = .ok (.aload_n 3, 1) := by decide +kernel
theorem dL_law_668 : decode cL_law 668 = .ok (.iconst 0, 1) := by decide +kernel
theorem dL_law_669 : decode cL_law 669 = .ok (.laload, 1) := by decide +kernel
theorem dL_law_670 : decode cL_law 670 = .ok (.iload 6, 2) := by decide +kernel
theorem dL_law_672 : decode cL_law 672 = .ok (.i2l, 1) := by decide +kernel
theorem dL_law_673 : decode cL_law 673 = .ok (.lcmp, 1) := by decide +kernel
theorem dL_law_674 : decode cL_law 674 = .ok (.ifCond .eq 5, 3) := by decide +kernel
theorem dL_law_677 : decode cL_law 677 = .ok (.iconst 0, 1) := by decide +kernel
theorem dL_law_678 : decode cL_law 678 = .ok (.ireturn, 1) := by decide +kernel
theorem dL_law_679 : decode cL_law 679 = .ok (.goto 845, 3) := by decide +kernel
theorem dL_law_682 : decode cL_law 682 = .ok (.aload_n 1, 1) := by decide +kernel
theorem dL_law_683 : decode cL_law 683 = .ok (.invokevirtual 119, 3) := by decide +kernel
theorem dL_law_686 : decode cL_law 686 = .ok (.aload_n 2, 1) := by decide +kernel
theorem dL_law_687 : decode cL_law 687 = .ok (.invokevirtual 122, 3) := by decide +kernel
theorem dL_law_690 : decode cL_law 690 = .ok (.if_icmp .eq 834, 3) := by decide +kernel
theorem dL_law_693 : decode cL_law 693 = .ok (.iconst 0, 1) := by decide +kernel
theorem dL_law_694 : decode cL_law 694 = .ok (.ireturn, 1) := by decide +kernel
theorem dL_law_695 : decode cL_law 695 = .ok (.aload_n 1, 1) := by decide +kernel
theorem dL_law_696 : decode cL_law 696 = .ok (.aload_n 0, 1) := by decide +kernel
theorem dL_law_697 : decode cL_law 697 = .ok (.iload 4, 2) := by decide +kernel
theorem dL_law_699 : decode cL_law 699 = .ok (.iconst 1, 1) := by decide +kernel
theorem dL_law_700 : decode cL_law 700 = .ok (.iadd, 1) := by decide +kernel
theorem dL_law_701 : decode cL_law 701 = .ok (.iaload, 1) := by decide +kernel
theorem dL_law_702 : decode cL_law 702 = .ok (.aload_n 0, 1) := by decide +kernel
theorem dL_law_703 : decode cL_law 703 = .ok (.iload 4, 2) := by decide +kernel
theorem dL_law_705 : decode cL_law 705 = .ok (.iconst 2, 1) := by decide +kernel
theorem dL_law_706 : decode cL_law 706 = .ok (.iadd, 1) := by decide +kernel
theorem dL_law_707 : decode cL_law 707 = .ok (.iaload, 1) := by decide +kernel
theorem dL_law_708 : decode cL_law 708 = .ok (.aload_n 3, 1) := by decide +kernel
theorem dL_law_709 : decode cL_law 709 = .ok (.invokestatic 123, 3) := by decide +kernel
theorem dL_law_712 : decode cL_law 712 = .ok (.istore 5, 2) := by decide +kernel
theorem dL_law_714 : decode cL_law 714 = .ok (.aload_n 2, 1) := by decide +kernel
theorem dL_law_715 : decode cL_law 715 = .ok (.aload_n 0, 1) := by decide +kernel
theorem dL_law_716 : decode cL_law 716 = .ok (.iload 4, 2) := by decide +kernel
theorem dL_law_718 : decode cL_law 718 = .ok (.iconst 1, 1) := by decide +kernel
theorem dL_law_719 : decode cL_law 719 = .ok (.iadd, 1) := by decide +kernel
theorem dL_law_720 : decode cL_law 720 = .ok (.iaload, 1) := by decide +kernel
theorem dL_law_721 : decode cL_law 721 = .ok (.aload_n 0, 1) := by decide +kernel
theorem dL_law_722 : decode cL_law 722 = .ok (.iload 4, 2) := by decide +kernel
theorem dL_law_724 : decode cL_law 724 = .ok (.iconst 2, 1) := by decide +kernel
theorem dL_law_725 : decode cL_law 725 = .ok (.iadd, 1) := by decide +kernel
theorem dL_law_726 : decode cL_law 726 = .ok (.iaload, 1) := by decide +kernel
theorem dL_law_727 : decode cL_law 727 = .ok (.invokevirtual 125, 3) := by decide +kernel
theorem dL_law_730 : decode cL_law 730 = .ok (.istore 6, 2) := by decide +kernel
theorem dL_law_732 : decode cL_law 732 = .ok (.aload_n 2, 1) := by decide +kernel
theorem dL_law_733 : decode cL_law 733 = .ok (.invokevirtual 88, 3) := by decide +kernel
theorem dL_law_736 : decode cL_law 736 = .ok (.iload 5, 2) := by decide +kernel
theorem dL_law_738 : decode cL_law 738 = .ok (.if_icmp .eq 5, 3) := by decide +kernel
theorem dL_law_741 : decode cL_law 741 = .ok (.iconst 0, 1) := by decide +kernel
theorem dL_law_742 : decode cL_law 742 = .ok (.ireturn, 1) := by decide +kernel
theorem dL_law_743 : decode cL_law 743 = .ok (.iload 5, 2) := by decide +kernel
theorem dL_law_745 : decode cL_law 745 = .ok (.ifCond .ne 15, 3) := by decide +kernel
theorem dL_law_748 : decode cL_law 748 = .ok (.aload_n 3, 1) := by decide +kernel
theorem dL_law_749 : decode cL_law 749 = .ok (.iconst 0, 1) := by decide +kernel
theorem dL_law_750 : decode cL_law 750 = .ok (.laload, 1) := by decide +kernel
theorem dL_law_751 : decode cL_law 751 = .ok (.iload 6, 2) := by decide +kernel
theorem dL_law_753 : decode cL_law 753 = .ok (.i2l, 1) := by decide +kernel
theorem dL_law_754 : decode cL_law 754 = .ok (.lcmp, 1) := by decide +kernel
theorem dL_law_755 : decode cL_law 755 = .ok (.ifCond .eq 5, 3) := by decide +kernel
theorem dL_law_758 : decode cL_law 758 = .ok (.iconst 0, 1) := by decide +kernel
theorem dL_law_759 : decode cL_law 759 = .ok (.ireturn, 1) := by decide +kernel
theorem dL_law_760 : decode cL_law 760 = .ok (.goto 764, 3) := by decide +kernel
theorem dL_law_763 : decode cL_law 763 = .ok (.aload_n 1, 1) := by decide +kernel
theorem dL_law_764 : decode cL_law 764 = .ok (.aload_n 0, 1) := by decide +kernel
theorem dL_law_765 : decode cL_law 765 = .ok (.iload 4, 2) := by decide +kernel
theorem dL_law_767 : decode cL_law 767 = .ok (.iconst 1, 1) := by decide +kernel
theorem dL_law_768 : decode cL_law 768 = .ok (.iadd, 1) := by decide +kernel
theorem dL_law_769 : decode cL_law 769 = .ok (.iaload, 1) := by decide +kernel
theorem dL_law_770 : decode cL_law 770 = .ok (.aload_n 0, 1) := by decide +kernel
theorem dL_law_771 : decode cL_law 771 = .ok (.iload 4, 2) := by decide +kernel
theorem dL_law_773 : decode cL_law 773 = .ok (.iconst 2, 1) := by decide +kernel
theorem dL_law_774 : decode cL_law 774 = .ok (.iadd, 1) := by decide +kernel
theorem dL_law_775 : decode cL_law 775 = .ok (.iaload, 1) := by decide +kernel
theorem dL_law_776 : decode cL_law 776 = .ok (.aload_n 0, 1) := by decide +kernel
theorem dL_law_777 : decode cL_law 777 = .ok (.iload 4, 2) := by decide +kernel
theorem dL_law_779 : decode cL_law 779 = .ok (.iconst 3, 1) := by decide +kernel
theorem dL_law_780 : decode cL_law 780 = .ok (.iadd, 1) := by decide +kernel
theorem dL_law_781 : decode cL_law 781 = .ok (.iaload, 1) := by decide +kernel
theorem dL_law_782 : decode cL_law 782 = .ok (.aload_n 3, 1) := by decide +kernel
theorem dL_law_783 : decode cL_law 783 = .ok (.invokestatic 126, 3) := by decide +kernel
theorem dL_law_786 : decode cL_law 786 = .ok (.istore 5, 2) := by decide +kernel
theorem dL_law_788 : decode cL_law 788 = .ok (.aload_n 2, 1) := by decide +kernel
theorem dL_law_789 : decode cL_law 789 = .ok (.aload_n 0, 1) := by decide +kernel
theorem dL_law_790 : decode cL_law 790 = .ok (.iload 4, 2) := by decide +kernel
theorem dL_law_792 : decode cL_law 792 = .ok (.iconst 1, 1) := by decide +kernel
theorem dL_law_793 : decode cL_law 793 = .ok (.iadd, 1) := by decide +kernel
theorem dL_law_794 : decode cL_law 794 = .ok (.iaload, 1) := by decide +kernel
theorem dL_law_795 : decode cL_law 795 = .ok (.aload_n 0, 1) := by decide +kernel
theorem dL_law_796 : decode cL_law 796 = .ok (.iload 4, 2) := by decide +kernel
theorem dL_law_798 : decode cL_law 798 = .ok (.iconst 2, 1) := by decide +kernel
theorem dL_law_799 : decode cL_law 799 = .ok (.iadd, 1) := by decide +kernel
theorem dL_law_800 : decode cL_law 800 = .ok (.iaload, 1) := by decide +kernel
theorem dL_law_801 : decode cL_law 801 = .ok (.aload_n 0, 1) := by decide +kernel
theorem dL_law_802 : decode cL_law 802 = .ok (.iload 4, 2) := by decide +kernel
theorem dL_law_804 : decode cL_law 804 = .ok (.iconst 3, 1) := by decide +kernel
theorem dL_law_805 : decode cL_law 805 = .ok (.iadd, 1) := by decide +kernel
theorem dL_law_806 : decode cL_law 806 = .ok (.iaload, 1) := by decide +kernel
theorem dL_law_807 : decode cL_law 807 = .ok (.invokevirtual 129, 3) := by decide +kernel
theorem dL_law_810 : decode cL_law 810 = .ok (.istore 6, 2) := by decide +kernel
theorem dL_law_812 : decode cL_law 812 = .ok (.aload_n 2, 1) := by decide +kernel
theorem dL_law_813 : decode cL_law 813 = .ok (.invokevirtual 88, 3) := by decide +kernel
theorem dL_law_816 : decode cL_law 816 = .ok (.iload 5, 2) := by decide +kernel
theorem dL_law_818 : decode cL_law 818 = .ok (.if_icmp .eq 5, 3) := by decide +kernel
theorem dL_law_821 : decode cL_law 821 = .ok (.iconst 0, 1) := by decide +kernel
theorem dL_law_822 : decode cL_law 822 = .ok (.ireturn, 1) := by decide +kernel
theorem dL_law_823 : decode cL_law 823 = .ok (.iload 5, 2) := by decide +kernel
theorem dL_law_825 : decode cL_law 825 = .ok (.ifCond .ne 15, 3) := by decide +kernel
theorem dL_law_828 : decode cL_law 828 = .ok (.aload_n 3, 1) := by decide +kernel
theorem dL_law_829 : decode cL_law 829 = .ok (.iconst 0, 1) := by decide +kernel
theorem dL_law_830 : decode cL_law 830 = .ok (.laload, 1) := by decide +kernel
theorem dL_law_831 : decode cL_law 831 = .ok (.iload 6, 2) := by decide +kernel
theorem dL_law_833 : decode cL_law 833 = .ok (.i2l, 1) := by decide +kernel
theorem dL_law_834 : decode cL_law 834 = .ok (.lcmp, 1) := by decide +kernel
theorem dL_law_835 : decode cL_law 835 = .ok (.ifCond .eq 5, 3) := by decide +kernel
theorem dL_law_838 : decode cL_law 838 = .ok (.iconst 0, 1) := by decide +kernel
theorem dL_law_839 : decode cL_law 839 = .ok (.ireturn, 1) := by decide +kernel
theorem dL_law_840 : decode cL_law 840 = .ok (.goto 684, 3) := by decide +kernel
theorem dL_law_843 : decode cL_law 843 = .ok (.aload_n 1, 1) := by decide +kernel
theorem dL_law_844 : decode cL_law 844 = .ok (.aload_n 0, 1) := by decide +kernel
theorem dL_law_845 : decode cL_law 845 = .ok (.iload 4, 2) := by decide +kernel
theorem dL_law_847 : decode cL_law 847 = .ok (.iconst 1, 1) := by decide +kernel
theorem dL_law_848 : decode cL_law 848 = .ok (.iadd, 1) := by decide +kernel
theorem dL_law_849 : decode cL_law 849 = .ok (.iaload, 1) := by decide +kernel
theorem dL_law_850 : decode cL_law 850 = .ok (.aload_n 3, 1) := by decide +kernel
theorem dL_law_851 : decode cL_law 851 = .ok (.invokestatic 130, 3) := by decide +kernel
theorem dL_law_854 : decode cL_law 854 = .ok (.istore 5, 2) := by decide +kernel
theorem dL_law_856 : decode cL_law 856 = .ok (.aload_n 2, 1) := by decide +kernel
theorem dL_law_857 : decode cL_law 857 = .ok (.aload_n 0, 1) := by decide +kernel
theorem dL_law_858 : decode cL_law 858 = .ok (.iload 4, 2) := by decide +kernel
theorem dL_law_860 : decode cL_law 860 = .ok (.iconst 1, 1) := by decide +kernel
theorem dL_law_861 : decode cL_law 861 = .ok (.iadd, 1) := by decide +kernel
theorem dL_law_862 : decode cL_law 862 = .ok (.iaload, 1) := by decide +kernel
theorem dL_law_863 : decode cL_law 863 = .ok (.invokevirtual 132, 3) := by decide +kernel
theorem dL_law_866 : decode cL_law 866 = .ok (.istore 6, 2) := by decide +kernel
theorem dL_law_868 : decode cL_law 868 = .ok (.aload_n 2, 1) := by decide +kernel
theorem dL_law_869 : decode cL_law 869 = .ok (.invokevirtual 88, 3) := by decide +kernel
theorem dL_law_872 : decode cL_law 872 = .ok (.iload 5, 2) := by decide +kernel
theorem dL_law_874 : decode cL_law 874 = .ok (.if_icmp .eq 5, 3) := by decide +kernel
theorem dL_law_877 : decode cL_law 877 = .ok (.iconst 0, 1) := by decide +kernel
theorem dL_law_878 : decode cL_law 878 = .ok (.ireturn, 1) := by decide +kernel
theorem dL_law_879 : decode cL_law 879 = .ok (.iload 5, 2) := by decide +kernel
theorem dL_law_881 : decode cL_law 881 = .ok (.ifCond .ne 15, 3) := by decide +kernel
theorem dL_law_884 : decode cL_law 884 = .ok (.aload_n 3, 1) := by decide +kernel
theorem dL_law_885 : decode cL_law 885 = .ok (.iconst 0, 1) := by decide +kernel
theorem dL_law_886 : decode cL_law 886 = .ok (.laload, 1) := by decide +kernel
theorem dL_law_887 : decode cL_law 887 = .ok (.iload 6, 2) := by decide +kernel
theorem dL_law_889 : decode cL_law 889 = .ok (.i2l, 1) := by decide +kernel
theorem dL_law_890 : decode cL_law 890 = .ok (.lcmp, 1) := by decide +kernel
theorem dL_law_891 : decode cL_law 891 = .ok (.ifCond .eq 5, 3) := by decide +kernel
theorem dL_law_894 : decode cL_law 894 = .ok (.iconst 0, 1) := by decide +kernel
theorem dL_law_895 : decode cL_law 895 = .ok (.ireturn, 1) := by decide +kernel
theorem dL_law_896 : decode cL_law 896 = .ok (.goto 628, 3) := by decide +kernel
theorem dL_law_899 : decode cL_law 899 = .ok (.aload_n 1, 1) := by decide +kernel
theorem dL_law_900 : decode cL_law 900 = .ok (.aload_n 0, 1) := by decide +kernel
theorem dL_law_901 : decode cL_law 901 = .ok (.iload 4, 2) := by decide +kernel
theorem dL_law_903 : decode cL_law 903 = .ok (.iconst 1, 1) := by decide +kernel
theorem dL_law_904 : decode cL_law 904 = .ok (.iadd, 1) := by decide +kernel
theorem dL_law_905 : decode cL_law 905 = .ok (.iaload, 1) := by decide +kernel
theorem dL_law_906 : decode cL_law 906 = .ok (.aload_n 3, 1) := by decide +kernel
theorem dL_law_907 : decode cL_law 907 = .ok (.invokestatic 133, 3) := by decide +kernel
theorem dL_law_910 : decode cL_law 910 = .ok (.istore 5, 2) := by decide +kernel
theorem dL_law_912 : decode cL_law 912 = .ok (.aload_n 2, 1) := by decide +kernel
theorem dL_law_913 : decode cL_law 913 = .ok (.aload_n 0, 1) := by decide +kernel
theorem dL_law_914 : decode cL_law 914 = .ok (.iload 4, 2) := by decide +kernel
theorem dL_law_916 : decode cL_law 916 = .ok (.iconst 1, 1) := by decide +kernel
theorem dL_law_917 : decode cL_law 917 = .ok (.iadd, 1) := by decide +kernel
theorem dL_law_918 : decode cL_law 918 = .ok (.iaload, 1) := by decide +kernel
theorem dL_law_919 : decode cL_law 919 = .ok (.invokevirtual 135, 3) := by decide +kernel
theorem dL_law_922 : decode cL_law 922 = .ok (.istore 6, 2) := by decide +kernel
theorem dL_law_924 : decode cL_law 924 = .ok (.aload_n 2, 1) := by decide +kernel
theorem dL_law_925 : decode cL_law 925 = .ok (.invokevirtual 88, 3) := by decide +kernel
theorem dL_law_928 : decode cL_law 928 = .ok (.iload 5, 2) := by decide +kernel
theorem dL_law_930 : decode cL_law 930 = .ok (.if_icmp .eq 5, 3) := by decide +kernel
theorem dL_law_933 : decode cL_law 933 = .ok (.iconst 0, 1) := by decide +kernel
theorem dL_law_934 : decode cL_law 934 = .ok (.ireturn, 1) := by decide +kernel
theorem dL_law_935 : decode cL_law 935 = .ok (.iload 5, 2) := by decide +kernel
theorem dL_law_937 : decode cL_law 937 = .ok (.ifCond .ne 15, 3) := by decide +kernel
theorem dL_law_940 : decode cL_law 940 = .ok (.aload_n 3, 1) := by decide +kernel
theorem dL_law_941 : decode cL_law 941 = .ok (.iconst 0, 1) := by decide +kernel
theorem dL_law_942 : decode cL_law 942 = .ok (.laload, 1) := by decide +kernel
theorem dL_law_943 : decode cL_law 943 = .ok (.iload 6, 2) := by decide +kernel
theorem dL_law_945 : decode cL_law 945 = .ok (.i2l, 1) := by decide +kernel
theorem dL_law_946 : decode cL_law 946 = .ok (.lcmp, 1) := by decide +kernel
theorem dL_law_947 : decode cL_law 947 = .ok (.ifCond .eq 5, 3) := by decide +kernel
theorem dL_law_950 : decode cL_law 950 = .ok (.iconst 0, 1) := by decide +kernel
theorem dL_law_951 : decode cL_law 951 = .ok (.ireturn, 1) := by decide +kernel
theorem dL_law_952 : decode cL_law 952 = .ok (.goto 572, 3) := by decide +kernel
theorem dL_law_955 : decode cL_law 955 = .ok (.aload_n 1, 1) := by decide +kernel
theorem dL_law_956 : decode cL_law 956 = .ok (.aload_n 0, 1) := by decide +kernel
theorem dL_law_957 : decode cL_law 957 = .ok (.iload 4, 2) := by decide +kernel
theorem dL_law_959 : decode cL_law 959 = .ok (.iconst 1, 1) := by decide +kernel
theorem dL_law_960 : decode cL_law 960 = .ok (.iadd, 1) := by decide +kernel
theorem dL_law_961 : decode cL_law 961 = .ok (.iaload, 1) := by decide +kernel
theorem dL_law_962 : decode cL_law 962 = .ok (.aload_n 3, 1) := by decide +kernel
theorem dL_law_963 : decode cL_law 963 = .ok (.invokestatic 136, 3) := by decide +kernel
theorem dL_law_966 : decode cL_law 966 = .ok (.istore 5, 2) := by decide +kernel
theorem dL_law_968 : decode cL_law 968 = .ok (.aload_n 2, 1) := by decide +kernel
theorem dL_law_969 : decode cL_law 969 = .ok (.aload_n 0, 1) := by decide +kernel
theorem dL_law_970 : decode cL_law 970 = .ok (.iload 4, 2) := by decide +kernel
theorem dL_law_972 : decode cL_law 972 = .ok (.iconst 1, 1) := by decide +kernel
theorem dL_law_973 : decode cL_law 973 = .ok (.iadd, 1) := by decide +kernel
theorem dL_law_974 : decode cL_law 974 = .ok (.iaload, 1) := by decide +kernel
theorem dL_law_975 : decode cL_law 975 = .ok (.invokevirtual 138, 3) := by decide +kernel
theorem dL_law_978 : decode cL_law 978 = .ok (.istore 6, 2) := by decide +kernel
theorem dL_law_980 : decode cL_law 980 = .ok (.aload_n 2, 1) := by decide +kernel
theorem dL_law_981 : decode cL_law 981 = .ok (.invokevirtual 88, 3) := by decide +kernel
theorem dL_law_984 : decode cL_law 984 = .ok (.iload 5, 2) := by decide +kernel
theorem dL_law_986 : decode cL_law 986 = .ok (.if_icmp .eq 5, 3) := by decide +kernel
theorem dL_law_989 : decode cL_law 989 = .ok (.iconst 0, 1) := by decide +kernel
theorem dL_law_990 : decode cL_law 990 = .ok (.ireturn, 1) := by decide +kernel
theorem dL_law_991 : decode cL_law 991 = .ok (.iload 5, 2) := by decide +kernel
theorem dL_law_993 : decode cL_law 993 = .ok (.ifCond .ne 15, 3) := by decide +kernel
theorem dL_law_996 : decode cL_law 996 = .ok (.aload_n 3, 1) := by decide +kernel
theorem dL_law_997 : decode cL_law 997 = .ok (.iconst 0, 1) := by decide +kernel
theorem dL_law_998 : decode cL_law 998 = .ok (.laload, 1) := by decide +kernel
theorem dL_law_999 : decode cL_law 999 = .ok (.iload 6, 2) := by decide +kernel
theorem dL_law_1001 : decode cL_law 1001 = .ok (.i2l, 1) := by decide +kernel
theorem dL_law_1002 : decode cL_law 1002 = .ok (.lcmp, 1) := by decide +kernel
theorem dL_law_1003 : decode cL_law 1003 = .ok (.ifCond .eq 5, 3) := by decide +kernel
theorem dL_law_1006 : decode cL_law 1006 = .ok (.iconst 0, 1) := by decide +kernel
theorem dL_law_1007 : decode cL_law 1007 = .ok (.ireturn, 1) := by decide +kernel
theorem dL_law_1008 : decode cL_law 1008 = .ok (.goto 516, 3) := by decide +kernel
theorem dL_law_1011 : decode cL_law 1011 = .ok (.aload_n 1, 1) := by decide +kernel
theorem dL_law_1012 : decode cL_law 1012 = .ok (.aload_n 0, 1) := by decide +kernel
theorem dL_law_1013 : decode cL_law 1013 = .ok (.iload 4, 2) := by decide +kernel
theorem dL_law_1015 : decode cL_law 1015 = .ok (.iconst 1, 1) := by decide +kernel
theorem dL_law_1016 : decode cL_law 1016 = .ok (.iadd, 1) := by decide +kernel
theorem dL_law_1017 : decode cL_law 1017 = .ok (.iaload, 1) := by decide +kernel
theorem dL_law_1018 : decode cL_law 1018 = .ok (.aload_n 3, 1) := by decide +kernel
theorem dL_law_1019 : decode cL_law 1019 = .ok (.invokestatic 139, 3) := by decide +kernel
theorem dL_law_1022 : decode cL_law 1022 = .ok (.istore 5, 2) := by decide +kernel
theorem dL_law_1024 : decode cL_law 1024 = .ok (.aload_n 2, 1) := by decide +kernel
theorem dL_law_1025 : decode cL_law 1025 = .ok (.aload_n 0, 1) := by decide +kernel
theorem dL_law_1026 : decode cL_law 1026 = .ok (.iload 4, 2) := by decide +kernel
theorem dL_law_1028 : decode cL_law 1028 = .ok (.iconst 1, 1) := by decide +kernel
theorem dL_law_1029 : decode cL_law 1029 = .ok (.iadd, 1) := by decide +kernel
theorem dL_law_1030 : decode cL_law 1030 = .ok (.iaload, 1) := by decide +kernel
theorem dL_law_1031 : decode cL_law 1031 = .ok (.invokevirtual 141, 3) := by decide +kernel
theorem dL_law_1034 : decode cL_law 1034 = .ok (.istore 6, 2) := by decide +kernel
theorem dL_law_1036 : decode cL_law 1036 = .ok (.aload_n 2, 1) := by decide +kernel
theorem dL_law_1037 : decode cL_law 1037 = .ok (.invokevirtual 88, 3) := by decide +kernel
theorem dL_law_1040 : decode cL_law 1040 = .ok (.iload 5, 2) := by decide +kernel
theorem dL_law_1042 : decode cL_law 1042 = .ok (.if_icmp .eq 5, 3) := by decide +kernel
theorem dL_law_1045 : decode cL_law 1045 = .ok (.iconst 0, 1) := by decide +kernel
theorem dL_law_1046 : decode cL_law 1046 = .ok (.ireturn, 1) := by decide +kernel
theorem dL_law_1047 : decode cL_law 1047 = .ok (.iload 5, 2) := by decide +kernel
theorem dL_law_1049 : decode cL_law 1049 = .ok (.ifCond .ne 15, 3) := by decide +kernel
theorem dL_law_1052 : decode cL_law 1052 = .ok (.aload_n 3, 1) := by decide +kernel
theorem dL_law_1053 : decode cL_law 1053 = .ok (.iconst 0, 1) := by decide +kernel
theorem dL_law_1054 : decode cL_law 1054 = .ok (.laload, 1) := by decide +kernel
theorem dL_law_1055 : decode cL_law 1055 = .ok (.iload 6, 2) := by decide +kernel
theorem dL_law_1057 : decode cL_law 1057 = .ok (.i2l, 1) := by decide +kernel
theorem dL_law_1058 : decode cL_law 1058 = .ok (.lcmp, 1) := by decide +kernel
theorem dL_law_1059 : decode cL_law 1059 = .ok (.ifCond .eq 5, 3) := by decide +kernel
theorem dL_law_1062 : decode cL_law 1062 = .ok (.iconst 0, 1) := by decide +kernel
theorem dL_law_1063 : decode cL_law 1063 = .ok (.ireturn, 1) := by decide +kernel
theorem dL_law_1064 : decode cL_law 1064 = .ok (.goto 460, 3) := by decide +kernel
theorem dL_law_1067 : decode cL_law 1067 = .ok (.aload_n 1, 1) := by decide +kernel
theorem dL_law_1068 : decode cL_law 1068 = .ok (.aload_n 0, 1) := by decide +kernel
theorem dL_law_1069 : decode cL_law 1069 = .ok (.iload 4, 2) := by decide +kernel
theorem dL_law_1071 : decode cL_law 1071 = .ok (.iconst 1, 1) := by decide +kernel
theorem dL_law_1072 : decode cL_law 1072 = .ok (.iadd, 1) := by decide +kernel
theorem dL_law_1073 : decode cL_law 1073 = .ok (.iaload, 1) := by decide +kernel
theorem dL_law_1074 : decode cL_law 1074 = .ok (.aload_n 0, 1) := by decide +kernel
theorem dL_law_1075 : decode cL_law 1075 = .ok (.iload 4, 2) := by decide +kernel
theorem dL_law_1077 : decode cL_law 1077 = .ok (.iconst 2, 1) := by decide +kernel
theorem dL_law_1078 : decode cL_law 1078 = .ok (.iadd, 1) := by decide +kernel
theorem dL_law_1079 : decode cL_law 1079 = .ok (.iaload, 1) := by decide +kernel
theorem dL_law_1080 : decode cL_law 1080 = .ok (.aload_n 3, 1) := by decide +kernel
theorem dL_law_1081 : decode cL_law 1081 = .ok (.invokestatic 142, 3) := by decide +kernel
theorem dL_law_1084 : decode cL_law 1084 = .ok (.istore 5, 2) := by decide +kernel
theorem dL_law_1086 : decode cL_law 1086 = .ok (.aload_n 2, 1) := by decide +kernel
theorem dL_law_1087 : decode cL_law 1087 = .ok (.aload_n 0, 1) := by decide +kernel
theorem dL_law_1088 : decode cL_law 1088 = .ok (.iload 4, 2) := by decide +kernel
theorem dL_law_1090 : decode cL_law 1090 = .ok (.iconst 1, 1) := by decide +kernel
theorem dL_law_1091 : decode cL_law 1091 = .ok (.iadd, 1) := by decide +kernel
theorem dL_law_1092 : decode cL_law 1092 = .ok (.iaload, 1) := by decide +kernel
theorem dL_law_1093 : decode cL_law 1093 = .ok (.aload_n 0, 1) := by decide +kernel
theorem dL_law_1094 : decode cL_law 1094 = .ok (.iload 4, 2) := by decide +kernel
theorem dL_law_1096 : decode cL_law 1096 = .ok (.iconst 2, 1) := by decide +kernel
theorem dL_law_1097 : decode cL_law 1097 = .ok (.iadd, 1) := by decide +kernel
theorem dL_law_1098 : decode cL_law 1098 = .ok (.iaload, 1) := by decide +kernel
theorem dL_law_1099 : decode cL_law 1099 = .ok (.invokevirtual 144, 3) := by decide +kernel
theorem dL_law_1102 : decode cL_law 1102 = .ok (.istore 6, 2) := by decide +kernel
theorem dL_law_1104 : decode cL_law 1104 = .ok (.aload_n 2, 1) := by decide +kernel
theorem dL_law_1105 : decode cL_law 1105 = .ok (.invokevirtual 88, 3) := by decide +kernel
theorem dL_law_1108 : decode cL_law 1108 = .ok (.iload 5, 2) := by decide +kernel
theorem dL_law_1110 : decode cL_law 1110 = .ok (.if_icmp .eq 5, 3) := by decide +kernel
theorem dL_law_1113 : decode cL_law 1113 = .ok (.iconst 0, 1) := by decide +kernel
theorem dL_law_1114 : decode cL_law 1114 = .ok (.ireturn, 1) := by decide +kernel
theorem dL_law_1115 : decode cL_law 1115 = .ok (.iload 5, 2) := by decide +kernel
theorem dL_law_1117 : decode cL_law 1117 = .ok (.ifCond .ne 15, 3) := by decide +kernel
theorem dL_law_1120 : decode cL_law 1120 = .ok (.aload_n 3, 1) := by decide +kernel
theorem dL_law_1121 : decode cL_law 1121 = .ok (.iconst 0, 1) := by decide +kernel
theorem dL_law_1122 : decode cL_law 1122 = .ok (.laload, 1) := by decide +kernel
theorem dL_law_1123 : decode cL_law 1123 = .ok (.iload 6, 2) := by decide +kernel
theorem dL_law_1125 : decode cL_law 1125 = .ok (.i2l, 1) := by decide +kernel
theorem dL_law_1126 : decode cL_law 1126 = .ok (.lcmp, 1) := by decide +kernel
theorem dL_law_1127 : decode cL_law 1127 = .ok (.ifCond .eq 5, 3) := by decide +kernel
theorem dL_law_1130 : decode cL_law 1130 = .ok (.iconst 0, 1) := by decide +kernel
theorem dL_law_1131 : decode cL_law 1131 = .ok (.ireturn, 1) := by decide +kernel
theorem dL_law_1132 : decode cL_law 1132 = .ok (.goto 392, 3) := by decide +kernel
theorem dL_law_1135 : decode cL_law 1135 = .ok (.aload_n 1, 1) := by decide +kernel
theorem dL_law_1136 : decode cL_law 1136 = .ok (.aload_n 0, 1) := by decide +kernel
theorem dL_law_1137 : decode cL_law 1137 = .ok (.iload 4, 2) := by decide +kernel
theorem dL_law_1139 : decode cL_law 1139 = .ok (.iconst 1, 1) := by decide +kernel
theorem dL_law_1140 : decode cL_law 1140 = .ok (.iadd, 1) := by decide +kernel
theorem dL_law_1141 : decode cL_law 1141 = .ok (.iaload, 1) := by decide +kernel
theorem dL_law_1142 : decode cL_law 1142 = .ok (.aload_n 0, 1) := by decide +kernel
theorem dL_law_1143 : decode cL_law 1143 = .ok (.iload 4, 2) := by decide +kernel
theorem dL_law_1145 : decode cL_law 1145 = .ok (.iconst 2, 1) := by decide +kernel
theorem dL_law_1146 : decode cL_law 1146 = .ok (.iadd, 1) := by decide +kernel
theorem dL_law_1147 : decode cL_law 1147 = .ok (.iaload, 1) := by decide +kernel
theorem dL_law_1148 : decode cL_law 1148 = .ok (.aload_n 3, 1) := by decide +kernel
theorem dL_law_1149 : decode cL_law 1149 = .ok (.invokestatic 145, 3) := by decide +kernel
theorem dL_law_1152 : decode cL_law 1152 = .ok (.istore 5, 2) := by decide +kernel
theorem dL_law_1154 : decode cL_law 1154 = .ok (.aload_n 2, 1) := by decide +kernel
theorem dL_law_1155 : decode cL_law 1155 = .ok (.aload_n 0, 1) := by decide +kernel
theorem dL_law_1156 : decode cL_law 1156 = .ok (.iload 4, 2) := by decide +kernel
theorem dL_law_1158 : decode cL_law 1158 = .ok (.iconst 1, 1) := by decide +kernel
theorem dL_law_1159 : decode cL_law 1159 = .ok (.iadd, 1) := by decide +kernel
theorem dL_law_1160 : decode cL_law 1160 = .ok (.iaload, 1) := by decide +kernel
theorem dL_law_1161 : decode cL_law 1161 = .ok (.aload_n 0, 1) := by decide +kernel
theorem dL_law_1162 : decode cL_law 1162 = .ok (.iload 4, 2) := by decide +kernel
theorem dL_law_1164 : decode cL_law 1164 = .ok (.iconst 2, 1) := by decide +kernel
theorem dL_law_1165 : decode cL_law 1165 = .ok (.iadd, 1) := by decide +kernel
theorem dL_law_1166 : decode cL_law 1166 = .ok (.iaload, 1) := by decide +kernel
theorem dL_law_1167 : decode cL_law 1167 = .ok (.invokevirtual 147, 3) := by decide +kernel
theorem dL_law_1170 : decode cL_law 1170 = .ok (.istore 6, 2) := by decide +kernel
theorem dL_law_1172 : decode cL_law 1172 = .ok (.aload_n 2, 1) := by decide +kernel
theorem dL_law_1173 : decode cL_law 1173 = .ok (.invokevirtual 88, 3) := by decide +kernel
theorem dL_law_1176 : decode cL_law 1176 = .ok (.iload 5, 2) := by decide +kernel
theorem dL_law_1178 : decode cL_law 1178 = .ok (.if_icmp .eq 5, 3) := by decide +kernel
theorem dL_law_1181 : decode cL_law 1181 = .ok (.iconst 0, 1) := by decide +kernel
theorem dL_law_1182 : decode cL_law 1182 = .ok (.ireturn, 1) := by decide +kernel
theorem dL_law_1183 : decode cL_law 1183 = .ok (.iload 5, 2) := by decide +kernel
theorem dL_law_1185 : decode cL_law 1185 = .ok (.ifCond .ne 15, 3) := by decide +kernel
theorem dL_law_1188 : decode cL_law 1188 = .ok (.aload_n 3, 1) := by decide +kernel
theorem dL_law_1189 : decode cL_law 1189 = .ok (.iconst 0, 1) := by decide +kernel
theorem dL_law_1190 : decode cL_law 1190 = .ok (.laload, 1) := by decide +kernel
theorem dL_law_1191 : decode cL_law 1191 = .ok (.iload 6, 2) := by decide +kernel
theorem dL_law_1193 : decode cL_law 1193 = .ok (.i2l, 1) := by decide +kernel
theorem dL_law_1194 : decode cL_law 1194 = .ok (.lcmp, 1) := by decide +kernel
theorem dL_law_1195 : decode cL_law 1195 = .ok (.ifCond .eq 5, 3) := by decide +kernel
theorem dL_law_1198 : decode cL_law 1198 = .ok (.iconst 0, 1) := by decide +kernel
theorem dL_law_1199 : decode cL_law 1199 = .ok (.ireturn, 1) := by decide +kernel
theorem dL_law_1200 : decode cL_law 1200 = .ok (.goto 324, 3) := by decide +kernel
theorem dL_law_1203 : decode cL_law 1203 = .ok (.aload_n 1, 1) := by decide +kernel
theorem dL_law_1204 : decode cL_law 1204 = .ok (.invokevirtual 148, 3) := by decide +kernel
theorem dL_law_1207 : decode cL_law 1207 = .ok (.aload_n 2, 1) := by decide +kernel
theorem dL_law_1208 : decode cL_law 1208 = .ok (.invokevirtual 151, 3) := by decide +kernel
theorem dL_law_1211 : decode cL_law 1211 = .ok (.if_icmp .eq 313, 3) := by decide +kernel
theorem dL_law_1214 : decode cL_law 1214 = .ok (.iconst 0, 1) := by decide +kernel
theorem dL_law_1215 : decode cL_law 1215 = .ok (.ireturn, 1) := by decide +kernel
theorem dL_law_1216 : decode cL_law 1216 = .ok (.aload_n 1, 1) := by decide +kernel
theorem dL_law_1217 : decode cL_law 1217 = .ok (.aload_n 0, 1) := by decide +kernel
theorem dL_law_1218 : decode cL_law 1218 = .ok (.iload 4, 2) := by decide +kernel
theorem dL_law_1220 : decode cL_law 1220 = .ok (.iconst 1, 1) := by decide +kernel
theorem dL_law_1221 : decode cL_law 1221 = .ok (.iadd, 1) := by decide +kernel
theorem dL_law_1222 : decode cL_law 1222 = .ok (.iaload, 1) := by decide +kernel
theorem dL_law_1223 : decode cL_law 1223 = .ok (.aload_n 0, 1) := by decide +kernel
theorem dL_law_1224 : decode cL_law 1224 = .ok (.iload 4, 2) := by decide +kernel
theorem dL_law_1226 : decode cL_law 1226 = .ok (.iconst 2, 1) := by decide +kernel
theorem dL_law_1227 : decode cL_law 1227 = .ok (.iadd, 1) := by decide +kernel
theorem dL_law_1228 : decode cL_law 1228 = .ok (.iaload, 1) := by decide +kernel
theorem dL_law_1229 : decode cL_law 1229 = .ok (.aload_n 3, 1) := by decide +kernel
theorem dL_law_1230 : decode cL_law 1230 = .ok (.invokestatic 152, 3) := by decide +kernel
theorem dL_law_1233 : decode cL_law 1233 = .ok (.istore 5, 2) := by decide +kernel
theorem dL_law_1235 : decode cL_law 1235 = .ok (.aload_n 2, 1) := by decide +kernel
theorem dL_law_1236 : decode cL_law 1236 = .ok (.aload_n 0, 1) := by decide +kernel
theorem dL_law_1237 : decode cL_law 1237 = .ok (.iload 4, 2) := by decide +kernel
theorem dL_law_1239 : decode cL_law 1239 = .ok (.iconst 1, 1) := by decide +kernel
theorem dL_law_1240 : decode cL_law 1240 = .ok (.iadd, 1) := by decide +kernel
theorem dL_law_1241 : decode cL_law 1241 = .ok (.iaload, 1) := by decide +kernel
theorem dL_law_1242 : decode cL_law 1242 = .ok (.aload_n 0, 1) := by decide +kernel
theorem dL_law_1243 : decode cL_law 1243 = .ok (.iload 4, 2) := by decide +kernel
theorem dL_law_1245 : decode cL_law 1245 = .ok (.iconst 2, 1) := by decide +kernel
theorem dL_law_1246 : decode cL_law 1246 = .ok (.iadd, 1) := by decide +kernel
theorem dL_law_1247 : decode cL_law 1247 = .ok (.iaload, 1) := by decide +kernel
theorem dL_law_1248 : decode cL_law 1248 = .ok (.invokevirtual 154, 3) := by decide +kernel
theorem dL_law_1251 : decode cL_law 1251 = .ok (.istore 6, 2) := by decide +kernel
theorem dL_law_1253 : decode cL_law 1253 = .ok (.aload_n 2, 1) := by decide +kernel
theorem dL_law_1254 : decode cL_law 1254 = .ok (.invokevirtual 88, 3) := by decide +kernel
theorem dL_law_1257 : decode cL_law 1257 = .ok (.iload 5, 2) := by decide +kernel
theorem dL_law_1259 : decode cL_law 1259 = .ok (.if_icmp .eq 5, 3) := by decide +kernel
theorem dL_law_1262 : decode cL_law 1262 = .ok (.iconst 0, 1) := by decide +kernel
theorem dL_law_1263 : decode cL_law 1263 = .ok (.ireturn, 1) := by decide +kernel
theorem dL_law_1264 : decode cL_law 1264 = .ok (.iload 5, 2) := by decide +kernel
theorem dL_law_1266 : decode cL_law 1266 = .ok (.ifCond .ne 15, 3) := by decide +kernel
theorem dL_law_1269 : decode cL_law 1269 = .ok (.aload_n 3, 1) := by decide +kernel
theorem dL_law_1270 : decode cL_law 1270 = .ok (.iconst 0, 1) := by decide +kernel
theorem dL_law_1271 : decode cL_law 1271 = .ok (.laload, 1) := by decide +kernel
theorem dL_law_1272 : decode cL_law 1272 = .ok (.iload 6, 2) := by decide +kernel
theorem dL_law_1274 : decode cL_law 1274 = .ok (.i2l, 1) := by decide +kernel
theorem dL_law_1275 : decode cL_law 1275 = .ok (.lcmp, 1) := by decide +kernel
theorem dL_law_1276 : decode cL_law 1276 = .ok (.ifCond .eq 5, 3) := by decide +kernel
theorem dL_law_1279 : decode cL_law 1279 = .ok (.iconst 0, 1) := by decide +kernel
theorem dL_law_1280 : decode cL_law 1280 = .ok (.ireturn, 1) := by decide +kernel
theorem dL_law_1281 : decode cL_law 1281 = .ok (.goto 243, 3) := by decide +kernel
theorem dL_law_1284 : decode cL_law 1284 = .ok (.aload_n 1, 1) := by decide +kernel
theorem dL_law_1285 : decode cL_law 1285 = .ok (.aload_n 0, 1) := by decide +kernel
theorem dL_law_1286 : decode cL_law 1286 = .ok (.iload 4, 2) := by decide +kernel
theorem dL_law_1288 : decode cL_law 1288 = .ok (.iconst 1, 1) := by decide +kernel
theorem dL_law_1289 : decode cL_law 1289 = .ok (.iadd, 1) := by decide +kernel
theorem dL_law_1290 : decode cL_law 1290 = .ok (.iaload, 1) := by decide +kernel
theorem dL_law_1291 : decode cL_law 1291 = .ok (.aload_n 0, 1) := by decide +kernel
theorem dL_law_1292 : decode cL_law 1292 = .ok (.iload 4, 2) := by decide +kernel
theorem dL_law_1294 : decode cL_law 1294 = .ok (.iconst 2, 1) := by decide +kernel
theorem dL_law_1295 : decode cL_law 1295 = .ok (.iadd, 1) := by decide +kernel
theorem dL_law_1296 : decode cL_law 1296 = .ok (.iaload, 1) := by decide +kernel
theorem dL_law_1297 : decode cL_law 1297 = .ok (.aload_n 3, 1) := by decide +kernel
theorem dL_law_1298 : decode cL_law 1298 = .ok (.invokestatic 155, 3) := by decide +kernel
theorem dL_law_1301 : decode cL_law 1301 = .ok (.istore 5, 2) := by decide +kernel
theorem dL_law_1303 : decode cL_law 1303 = .ok (.aload_n 2, 1) := by decide +kernel
theorem dL_law_1304 : decode cL_law 1304 = .ok (.aload_n 0, 1) := by decide +kernel
theorem dL_law_1305 : decode cL_law 1305 = .ok (.iload 4, 2) := by decide +kernel
theorem dL_law_1307 : decode cL_law 1307 = .ok (.iconst 1, 1) := by decide +kernel
theorem dL_law_1308 : decode cL_law 1308 = .ok (.iadd, 1) := by decide +kernel
theorem dL_law_1309 : decode cL_law 1309 = .ok (.iaload, 1) := by decide +kernel
theorem dL_law_1310 : decode cL_law 1310 = .ok (.aload_n 0, 1) := by decide +kernel
theorem dL_law_1311 : decode cL_law 1311 = .ok (.iload 4, 2) := by decide +kernel
theorem dL_law_1313 : decode cL_law 1313 = .ok (.iconst 2, 1) := by decide +kernel
theorem dL_law_1314 : decode cL_law 1314 = .ok (.iadd, 1) := by decide +kernel
theorem dL_law_1315 : decode cL_law 1315 = .ok (.iaload, 1) := by decide +kernel
theorem dL_law_1316 : decode cL_law 1316 = .ok (.invokevirtual 157, 3) := by decide +kernel
theorem dL_law_1319 : decode cL_law 1319 = .ok (.istore 6, 2) := by decide +kernel
theorem dL_law_1321 : decode cL_law 1321 = .ok (.aload_n 2, 1) := by decide +kernel
theorem dL_law_1322 : decode cL_law 1322 = .ok (.invokevirtual 88, 3) := by decide +kernel
theorem dL_law_1325 : decode cL_law 1325 = .ok (.iload 5, 2) := by decide +kernel
theorem dL_law_1327 : decode cL_law 1327 = .ok (.if_icmp .eq 5, 3) := by decide +kernel
theorem dL_law_1330 : decode cL_law 1330 = .ok (.iconst 0, 1) := by decide +kernel
theorem dL_law_1331 : decode cL_law 1331 = .ok (.ireturn, 1) := by decide +kernel
theorem dL_law_1332 : decode cL_law 1332 = .ok (.iload 5, 2) := by decide +kernel
theorem dL_law_1334 : decode cL_law 1334 = .ok (.ifCond .ne 15, 3) := by decide +kernel
theorem dL_law_1337 : decode cL_law 1337 = .ok (.aload_n 3, 1) := by decide +kernel
theorem dL_law_1338 : decode cL_law 1338 = .ok (.iconst 0, 1) := by decide +kernel
theorem dL_law_1339 : decode cL_law 1339 = .ok (.laload, 1) := by decide +kernel
theorem dL_law_1340 : decode cL_law 1340 = .ok (.iload 6, 2) := by decide +kernel
theorem dL_law_1342 : decode cL_law 1342 = .ok (.i2l, 1) := by decide +kernel
theorem dL_law_1343 : decode cL_law 1343 = .ok (.lcmp, 1) := by decide +kernel
theorem dL_law_1344 : decode cL_law 1344 = .ok (.ifCond .eq 5, 3) := by decide +kernel
theorem dL_law_1347 : decode cL_law 1347 = .ok (.iconst 0, 1) := by decide +kernel
theorem dL_law_1348 : decode cL_law 1348 = .ok (.ireturn, 1) := by decide +kernel
theorem dL_law_1349 : decode cL_law 1349 = .ok (.goto 175, 3) := by decide +kernel
theorem dL_law_1352 : decode cL_law 1352 = .ok (.aload_n 1, 1) := by decide +kernel
theorem dL_law_1353 : decode cL_law 1353 = .ok (.invokevirtual 158, 3) := by decide +kernel
theorem dL_law_1356 : decode cL_law 1356 = .ok (.aload_n 2, 1) := by decide +kernel
theorem dL_law_1357 : decode cL_law 1357 = .ok (.invokevirtual 162, 3) := by decide +kernel
theorem dL_law_1360 : decode cL_law 1360 = .ok (.lcmp, 1) := by decide +kernel
theorem dL_law_1361 : decode cL_law 1361 = .ok (.ifCond .eq 163, 3) := by decide +kernel
theorem dL_law_1364 : decode cL_law 1364 = .ok (.iconst 0, 1) := by decide +kernel
theorem dL_law_1365 : decode cL_law 1365 = .ok (.ireturn, 1) := by decide +kernel
theorem dL_law_1366 : decode cL_law 1366 = .ok (.aload_n 1, 1) := by decide +kernel
theorem dL_law_1367 : decode cL_law 1367 = .ok (.invokevirtual 163, 3) := by decide +kernel
theorem dL_law_1370 : decode cL_law 1370 = .ok (.aload_n 2, 1) := by decide +kernel
theorem dL_law_1371 : decode cL_law 1371 = .ok (.invokevirtual 166, 3) := by decide +kernel
theorem dL_law_1374 : decode cL_law 1374 = .ok (.if_icmp .eq 150, 3) := by decide +kernel
theorem dL_law_1377 : decode cL_law 1377 = .ok (.iconst 0, 1) := by decide +kernel
theorem dL_law_1378 : decode cL_law 1378 = .ok (.ireturn, 1) := by decide +kernel
theorem dL_law_1379 : decode cL_law 1379 = .ok (.aload_n 1, 1) := by decide +kernel
theorem dL_law_1380 : decode cL_law 1380 = .ok (.aload_n 0, 1) := by decide +kernel
theorem dL_law_1381 : decode cL_law 1381 = .ok (.iload 4, 2) := by decide +kernel
theorem dL_law_1383 : decode cL_law 1383 = .ok (.iconst 1, 1) := by decide +kernel
theorem dL_law_1384 : decode cL_law 1384 = .ok (.iadd, 1) := by decide +kernel
theorem dL_law_1385 : decode cL_law 1385 = .ok (.iaload, 1) := by decide +kernel
theorem dL_law_1386 : decode cL_law 1386 = .ok (.i2l, 1) := by decide +kernel
theorem dL_law_1387 : decode cL_law 1387 = .ok (.bipush 32, 2) := by decide +kernel
theorem dL_law_1389 : decode cL_law 1389 = .ok (.lshl, 1) := by decide +kernel
theorem dL_law_1390 : decode cL_law 1390 = .ok (.aload_n 0, 1) := by decide +kernel
theorem dL_law_1391 : decode cL_law 1391 = .ok (.iload 4, 2) := by decide +kernel
theorem dL_law_1393 : decode cL_law 1393 = .ok (.iconst 2, 1) := by decide +kernel
theorem dL_law_1394 : decode cL_law 1394 = .ok (.iadd, 1) := by decide +kernel
theorem dL_law_1395 : decode cL_law 1395 = .ok (.iaload, 1) := by decide +kernel
theorem dL_law_1396 : decode cL_law 1396 = .ok (.i2l, 1) := by decide +kernel
theorem dL_law_1397 : decode cL_law 1397 = .ok (.ldc2_w 167, 3) := by decide +kernel
theorem dL_law_1400 : decode cL_law 1400 = .ok (.land, 1) := by decide +kernel
theorem dL_law_1401 : decode cL_law 1401 = .ok (.lor, 1) := by decide +kernel
theorem dL_law_1402 : decode cL_law 1402 = .ok (.aload_n 3, 1) := by decide +kernel
theorem dL_law_1403 : decode cL_law 1403 = .ok (.invokestatic 169, 3) := by decide +kernel
theorem dL_law_1406 : decode cL_law 1406 = .ok (.istore 5, 2) := by decide +kernel
theorem dL_law_1408 : decode cL_law 1408 = .ok (.aload_n 2, 1) := by decide +kernel
theorem dL_law_1409 : decode cL_law 1409 = .ok (.aload_n 0, 1) := by decide +kernel
theorem dL_law_1410 : decode cL_law 1410 = .ok (.iload 4, 2) := by decide +kernel
theorem dL_law_1412 : decode cL_law 1412 = .ok (.iconst 1, 1) := by decide +kernel
theorem dL_law_1413 : decode cL_law 1413 = .ok (.iadd, 1) := by decide +kernel
theorem dL_law_1414 : decode cL_law 1414 = .ok (.iaload, 1) := by decide +kernel
theorem dL_law_1415 : decode cL_law 1415 = .ok (.i2l, 1) := by decide +kernel
theorem dL_law_1416 : decode cL_law 1416 = .ok (.bipush 32, 2) := by decide +kernel
theorem dL_law_1418 : decode cL_law 1418 = .ok (.lshl, 1) := by decide +kernel
theorem dL_law_1419 : decode cL_law 1419 = .ok (.aload_n 0, 1) := by decide +kernel
theorem dL_law_1420 : decode cL_law 1420 = .ok (.iload 4, 2) := by decide +kernel
theorem dL_law_1422 : decode cL_law 1422 = .ok (.iconst 2, 1) := by decide +kernel
theorem dL_law_1423 : decode cL_law 1423 = .ok (.iadd, 1) := by decide +kernel
theorem dL_law_1424 : decode cL_law 1424 = .ok (.iaload, 1) := by decide +kernel
theorem dL_law_1425 : decode cL_law 1425 = .ok (.i2l, 1) := by decide +kernel
theorem dL_law_1426 : decode cL_law 1426 = .ok (.ldc2_w 167, 3) := by decide +kernel
theorem dL_law_1429 : decode cL_law 1429 = .ok (.land, 1) := by decide +kernel
theorem dL_law_1430 : decode cL_law 1430 = .ok (.lor, 1) := by decide +kernel
theorem dL_law_1431 : decode cL_law 1431 = .ok (.invokevirtual 172, 3) := by decide +kernel
theorem dL_law_1434 : decode cL_law 1434 = .ok (.lstore 6, 2) := by decide +kernel
theorem dL_law_1436 : decode cL_law 1436 = .ok (.aload_n 2, 1) := by decide +kernel
theorem dL_law_1437 : decode cL_law 1437 = .ok (.invokevirtual 88, 3) := by decide +kernel
theorem dL_law_1440 : decode cL_law 1440 = .ok (.iload 5, 2) := by decide +kernel
theorem dL_law_1442 : decode cL_law 1442 = .ok (.if_icmp .eq 5, 3) := by decide +kernel
theorem dL_law_1445 : decode cL_law 1445 = .ok (.iconst 0, 1) := by decide +kernel
theorem dL_law_1446 : decode cL_law 1446 = .ok (.ireturn, 1) := by decide +kernel
theorem dL_law_1447 : decode cL_law 1447 = .ok (.iload 5, 2) := by decide +kernel
theorem dL_law_1449 : decode cL_law 1449 = .ok (.ifCond .ne 14, 3) := by decide +kernel
theorem dL_law_1452 : decode cL_law 1452 = .ok (.aload_n 3, 1) := by decide +kernel
theorem dL_law_1453 : decode cL_law 1453 = .ok (.iconst 0, 1) := by decide +kernel
theorem dL_law_1454 : decode cL_law 1454 = .ok (.laload, 1) := by decide +kernel
theorem dL_law_1455 : decode cL_law 1455 = .ok (.lload 6, 2) := by decide +kernel
theorem dL_law_1457 : decode cL_law 1457 = .ok (.lcmp, 1) := by decide +kernel
theorem dL_law_1458 : decode cL_law 1458 = .ok (.ifCond .eq 5, 3) := by decide +kernel
theorem dL_law_1461 : decode cL_law 1461 = .ok (.iconst 0, 1) := by decide +kernel
theorem dL_law_1462 : decode cL_law 1462 = .ok (.ireturn, 1) := by decide +kernel
theorem dL_law_1463 : decode cL_law 1463 = .ok (.goto 61, 3) := by decide +kernel
theorem dL_law_1466 : decode cL_law 1466 = .ok (.aload_n 1, 1) := by decide +kernel
theorem dL_law_1467 : decode cL_law 1467 = .ok (.aload_n 3, 1) := by decide +kernel
theorem dL_law_1468 : decode cL_law 1468 = .ok (.invokestatic 173, 3) := by decide +kernel
theorem dL_law_1471 : decode cL_law 1471 = .ok (.istore 5, 2) := by decide +kernel
theorem dL_law_1473 : decode cL_law 1473 = .ok (.aload_n 2, 1) := by decide +kernel
theorem dL_law_1474 : decode cL_law 1474 = .ok (.invokevirtual 176, 3) := by decide +kernel
theorem dL_law_1477 : decode cL_law 1477 = .ok (.istore 6, 2) := by decide +kernel
theorem dL_law_1479 : decode cL_law 1479 = .ok (.aload_n 2, 1) := by decide +kernel
theorem dL_law_1480 : decode cL_law 1480 = .ok (.invokevirtual 88, 3) := by decide +kernel
theorem dL_law_1483 : decode cL_law 1483 = .ok (.iload 5, 2) := by decide +kernel
theorem dL_law_1485 : decode cL_law 1485 = .ok (.if_icmp .eq 5, 3) := by decide +kernel
theorem dL_law_1488 : decode cL_law 1488 = .ok (.iconst 0, 1) := by decide +kernel
theorem dL_law_1489 : decode cL_law 1489 = .ok (.ireturn, 1) := by decide +kernel
theorem dL_law_1490 : decode cL_law 1490 = .ok (.iload 5, 2) := by decide +kernel
theorem dL_law_1492 : decode cL_law 1492 = .ok (.ifCond .ne 15, 3) := by decide +kernel
theorem dL_law_1495 : decode cL_law 1495 = .ok (.aload_n 3, 1) := by decide +kernel
theorem dL_law_1496 : decode cL_law 1496 = .ok (.iconst 0, 1) := by decide +kernel
theorem dL_law_1497 : decode cL_law 1497 = .ok (.laload, 1) := by decide +kernel
theorem dL_law_1498 : decode cL_law 1498 = .ok (.iload 6, 2) := by decide +kernel
theorem dL_law_1500 : decode cL_law 1500 = .ok (.i2l, 1) := by decide +kernel
theorem dL_law_1501 : decode cL_law 1501 = .ok (.lcmp, 1) := by decide +kernel
theorem dL_law_1502 : decode cL_law 1502 = .ok (.ifCond .eq 5, 3) := by decide +kernel
theorem dL_law_1505 : decode cL_law 1505 = .ok (.iconst 0, 1) := by decide +kernel
theorem dL_law_1506 : decode cL_law 1506 = .ok (.ireturn, 1) := by decide +kernel
theorem dL_law_1507 : decode cL_law 1507 = .ok (.goto 17, 3) := by decide +kernel
theorem dL_law_1510 : decode cL_law 1510 = .ok (.aload_n 1, 1) := by decide +kernel
theorem dL_law_1511 : decode cL_law 1511 = .ok (.invokevirtual 177, 3) := by decide +kernel
theorem dL_law_1514 : decode cL_law 1514 = .ok (.aload_n 2, 1) := by decide +kernel
theorem dL_law_1515 : decode cL_law 1515 = .ok (.invokevirtual 180, 3) := by decide +kernel
theorem dL_law_1518 : decode cL_law 1518 = .ok (.lcmp, 1) := by decide +kernel
theorem dL_law_1519 : decode cL_law 1519 = .ok (.ifCond .eq 5, 3) := by decide +kernel
theorem dL_law_1522 : decode cL_law 1522 = .ok (.iconst 0, 1) := by decide +kernel
theorem dL_law_1523 : decode cL_law 1523 = .ok (.ireturn, 1) := by decide +kernel
theorem dL_law_1524 : decode cL_law 1524 = .ok (.iinc 4 5, 3) := by decide +kernel
theorem dL_law_1527 : decode cL_law 1527 = .ok (.goto (-1504), 3) := by decide +kernel
theorem dL_law_1530 : decode cL_law 1530 = .ok (.iconst 1, 1) := by decide +kernel
theorem dL_law_1531 : decode cL_law 1531 = .ok (.ireturn, 1) := by decide +kernel
end
section
/-! THE WORLD AS A FUNCTION. A world is a partial map from addresses to cells (ME); what a method does to it is said by the map behind it. V: the machine, inside a method, comes to its end with Q (or throws with X). -/
abbrev Cel : Type := (Nat × List Value) ⊕ (Nat × vp_A)
abbrev ME : Type := Nat → Option Cel
abbrev GG : Type := va_G × (Nat → ClassId)
def toE (G : GG) (c : Cel) : va_E := match c with
  | .inl o => .inr o
  | .inr q => .inl (G.2 q.1, q.2)
def arTy (k : Nat) : FieldType := match k with
  | 0 => .int
  | 1 => .long
  | 2 => .object RX1
  | 3 => .object RX2
  | 4 => .object RX3
  | 5 => .object RX4
  | 6 => .object RX6
  | _ => .object RX7
def tysG (G : GG) : List (ClassId × FieldType) := [(G.2 0, arTy 0), (G.2 1, arTy 1), (G.2 2, arTy 2), (G.2 3, arTy 3), (G.2 4, arTy 4), (G.2 5, arTy 5), (G.2 6, arTy 6), (G.2 7, arTy 7)]
theorem tysG_at (G : GG) {k : Nat} (h : k < 8) : (tysG G)[k]? = some (G.2 k, arTy k) := by
  rcases (show k = 0 ∨ k = 1 ∨ k = 2 ∨ k = 3 ∨ k = 4 ∨ k = 5 ∨ k = 6 ∨ k = 7 by omega) with h | h | h | h | h | h | h | h <;> subst h <;> rfl
-- words
def tb : List Cond := lw_tbl.filter goodWord
theorem tb_in {w : Cond} (i : Nat) (h : lw_tbl[i]? = some w) (hg : goodWord w = true) : w ∈ tb := List.mem_filter.mpr ⟨List.mem_of_getElem? h, hg⟩
theorem tb_good : GoodIn tb tb := fun _ h => ⟨h, good_of_word (List.mem_filter.mp h).2⟩
/-- words that aren't carried by the kit's rule but by one of their own -/
def exOk : Cond → Bool
  | .declares .. => true
  | .castable .. => true
  | .methodLinkNest .. => true
  | _ => false
def tbx : List Cond := lw_tbl.filter exOk
def tbA : List String := [RX1, RX2, RX3, RX4, RX6, RX7]
def strOf : Cond → Option (String × Nat × String)
  | .stringRef a b c => some (a, b, c)
  | _ => none
def tbS : List (String × Nat × String) := lw_tbl.filterMap strOf
def Xw (U : State) : Prop := (∀ w ∈ tbx, va_Nw w U) ∧ (∀ C ∈ tbA, va_AO C U) ∧ ∀ q ∈ tbS, ∃ a : Nat, vk_R q.1 q.2.1 q.2.2 a U
theorem Xw_nw {w : Cond} {s U : State} (hx : exOk w = true) (hW : s.WarmedH U.vm) (h : va_Nw w s) : va_Nw w U := by
  cases w <;> first | exact va_Nw.warmD hW h | exact va_Nw.warmC hW h | exact va_Nw.warmM hW h | exact absurd hx (by simp [exOk])
theorem Xw.warm {s U : State} (hW : s.WarmedH U.vm) (h : Xw s) : Xw U :=
  ⟨fun w hw => Xw_nw (List.mem_filter.mp hw).2 hW (h.1 w hw), fun C hC => va_AO.moved hW.alike (h.2.1 C hC), fun q hq => (h.2.2 q hq).elim fun a ha => ⟨a, vk_R.warm hW ha⟩⟩
theorem Xw_on {w : Cond} (hx : exOk w = true) : w.onTables = true := by
  cases w <;> first | rfl | exact absurd hx (by simp [exOk])
theorem Xw.same {s U : State} (hv : s.vm = U.vm) (h : Xw s) : Xw U :=
  ⟨fun w hw => va_Nw.same (Xw_on (List.mem_filter.mp hw).2) hv (h.1 w hw), fun C hC => va_AO.moved (by rw [hv]; exact Vm.Alike.refl _) (h.2.1 C hC), fun q hq => (h.2.2 q hq).elim fun a ha => ⟨a, vk_R.same hv.symm ha⟩⟩
def Kn (G : GG) (U : State) : Prop := va_K G.1 vwCl (tysG G) U ∧ Xw U
theorem Kn.warm {G : GG} {s U : State} (hW : s.WarmedH U.vm) (h : Kn G s) : Kn G U := ⟨va_K.moved hW.alike h.1, h.2.warm hW⟩
theorem Kn.same {G : GG} {s U : State} (hv : s.vm = U.vm) (h : Kn G s) : Kn G U := ⟨va_K.moved (by rw [hv]; exact Vm.Alike.refl _) h.1, h.2.same hv⟩
def Zs (A : Nat → Prop) (U : State) (H : Heap) : Prop := vx_Zq Bundle.tN "UNASSIGNED_STACK" Bundle.steD A U H ∧ vx_Zq Bundle.tN "SUPPRESSED_SENTINEL" Bundle.listD A U H
theorem Zs.moved {A : Nat → Prop} {u U : State} {H : Heap} (hvm : u.vm.Alike U.vm) (h : Zs A u H) : Zs A U H := ⟨vx_Zq.moved hvm h.1, vx_Zq.moved hvm h.2⟩
theorem Zs.kept {A : Nat → Prop} {U : State} {H H1 : Heap} (h : Zs A U H) (hq : ∀ a : Nat, a < H.size → ¬ A a → H1[a]? = H[a]?) : Zs A U H1 := ⟨h.1.kept hq, h.2.kept hq⟩
-- the world
def mu (M : ME) (a : Nat) (e : Cel) : ME := fun q => if q = a then some e else M q
theorem mu_eq {M : ME} {a : Nat} {e : Cel} : mu M a e a = some e := if_pos rfl
theorem mu_ne {M : ME} {a q : Nat} {e : Cel} (h : q ≠ a) : mu M a e q = M q := if_neg h
def Rp (G : GG) (A : Nat → Prop) (M : ME) (H : Heap) : Prop := ∃ ws : va_W, va_P G.1 vwCl ws H ∧ va_D A ws ∧ ∀ (a : Nat) (e : Cel), M a = some e → ∃ k : Nat, ws[k]? = some (a, toE G e)
theorem Rp.lt {G : GG} {A : Nat → Prop} {M : ME} {H : Heap} (h : Rp G A M H) {a : Nat} {e : Cel} (he : M a = some e) : a < H.size := by
  obtain ⟨ws, hP, -, hC⟩ := h
  obtain ⟨k, hk⟩ := hC a e he
  exact (hP k _ hk).lt
theorem Rp.set {G : GG} {A : Nat → Prop} {M : ME} {H1 : Heap} {ws : va_W} {k a : Nat} {e e' : Cel} (hk : ws[k]? = some (a, toE G e)) (hD : va_D A ws) (hC : ∀ (a : Nat) (e : Cel), M a = some e → ∃ k : Nat, ws[k]? = some (a, toE G e)) (hP1 : va_P G.1 vwCl (ws.set k (a, toE G e')) H1) (hD1 : va_D A (ws.set k (a, toE G e'))) : Rp G A (mu M a e') H1 := by
  refine ⟨_, hP1, hD1, fun b f hb => ?_⟩
  have hl := (List.getElem?_eq_some_iff.mp hk).1
  by_cases h : b = a
  · subst h
    rw [mu_eq] at hb
    cases hb
    exact ⟨k, List.getElem?_set_self hl⟩
  · rw [mu_ne h] at hb
    obtain ⟨j, hj⟩ := hC b f hb
    have hjk : k ≠ j := fun z => h (by subst z; rw [hk] at hj; exact (congrArg Prod.fst (Option.some.inj hj)).symm)
    exact ⟨j, by rw [List.getElem?_set_ne hjk]; exact hj⟩
theorem Rp.push {G : GG} {A : Nat → Prop} {M : ME} {H H1 : Heap} {a : Nat} {e : Cel} (h : Rp G A M H) (ha : a = H.size) (hA : A a) (hk : ∀ q : Nat, q < H.size → H1[q]? = H[q]?) (he : va_at G.1 vwCl (a, toE G e) H1) : Rp G A (mu M a e) H1 := by
  obtain ⟨ws, hP, hD, hC⟩ := h
  refine ⟨ws ++ [(a, toE G e)], (hP.kept fun k x hx => hk x.1 (hP k x hx).lt).app (fun k x hx => ?_), hD.push hP ha hA, fun b f hb => ?_⟩
  · have hz : k < 1 := (List.getElem?_eq_some_iff.mp hx).1
    rw [show k = 0 by omega] at hx
    cases hx
    exact he
  · by_cases h : b = a
    · subst h
      rw [mu_eq] at hb
      cases hb
      exact ⟨ws.length, by simp⟩
    · rw [mu_ne h] at hb
      obtain ⟨j, hj⟩ := hC b f hb
      exact ⟨j, by rw [List.getElem?_append_left (List.getElem?_eq_some_iff.mp hj).1]; exact hj⟩
/-- fewer cells -/
theorem Rp.less {G : GG} {A : Nat → Prop} {M M' : ME} {H : Heap} (h : Rp G A M H) (hM : ∀ a e, M' a = some e → M a = some e) : Rp G A M' H := by
  obtain ⟨ws, hP, hD, hC⟩ := h
  exact ⟨ws, hP, hD, fun a e he => hC a e (hM a e he)⟩
theorem Rp.kept {G : GG} {A : Nat → Prop} {M : ME} {H H1 : Heap} (h : Rp G A M H) (hk : ∀ q : Nat, q < H.size → H1[q]? = H[q]?) : Rp G A M H1 := by
  obtain ⟨ws, hP, hD, hC⟩ := h
  exact ⟨ws, hP.kept fun k x hx => hk x.1 (hP k x hx).lt, hD, hC⟩
/-- a method's start -/
def Wd (G : GG) (A : Nat → Prop) (M : ME) (sz : Nat) (U : State) : Prop := Rp G A M U.heap ∧ Kn G U ∧ Zs A U U.heap ∧ U.heap.size = sz ∧ ∀ q, sz ≤ q → A q
/-- its end -/
def Qn (G : GG) (A : Nat → Prop) (Q : Option Value → ME → Nat → Prop) : Array Value → State → Outcome → State → Prop := fun _ st oc t => (∃ (v : Option Value) (M' : ME), oc = .returned v ∧ Q v M' t.heap.size ∧ Rp G A M' t.heap) ∧ va_F A st t
def Qx (G : GG) (A : Nat → Prop) (X : String → ME → Prop) : String → State → State → Prop := fun E st t => (∃ M' : ME, X E M' ∧ Rp G A M' t.heap) ∧ va_F A st t
def wy (y : MethodName) (cc : ByteArray) (nL : Nat) (ret : Option FieldType) : List Cond := .code y cc nL ret :: tb
/-- method y, on the arguments vs in the world M, returns with Q -/
def Cn (l : Launch) (y : MethodName) (cc : ByteArray) (nL : Nat) (ret : Option FieldType) (rm : Room) (vs : List Value) (M : ME) (sz : Nat) (Q : Option Value → ME → Nat → Prop) : Prop :=
  ∀ (G : GG) (A : Nat → Prop), Met l y (wy y cc nL ret) rm (va_Pc vs (Wd G A M sz)) (Qn G A Q) rm.cells rm.slots A
/-- .. returns with Q or throws with X -/
def CnX (l : Launch) (y : MethodName) (cc : ByteArray) (nL : Nat) (ret : Option FieldType) (rm : Room) (vs : List Value) (M : ME) (sz : Nat) (Q : Option Value → ME → Nat → Prop) (X : String → ME → Prop) : Prop :=
  ∀ (G : GG) (A : Nat → Prop), vx_Met l y (wy y cc nL ret) rm (va_Pc vs (Wd G A M sz)) (Qn G A Q) (Qx G A X) rm.cells rm.slots A
theorem Cn.ofX {l : Launch} {y : MethodName} {cc : ByteArray} {nL : Nat} {ret : Option FieldType} {rm : Room} {vs : List Value} {M : ME} {sz : Nat} {Q : Option Value → ME → Nat → Prop} (h : CnX l y cc nL ret rm vs M sz Q (fun _ _ => False)) : Cn l y cc nL ret rm vs M sz Q := by
  intro G A p e ha hc hk s m args below hf happ hp hk'
  obtain ⟨n, o, h1, h2, h3, h4⟩ := h G A p e ha hc hk s m args below hf happ hp hk'
  refine ⟨n, o, h1, h2, h3, ?_⟩
  rcases h4 with h4 | ⟨q, -, E, ce, L, ⟨⟨M', hx, -⟩, -⟩, -⟩
  · exact h4
  · exact hx.elim
theorem CnX.mono {l : Launch} {y : MethodName} {cc : ByteArray} {nL : Nat} {ret : Option FieldType} {rm : Room} {vs : List Value} {M : ME} {sz : Nat} {Q Q' : Option Value → ME → Nat → Prop} {X X' : String → ME → Prop} (h : CnX l y cc nL ret rm vs M sz Q X) (hQ : ∀ v M' z, Q v M' z → Q' v M' z) (hX : ∀ E M', X E M' → X' E M') : CnX l y cc nL ret rm vs M sz Q' X' := by
  intro G A p e ha hc hk s m args below hf happ hp hk'
  obtain ⟨n, o, h1, h2, h3, h4⟩ := h G A p e ha hc hk s m args below hf happ hp hk'
  refine ⟨n, o, h1, h2, h3, ?_⟩
  rcases h4 with ⟨⟨⟨v, M', e1, e2, e3⟩, e4⟩, h5⟩ | ⟨q, e1, E, ce, L, ⟨⟨M', hx, e3⟩, e4⟩, h5⟩
  · exact Or.inl ⟨⟨⟨v, M', e1, hQ _ _ _ e2, e3⟩, e4⟩, h5⟩
  · exact Or.inr ⟨q, e1, E, ce, L, ⟨⟨M', hX _ _ hx, e3⟩, e4⟩, h5⟩
theorem Cn.mono {l : Launch} {y : MethodName} {cc : ByteArray} {nL : Nat} {ret : Option FieldType} {rm : Room} {vs : List Value} {M : ME} {sz : Nat} {Q Q' : Option Value → ME → Nat → Prop} (h : Cn l y cc nL ret rm vs M sz Q) (hQ : ∀ v M' z, Q v M' z → Q' v M' z) : Cn l y cc nL ret rm vs M sz Q' := by
  intro G A p e ha hc hk s m args below hf happ hp hk'
  obtain ⟨n, o, h1, h2, h3, ⟨⟨v, M', e1, e2, e3⟩, e4⟩, h5⟩ := h G A p e ha hc hk s m args below hf happ hp hk'
  exact ⟨n, o, h1, h2, h3, ⟨⟨v, M', e1, hQ _ _ _ e2, e3⟩, e4⟩, h5⟩
-- locals: a row as long as the frame's, none where nothing is known
def hasL (ls : Array Slot) (nL : Nat) (L : List (Option Value)) : Prop := ls.size = nL ∧ lv_wf ls ∧ ∀ (i : Nat) (v : Value), L[i]? = some (some v) → ls[i]? = some (.val v)
def prs (L : List (Option Value)) : List (Nat × Value) := (List.range L.length).filterMap (fun i => (L[i]?.join).map (fun v => (i, v)))
theorem prs_in {L : List (Option Value)} {i : Nat} {v : Value} : (i, v) ∈ prs L ↔ L[i]? = some (some v) := by
  unfold prs
  rw [List.mem_filterMap]
  constructor
  · rintro ⟨j, -, h⟩
    cases hj : L[j]? with
    | none => rw [hj] at h; simp at h
    | some o =>
      rw [hj] at h
      cases o with
      | none => simp at h
      | some w =>
        simp at h
        obtain ⟨h1, h2⟩ := h
        subst h1; subst h2
        exact hj
  · intro h
    refine ⟨i, List.mem_range.mpr (List.getElem?_eq_some_iff.mp h).1, ?_⟩
    rw [h]; rfl
theorem hasL.has {ls : Array Slot} {nL : Nat} {L : List (Option Value)} (h : hasL ls nL L) : lv_has ls nL (prs L) := ⟨h.1, h.2.1, fun q hq => h.2.2 q.1 q.2 (prs_in.mp hq)⟩
theorem hasL.of {ls : Array Slot} {nL : Nat} {L : List (Option Value)} {l : List (Nat × Value)} (h : lv_has ls nL l) (hl : ∀ (i : Nat) (v : Value), L[i]? = some (some v) → (i, v) ∈ l) : hasL ls nL L := ⟨h.1, h.2.1, fun i v hv => h.2.2 (i, v) (hl i v hv)⟩
/-- a value of one slot goes to place i -/
def cat2 : Option Value → Bool
  | some v => v.category == 2
  | none => false
def st1 (L : List (Option Value)) (i : Nat) (v : Value) : List (Option Value) := match i with
  | 0 => L.set 0 (some v)
  | j + 1 => (if cat2 (L.getD j none) then L.set j none else L).set (j + 1) (some v)
def st2 (L : List (Option Value)) (i : Nat) (v : Value) : List (Option Value) := (st1 L i v).set (i + 1) none
theorem set_some {L : List (Option Value)} {i j : Nat} {x : Option Value} {v : Value} (h : (L.set i x)[j]? = some (some v)) : (j = i ∧ x = some v) ∨ (j ≠ i ∧ L[j]? = some (some v)) := by
  by_cases hj : j = i
  · subst hj
    rw [List.getElem?_set_self'] at h
    cases hl : L[j]? with
    | none => rw [hl] at h; simp at h
    | some o => rw [hl] at h; simp at h; exact Or.inl ⟨rfl, h⟩
  · rw [List.getElem?_set_ne (Ne.symm hj)] at h
    exact Or.inr ⟨hj, h⟩
theorem st1_in {L : List (Option Value)} {i j : Nat} {v w : Value} (h : (st1 L i v)[j]? = some (some w)) : (j = i ∧ w = v) ∨ (j ≠ i ∧ L[j]? = some (some w) ∧ ¬ (j + 1 = i ∧ w.category = 2)) := by
  cases i with
  | zero =>
    rcases set_some h with ⟨h1, h2⟩ | ⟨h1, h2⟩
    · exact Or.inl ⟨h1, (Option.some.inj h2).symm⟩
    · exact Or.inr ⟨h1, h2, by omega⟩
  | succ k =>
    rcases set_some h with ⟨h1, h2⟩ | ⟨h1, h2⟩
    · exact Or.inl ⟨h1, (Option.some.inj h2).symm⟩
    · refine Or.inr ⟨h1, ?_⟩
      by_cases hc : cat2 (L.getD k none)
      · rw [if_pos hc] at h2
        rcases set_some h2 with ⟨_, h3⟩ | ⟨h3, h4⟩
        · cases h3
        · exact ⟨h4, by omega⟩
      · rw [if_neg hc] at h2
        refine ⟨h2, ?_⟩
        rintro ⟨h3, h4⟩
        apply hc
        have : k = j := by omega
        subst this
        simp [cat2, List.getD, h2, h4]
theorem prs_store1 {L : List (Option Value)} {i : Nat} {v : Value} {ls : Array Slot} {nL : Nat} (h : lv_has ls nL ((i, v) :: (prs L).filter (fun q => !(q.1 == i) && !(q.1 + 1 == i && q.2.category == 2)))) : hasL ls nL (st1 L i v) := by
  refine hasL.of h fun j w hw => ?_
  rcases st1_in hw with ⟨h1, h2⟩ | ⟨h1, h2, h3⟩
  · subst h1; subst h2
    exact List.mem_cons_self
  · refine List.mem_cons_of_mem _ (List.mem_filter.mpr ⟨prs_in.mpr h2, ?_⟩)
    simp only [Bool.and_eq_true, Bool.not_eq_true', beq_eq_false_iff_ne, Bool.and_eq_false_iff]
    refine ⟨h1, ?_⟩
    by_cases a : j + 1 = i
    · exact Or.inr fun z => h3 ⟨a, z⟩
    · exact Or.inl a
theorem prs_store2 {L : List (Option Value)} {i : Nat} {v : Value} {ls : Array Slot} {nL : Nat} (h : lv_has ls nL ((i, v) :: (prs L).filter (fun q => !(q.1 == i) && (!(q.1 == i + 1) && !(q.1 + 1 == i && q.2.category == 2))))) : hasL ls nL (st2 L i v) := by
  refine hasL.of h fun j w hw => ?_
  rcases set_some hw with ⟨_, h1⟩ | ⟨h0, hw⟩
  · cases h1
  · rcases st1_in hw with ⟨h1, h2⟩ | ⟨h1, h2, h3⟩
    · subst h1; subst h2
      exact List.mem_cons_self
    · refine List.mem_cons_of_mem _ (List.mem_filter.mpr ⟨prs_in.mpr h2, ?_⟩)
      simp only [Bool.and_eq_true, Bool.not_eq_true', beq_eq_false_iff_ne, Bool.and_eq_false_iff]
      refine ⟨h1, h0, ?_⟩
      by_cases a : j + 1 = i
      · exact Or.inr fun z => h3 ⟨a, z⟩
      · exact Or.inl a
/-- fewer is known -/
def wk : List (Option Value) → List (Option Value) → Prop
  | [], _ => True
  | none :: a, _ :: b => wk a b
  | some v :: a, some w :: b => v = w ∧ wk a b
  | _, _ => False
theorem wk_at : ∀ {L' L : List (Option Value)} (_ : wk L' L) {i : Nat} {v : Value}, L'[i]? = some (some v) → L[i]? = some (some v)
  | [], _, _, i, v, h => by simp at h
  | none :: a, [], hw, i, v, h => hw.elim
  | some _ :: a, [], hw, i, v, h => hw.elim
  | none :: a, x :: b, hw, i, v, h => by
    cases i with
    | zero => simp at h
    | succ i => simp at h ⊢; exact wk_at (L' := a) (L := b) hw h
  | some u :: a, none :: b, hw, i, v, h => hw.elim
  | some u :: a, some w :: b, hw, i, v, h => by
    obtain ⟨h1, h2⟩ := hw
    subst h1
    cases i with
    | zero => exact h
    | succ i => simp at h ⊢; exact wk_at (L' := a) (L := b) h2 h
end
section
/-! V: inside a method, from the frame (pc, locals L, stack st) in the world M (heap of sz cells), the machine comes to the end with Q or throws with X. One row an instruction. -/
def Vc (l : Launch) (G : GG) (A : Nat → Prop) (own nm : String) (cc : ByteArray) (nL : Nat) (ret : Option FieldType) (p : Program) (s : State) (m : MethodId) (args : Array Value) (meth : Method) (c : Code) : Prop :=
  p.tables.exec = Jvm.exec ∧ c.code = cc ∧ c.maxLocals = nL ∧ meth.sig.returnType = ret ∧ s.vm.findClass own = some m.cls ∧ (∀ w ∈ tb, w.before args s = true) ∧ meth.locks = false ∧ (∀ x ∈ c.exceptionTable.toList, False) ∧ meth.name = nm ∧ Kn G s ∧ Zs A s s.heap ∧ ∀ q, s.heap.size ≤ q → A q
def V (l : Launch) (G : GG) (A : Nat → Prop) (R : Room) (own nm : String) (cc : ByteArray) (nL : Nat) (ret : Option FieldType) (Q : Option Value → ME → Nat → Prop) (X : String → ME → Prop) (k n : Nat) (M : ME) (sz : Nat) (pc : Nat) (L : List (Option Value)) (st : List Value) : Prop :=
  ∀ (p : Program) (e : Env) (s : State) (m : MethodId) (args : Array Value) (below : List Frame) (meth : Method) (c : Code) (H : Heap) (locs : List Loc) (ls : Array Slot),
    Vc l G A own nm cc nL ret p s m args meth c → Rp G A M H → H.size = sz → va_S A s.heap H locs → hasL ls nL L →
    W p l e R s m args below meth c H locs k n (vx_MQ below (Qn G A Q) (Qx G A X) args s R.cells R.slots A) (F0 m pc ls st)
section VV
variable {l : Launch} {G : GG} {A : Nat → Prop} {R : Room} {own nm : String} {cc : ByteArray} {nL : Nat} {ret : Option FieldType} {Q : Option Value → ME → Nat → Prop} {X : String → ME → Prop} {k n : Nat} {M : ME} {sz : Nat} {pc : Nat} {L : List (Option Value)} {st : List Value}
theorem V_iconst {z : Int} {v : Int32} (hd : decode cc pc = .ok (.iconst z, 1)) (hv : Int32.ofInt z = v) (kk : V l G A R own nm cc nL ret Q X k n M sz (pc + 1) L (.int v :: st)) : V l G A R own nm cc nL ret Q X k n M sz pc L (st) := fun p e s m args below meth c H locs ls C hR hz hS hl => lv_iconst C.1 C.2.1 hd hv (kk p e s m args below meth c H locs ls C hR hz hS hl)
theorem V_bipush {z : Int} {v : Int32} (hd : decode cc pc = .ok (.bipush z, 2)) (hv : (Int8.ofInt z).toInt32 = v) (kk : V l G A R own nm cc nL ret Q X k n M sz (pc + 2) L (.int v :: st)) : V l G A R own nm cc nL ret Q X k n M sz pc L (st) := fun p e s m args below meth c H locs ls C hR hz hS hl => lv_bipush C.1 C.2.1 hd hv (kk p e s m args below meth c H locs ls C hR hz hS hl)
theorem V_sipush {z : Int} {v : Int32} (hd : decode cc pc = .ok (.sipush z, 3)) (hv : (Int16.ofInt z).toInt32 = v) (kk : V l G A R own nm cc nL ret Q X k n M sz (pc + 3) L (.int v :: st)) : V l G A R own nm cc nL ret Q X k n M sz pc L (st) := fun p e s m args below meth c H locs ls C hR hz hS hl => lv_sipush C.1 C.2.1 hd hv (kk p e s m args below meth c H locs ls C hR hz hS hl)
theorem V_lconst {z : Fin 2} {v : Int64} (hd : decode cc pc = .ok (.lconst z, 1)) (hv : Int64.ofNat (z : Nat) = v) (kk : V l G A R own nm cc nL ret Q X k n M sz (pc + 1) L (.long v :: st)) : V l G A R own nm cc nL ret Q X k n M sz pc L (st) := fun p e s m args below meth c H locs ls C hR hz hS hl => lv_lconst C.1 C.2.1 hd hv (kk p e s m args below meth c H locs ls C hR hz hS hl)
theorem V_iload_n {z : Fin 4} {x : Int32} (hd : decode cc pc = .ok (.iload_n z, 1)) (hL : L[(z : Nat)]? = some (some (.int x))) (kk : V l G A R own nm cc nL ret Q X k n M sz (pc + 1) L (.int x :: st)) : V l G A R own nm cc nL ret Q X k n M sz pc L (st) := fun p e s m args below meth c H locs ls C hR hz hS hl => lv_iload_n C.1 C.2.1 hd rfl (hl.2.2 _ _ hL) (kk p e s m args below meth c H locs ls C hR hz hS hl)
theorem V_iload {i : Nat} {x : Int32} (hd : decode cc pc = .ok (.iload i, 2)) (hL : L[i]? = some (some (.int x))) (kk : V l G A R own nm cc nL ret Q X k n M sz (pc + 2) L (.int x :: st)) : V l G A R own nm cc nL ret Q X k n M sz pc L (st) := fun p e s m args below meth c H locs ls C hR hz hS hl => lv_iload C.1 C.2.1 hd (hl.2.2 _ _ hL) (kk p e s m args below meth c H locs ls C hR hz hS hl)
theorem V_aload_n {z : Fin 4} {x : Nat} (hd : decode cc pc = .ok (.aload_n z, 1)) (hL : L[(z : Nat)]? = some (some (.ref x))) (kk : V l G A R own nm cc nL ret Q X k n M sz (pc + 1) L (.ref x :: st)) : V l G A R own nm cc nL ret Q X k n M sz pc L (st) := fun p e s m args below meth c H locs ls C hR hz hS hl => lv_aload_n C.1 C.2.1 hd rfl (hl.2.2 _ _ hL) (kk p e s m args below meth c H locs ls C hR hz hS hl)
theorem V_aload {i : Nat} {x : Nat} (hd : decode cc pc = .ok (.aload i, 2)) (hL : L[i]? = some (some (.ref x))) (kk : V l G A R own nm cc nL ret Q X k n M sz (pc + 2) L (.ref x :: st)) : V l G A R own nm cc nL ret Q X k n M sz pc L (st) := fun p e s m args below meth c H locs ls C hR hz hS hl => lv_aload C.1 C.2.1 hd (hl.2.2 _ _ hL) (kk p e s m args below meth c H locs ls C hR hz hS hl)
theorem V_lload_n {z : Fin 4} {x : Int64} (hd : decode cc pc = .ok (.lload_n z, 1)) (hL : L[(z : Nat)]? = some (some (.long x))) (kk : V l G A R own nm cc nL ret Q X k n M sz (pc + 1) L (.long x :: st)) : V l G A R own nm cc nL ret Q X k n M sz pc L (st) := fun p e s m args below meth c H locs ls C hR hz hS hl => lv_lload_n C.1 C.2.1 hd rfl (hl.2.2 _ _ hL) (kk p e s m args below meth c H locs ls C hR hz hS hl)
theorem V_lload {i : Nat} {x : Int64} (hd : decode cc pc = .ok (.lload i, 2)) (hL : L[i]? = some (some (.long x))) (kk : V l G A R own nm cc nL ret Q X k n M sz (pc + 2) L (.long x :: st)) : V l G A R own nm cc nL ret Q X k n M sz pc L (st) := fun p e s m args below meth c H locs ls C hR hz hS hl => lv_lload C.1 C.2.1 hd (hl.2.2 _ _ hL) (kk p e s m args below meth c H locs ls C hR hz hS hl)
theorem V_istore_n {z : Fin 4} {i : Nat} {x : Int32} {L' : List (Option Value)} (hd : decode cc pc = .ok (.istore_n z, 1)) (hi : (z : Nat) = i) (hn : i < nL) (hL : st1 L i (.int x) = L') (kk : V l G A R own nm cc nL ret Q X k n M sz (pc + 1) L' st) : V l G A R own nm cc nL ret Q X k n M sz pc L (.int x :: st) := fun p e s m args below meth c H locs ls C hR hz hS hl => lv_istore_n C.1 C.2.1 hd hi hl.has hn rfl (fun ls2 h2 => kk p e s m args below meth c H locs ls2 C hR hz hS (by subst hL; exact prs_store1 h2))
theorem V_istore {i : Nat} {x : Int32} {L' : List (Option Value)} (hd : decode cc pc = .ok (.istore i, 2))  (hn : i < nL) (hL : st1 L i (.int x) = L') (kk : V l G A R own nm cc nL ret Q X k n M sz (pc + 2) L' st) : V l G A R own nm cc nL ret Q X k n M sz pc L (.int x :: st) := fun p e s m args below meth c H locs ls C hR hz hS hl => lv_istore C.1 C.2.1 hd hl.has hn rfl (fun ls2 h2 => kk p e s m args below meth c H locs ls2 C hR hz hS (by subst hL; exact prs_store1 h2))
theorem V_astore_n {z : Fin 4} {i : Nat} {x : Nat} {L' : List (Option Value)} (hd : decode cc pc = .ok (.astore_n z, 1)) (hi : (z : Nat) = i) (hn : i < nL) (hL : st1 L i (.ref x) = L') (kk : V l G A R own nm cc nL ret Q X k n M sz (pc + 1) L' st) : V l G A R own nm cc nL ret Q X k n M sz pc L (.ref x :: st) := fun p e s m args below meth c H locs ls C hR hz hS hl => lv_astore_n C.1 C.2.1 hd hi hl.has hn rfl (fun ls2 h2 => kk p e s m args below meth c H locs ls2 C hR hz hS (by subst hL; exact prs_store1 h2))
theorem V_astore {i : Nat} {x : Nat} {L' : List (Option Value)} (hd : decode cc pc = .ok (.astore i, 2))  (hn : i < nL) (hL : st1 L i (.ref x) = L') (kk : V l G A R own nm cc nL ret Q X k n M sz (pc + 2) L' st) : V l G A R own nm cc nL ret Q X k n M sz pc L (.ref x :: st) := fun p e s m args below meth c H locs ls C hR hz hS hl => lv_astore C.1 C.2.1 hd hl.has hn rfl (fun ls2 h2 => kk p e s m args below meth c H locs ls2 C hR hz hS (by subst hL; exact prs_store1 h2))
theorem V_lstore_n {z : Fin 4} {i : Nat} {x : Int64} {L' : List (Option Value)} (hd : decode cc pc = .ok (.lstore_n z, 1)) (hi : (z : Nat) = i) (hn : i + 1 < nL) (hL : st2 L i (.long x) = L') (kk : V l G A R own nm cc nL ret Q X k n M sz (pc + 1) L' st) : V l G A R own nm cc nL ret Q X k n M sz pc L (.long x :: st) := fun p e s m args below meth c H locs ls C hR hz hS hl => lv_lstore_n C.1 C.2.1 hd hi hl.has hn rfl (fun ls2 h2 => kk p e s m args below meth c H locs ls2 C hR hz hS (by subst hL; exact prs_store2 h2))
theorem V_lstore {i : Nat} {x : Int64} {L' : List (Option Value)} (hd : decode cc pc = .ok (.lstore i, 2))  (hn : i + 1 < nL) (hL : st2 L i (.long x) = L') (kk : V l G A R own nm cc nL ret Q X k n M sz (pc + 2) L' st) : V l G A R own nm cc nL ret Q X k n M sz pc L (.long x :: st) := fun p e s m args below meth c H locs ls C hR hz hS hl => lv_lstore C.1 C.2.1 hd hl.has hn rfl (fun ls2 h2 => kk p e s m args below meth c H locs ls2 C hR hz hS (by subst hL; exact prs_store2 h2))
theorem V_iinc {i : Nat} {z : Int} {x v : Int32} {L' : List (Option Value)} (hd : decode cc pc = .ok (.iinc i z, 3)) (h0 : L[i]? = some (some (.int x))) (hv : x + Int32.ofInt z = v) (hn : i < nL) (hL : st1 L i (.int v) = L') (kk : V l G A R own nm cc nL ret Q X k n M sz (pc + 3) L' st) : V l G A R own nm cc nL ret Q X k n M sz pc L st := by
  intro p e s m args below meth c H locs ls C hR hz hS hl
  obtain ⟨j, hj⟩ := List.getElem?_of_mem (prs_in.mpr h0)
  exact lv_iinc C.1 C.2.1 hd hl.has hj hv hn rfl (fun ls2 h2 => kk p e s m args below meth c H locs ls2 C hR hz hS (by subst hL; exact prs_store1 h2))
theorem V_iadd {x y : Int32} (hd : decode cc pc = .ok (.iadd, 1))  (kk : V l G A R own nm cc nL ret Q X k n M sz (pc + 1) L (.int (x + y) :: st)) : V l G A R own nm cc nL ret Q X k n M sz pc L (.int y :: .int x :: st) := fun p e s m args below meth c H locs ls C hR hz hS hl => lv_iadd C.1 C.2.1 hd  (kk p e s m args below meth c H locs ls C hR hz hS hl)
theorem V_ladd {x y : Int64} (hd : decode cc pc = .ok (.ladd, 1))  (kk : V l G A R own nm cc nL ret Q X k n M sz (pc + 1) L (.long (x + y) :: st)) : V l G A R own nm cc nL ret Q X k n M sz pc L (.long y :: .long x :: st) := fun p e s m args below meth c H locs ls C hR hz hS hl => lv_ladd C.1 C.2.1 hd  (kk p e s m args below meth c H locs ls C hR hz hS hl)
theorem V_isub {x y : Int32} (hd : decode cc pc = .ok (.isub, 1))  (kk : V l G A R own nm cc nL ret Q X k n M sz (pc + 1) L (.int (x - y) :: st)) : V l G A R own nm cc nL ret Q X k n M sz pc L (.int y :: .int x :: st) := fun p e s m args below meth c H locs ls C hR hz hS hl => lv_isub C.1 C.2.1 hd  (kk p e s m args below meth c H locs ls C hR hz hS hl)
theorem V_lsub {x y : Int64} (hd : decode cc pc = .ok (.lsub, 1))  (kk : V l G A R own nm cc nL ret Q X k n M sz (pc + 1) L (.long (x - y) :: st)) : V l G A R own nm cc nL ret Q X k n M sz pc L (.long y :: .long x :: st) := fun p e s m args below meth c H locs ls C hR hz hS hl => lv_lsub C.1 C.2.1 hd  (kk p e s m args below meth c H locs ls C hR hz hS hl)
theorem V_imul {x y : Int32} (hd : decode cc pc = .ok (.imul, 1))  (kk : V l G A R own nm cc nL ret Q X k n M sz (pc + 1) L (.int (x * y) :: st)) : V l G A R own nm cc nL ret Q X k n M sz pc L (.int y :: .int x :: st) := fun p e s m args below meth c H locs ls C hR hz hS hl => lv_imul C.1 C.2.1 hd  (kk p e s m args below meth c H locs ls C hR hz hS hl)
theorem V_lmul {x y : Int64} (hd : decode cc pc = .ok (.lmul, 1))  (kk : V l G A R own nm cc nL ret Q X k n M sz (pc + 1) L (.long (x * y) :: st)) : V l G A R own nm cc nL ret Q X k n M sz pc L (.long y :: .long x :: st) := fun p e s m args below meth c H locs ls C hR hz hS hl => lv_lmul C.1 C.2.1 hd  (kk p e s m args below meth c H locs ls C hR hz hS hl)
theorem V_iand {x y : Int32} (hd : decode cc pc = .ok (.iand, 1))  (kk : V l G A R own nm cc nL ret Q X k n M sz (pc + 1) L (.int (x &&& y) :: st)) : V l G A R own nm cc nL ret Q X k n M sz pc L (.int y :: .int x :: st) := fun p e s m args below meth c H locs ls C hR hz hS hl => lv_iand C.1 C.2.1 hd  (kk p e s m args below meth c H locs ls C hR hz hS hl)
theorem V_land {x y : Int64} (hd : decode cc pc = .ok (.land, 1))  (kk : V l G A R own nm cc nL ret Q X k n M sz (pc + 1) L (.long (x &&& y) :: st)) : V l G A R own nm cc nL ret Q X k n M sz pc L (.long y :: .long x :: st) := fun p e s m args below meth c H locs ls C hR hz hS hl => lv_land C.1 C.2.1 hd  (kk p e s m args below meth c H locs ls C hR hz hS hl)
theorem V_ixor {x y : Int32} (hd : decode cc pc = .ok (.ixor, 1))  (kk : V l G A R own nm cc nL ret Q X k n M sz (pc + 1) L (.int (x ^^^ y) :: st)) : V l G A R own nm cc nL ret Q X k n M sz pc L (.int y :: .int x :: st) := fun p e s m args below meth c H locs ls C hR hz hS hl => lv_ixor C.1 C.2.1 hd  (kk p e s m args below meth c H locs ls C hR hz hS hl)
theorem V_lxor {x y : Int64} (hd : decode cc pc = .ok (.lxor, 1))  (kk : V l G A R own nm cc nL ret Q X k n M sz (pc + 1) L (.long (x ^^^ y) :: st)) : V l G A R own nm cc nL ret Q X k n M sz pc L (.long y :: .long x :: st) := fun p e s m args below meth c H locs ls C hR hz hS hl => lv_lxor C.1 C.2.1 hd  (kk p e s m args below meth c H locs ls C hR hz hS hl)
theorem V_lor {x y : Int64} (hd : decode cc pc = .ok (.lor, 1))  (kk : V l G A R own nm cc nL ret Q X k n M sz (pc + 1) L (.long (x ||| y) :: st)) : V l G A R own nm cc nL ret Q X k n M sz pc L (.long y :: .long x :: st) := fun p e s m args below meth c H locs ls C hR hz hS hl => lv_lor C.1 C.2.1 hd  (kk p e s m args below meth c H locs ls C hR hz hS hl)
theorem V_idiv {x y : Int32} (hd : decode cc pc = .ok (.idiv, 1)) (hne : ¬ y = 0) (kk : V l G A R own nm cc nL ret Q X k n M sz (pc + 1) L (.int (x / y) :: st)) : V l G A R own nm cc nL ret Q X k n M sz pc L (.int y :: .int x :: st) := fun p e s m args below meth c H locs ls C hR hz hS hl => lv_idiv C.1 C.2.1 hd hne (kk p e s m args below meth c H locs ls C hR hz hS hl)
theorem V_irem {x y : Int32} (hd : decode cc pc = .ok (.irem, 1)) (hne : ¬ y = 0) (kk : V l G A R own nm cc nL ret Q X k n M sz (pc + 1) L (.int (x - x / y * y) :: st)) : V l G A R own nm cc nL ret Q X k n M sz pc L (.int y :: .int x :: st) := fun p e s m args below meth c H locs ls C hR hz hS hl => lv_irem C.1 C.2.1 hd hne (kk p e s m args below meth c H locs ls C hR hz hS hl)
theorem V_ldiv {x y : Int64} (hd : decode cc pc = .ok (.ldiv, 1)) (hne : ¬ y = 0) (kk : V l G A R own nm cc nL ret Q X k n M sz (pc + 1) L (.long (x / y) :: st)) : V l G A R own nm cc nL ret Q X k n M sz pc L (.long y :: .long x :: st) := fun p e s m args below meth c H locs ls C hR hz hS hl => lv_ldiv C.1 C.2.1 hd hne (kk p e s m args below meth c H locs ls C hR hz hS hl)
theorem V_ineg {x : Int32} (hd : decode cc pc = .ok (.ineg, 1))  (kk : V l G A R own nm cc nL ret Q X k n M sz (pc + 1) L (.int (-x) :: st)) : V l G A R own nm cc nL ret Q X k n M sz pc L (.int x :: st) := fun p e s m args below meth c H locs ls C hR hz hS hl => lv_ineg C.1 C.2.1 hd  (kk p e s m args below meth c H locs ls C hR hz hS hl)
theorem V_ishl {x y : Int32} (hd : decode cc pc = .ok (.ishl, 1))  (kk : V l G A R own nm cc nL ret Q X k n M sz (pc + 1) L (.int (x <<< (y &&& 31)) :: st)) : V l G A R own nm cc nL ret Q X k n M sz pc L (.int y :: .int x :: st) := fun p e s m args below meth c H locs ls C hR hz hS hl => lv_ishl C.1 C.2.1 hd  (kk p e s m args below meth c H locs ls C hR hz hS hl)
theorem V_lshl {x : Int64} {y : Int32} (hd : decode cc pc = .ok (.lshl, 1))  (kk : V l G A R own nm cc nL ret Q X k n M sz (pc + 1) L (.long (x <<< (y.toInt64 &&& 63)) :: st)) : V l G A R own nm cc nL ret Q X k n M sz pc L (.int y :: .long x :: st) := fun p e s m args below meth c H locs ls C hR hz hS hl => lv_lshl C.1 C.2.1 hd rfl (kk p e s m args below meth c H locs ls C hR hz hS hl)
theorem V_i2l {x : Int32} {v : Int64} (hd : decode cc pc = .ok (.i2l, 1)) (hv : x.toInt64 = v) (kk : V l G A R own nm cc nL ret Q X k n M sz (pc + 1) L (.long v :: st)) : V l G A R own nm cc nL ret Q X k n M sz pc L (.int x :: st) := fun p e s m args below meth c H locs ls C hR hz hS hl => lv_i2l C.1 C.2.1 hd hv (kk p e s m args below meth c H locs ls C hR hz hS hl)
theorem V_l2i {x : Int64} {v : Int32} (hd : decode cc pc = .ok (.l2i, 1)) (hv : x.toInt32 = v) (kk : V l G A R own nm cc nL ret Q X k n M sz (pc + 1) L (.int v :: st)) : V l G A R own nm cc nL ret Q X k n M sz pc L (.long x :: st) := fun p e s m args below meth c H locs ls C hR hz hS hl => lv_l2i C.1 C.2.1 hd hv (kk p e s m args below meth c H locs ls C hR hz hS hl)
theorem V_lcmp {x y : Int64} (hd : decode cc pc = .ok (.lcmp, 1))  (kk : V l G A R own nm cc nL ret Q X k n M sz (pc + 1) L (.int (lg_cmp x y) :: st)) : V l G A R own nm cc nL ret Q X k n M sz pc L (.long y :: .long x :: st) := fun p e s m args below meth c H locs ls C hR hz hS hl => W.lcmp C.1 C.2.1 hd  (kk p e s m args below meth c H locs ls C hR hz hS hl)
theorem V_dup {a : Value} (hd : decode cc pc = .ok (.dup, 1)) (hc : a.category = 1) (kk : V l G A R own nm cc nL ret Q X k n M sz (pc + 1) L (a :: a :: st)) : V l G A R own nm cc nL ret Q X k n M sz pc L (a :: st) := fun p e s m args below meth c H locs ls C hR hz hS hl => lv_dup C.1 C.2.1 hd hc (kk p e s m args below meth c H locs ls C hR hz hS hl)
theorem V_pop {a : Value} (hd : decode cc pc = .ok (.pop, 1)) (hc : a.category = 1) (kk : V l G A R own nm cc nL ret Q X k n M sz (pc + 1) L (st)) : V l G A R own nm cc nL ret Q X k n M sz pc L (a :: st) := fun p e s m args below meth c H locs ls C hR hz hS hl => lv_pop C.1 C.2.1 hd hc (kk p e s m args below meth c H locs ls C hR hz hS hl)
theorem V_dup2 {a b : Value} (hd : decode cc pc = .ok (.dup2, 1)) (hc : a.category = 1) (hc2 : b.category = 1) (kk : V l G A R own nm cc nL ret Q X k n M sz (pc + 1) L (a :: b :: a :: b :: st)) : V l G A R own nm cc nL ret Q X k n M sz pc L (a :: b :: st) := fun p e s m args below meth c H locs ls C hR hz hS hl => lv_dup2_11 C.1 C.2.1 hd hc hc2 (kk p e s m args below meth c H locs ls C hR hz hS hl)
theorem V_icmp_eq {x y : Int32} {off : Int} {tgt : Nat} (hd : decode cc pc = .ok (.if_icmp .eq off, 3)) (ht : (pc : Int) + off = (tgt : Int)) (kt : x = y → V l G A R own nm cc nL ret Q X k n M sz tgt L st) (kf : ¬ x = y → V l G A R own nm cc nL ret Q X k n M sz (pc + 3) L st) : V l G A R own nm cc nL ret Q X k n M sz pc L (.int y :: .int x :: st) := fun p e s m args below meth c H locs ls C hR hz hS hl => lv_icmp_eq C.1 C.2.1 hd ht (fun q => kt q p e s m args below meth c H locs ls C hR hz hS hl) (fun q => kf q p e s m args below meth c H locs ls C hR hz hS hl)
theorem V_icmp_eq_t {x y : Int32} {off : Int} {tgt : Nat} (hd : decode cc pc = .ok (.if_icmp .eq off, 3)) (ht : (pc : Int) + off = (tgt : Int)) (h : x = y) (kk : V l G A R own nm cc nL ret Q X k n M sz tgt L st) : V l G A R own nm cc nL ret Q X k n M sz pc L (.int y :: .int x :: st) := V_icmp_eq hd ht (fun _ => kk) (fun q => absurd h q)
theorem V_icmp_eq_f {x y : Int32} {off : Int} {tgt : Nat} (hd : decode cc pc = .ok (.if_icmp .eq off, 3)) (ht : (pc : Int) + off = (tgt : Int)) (h : ¬ x = y) (kk : V l G A R own nm cc nL ret Q X k n M sz (pc + 3) L st) : V l G A R own nm cc nL ret Q X k n M sz pc L (.int y :: .int x :: st) := V_icmp_eq hd ht (fun q => absurd q h) (fun _ => kk)
theorem V_if_eq {x : Int32} {off : Int} {tgt : Nat} (hd : decode cc pc = .ok (.ifCond .eq off, 3)) (ht : (pc : Int) + off = (tgt : Int)) (kt : x = 0 → V l G A R own nm cc nL ret Q X k n M sz tgt L st) (kf : ¬ x = 0 → V l G A R own nm cc nL ret Q X k n M sz (pc + 3) L st) : V l G A R own nm cc nL ret Q X k n M sz pc L (.int x :: st) := fun p e s m args below meth c H locs ls C hR hz hS hl => lv_if_eq C.1 C.2.1 hd ht (fun q => kt q p e s m args below meth c H locs ls C hR hz hS hl) (fun q => kf q p e s m args below meth c H locs ls C hR hz hS hl)
theorem V_if_eq_t {x : Int32} {off : Int} {tgt : Nat} (hd : decode cc pc = .ok (.ifCond .eq off, 3)) (ht : (pc : Int) + off = (tgt : Int)) (h : x = 0) (kk : V l G A R own nm cc nL ret Q X k n M sz tgt L st) : V l G A R own nm cc nL ret Q X k n M sz pc L (.int x :: st) := V_if_eq hd ht (fun _ => kk) (fun q => absurd h q)
theorem V_if_eq_f {x : Int32} {off : Int} {tgt : Nat} (hd : decode cc pc = .ok (.ifCond .eq off, 3)) (ht : (pc : Int) + off = (tgt : Int)) (h : ¬ x = 0) (kk : V l G A R own nm cc nL ret Q X k n M sz (pc + 3) L st) : V l G A R own nm cc nL ret Q X k n M sz pc L (.int x :: st) := V_if_eq hd ht (fun q => absurd q h) (fun _ => kk)
theorem V_icmp_ne {x y : Int32} {off : Int} {tgt : Nat} (hd : decode cc pc = .ok (.if_icmp .ne off, 3)) (ht : (pc : Int) + off = (tgt : Int)) (kt : ¬ x = y → V l G A R own nm cc nL ret Q X k n M sz tgt L st) (kf : x = y → V l G A R own nm cc nL ret Q X k n M sz (pc + 3) L st) : V l G A R own nm cc nL ret Q X k n M sz pc L (.int y :: .int x :: st) := fun p e s m args below meth c H locs ls C hR hz hS hl => lv_icmp_ne C.1 C.2.1 hd ht (fun q => kt q p e s m args below meth c H locs ls C hR hz hS hl) (fun q => kf q p e s m args below meth c H locs ls C hR hz hS hl)
theorem V_icmp_ne_t {x y : Int32} {off : Int} {tgt : Nat} (hd : decode cc pc = .ok (.if_icmp .ne off, 3)) (ht : (pc : Int) + off = (tgt : Int)) (h : ¬ x = y) (kk : V l G A R own nm cc nL ret Q X k n M sz tgt L st) : V l G A R own nm cc nL ret Q X k n M sz pc L (.int y :: .int x :: st) := V_icmp_ne hd ht (fun _ => kk) (fun q => absurd q h)
theorem V_icmp_ne_f {x y : Int32} {off : Int} {tgt : Nat} (hd : decode cc pc = .ok (.if_icmp .ne off, 3)) (ht : (pc : Int) + off = (tgt : Int)) (h : x = y) (kk : V l G A R own nm cc nL ret Q X k n M sz (pc + 3) L st) : V l G A R own nm cc nL ret Q X k n M sz pc L (.int y :: .int x :: st) := V_icmp_ne hd ht (fun q => absurd h q) (fun _ => kk)
theorem V_if_ne {x : Int32} {off : Int} {tgt : Nat} (hd : decode cc pc = .ok (.ifCond .ne off, 3)) (ht : (pc : Int) + off = (tgt : Int)) (kt : ¬ x = 0 → V l G A R own nm cc nL ret Q X k n M sz tgt L st) (kf : x = 0 → V l G A R own nm cc nL ret Q X k n M sz (pc + 3) L st) : V l G A R own nm cc nL ret Q X k n M sz pc L (.int x :: st) := fun p e s m args below meth c H locs ls C hR hz hS hl => lv_if_ne C.1 C.2.1 hd ht (fun q => kt q p e s m args below meth c H locs ls C hR hz hS hl) (fun q => kf q p e s m args below meth c H locs ls C hR hz hS hl)
theorem V_if_ne_t {x : Int32} {off : Int} {tgt : Nat} (hd : decode cc pc = .ok (.ifCond .ne off, 3)) (ht : (pc : Int) + off = (tgt : Int)) (h : ¬ x = 0) (kk : V l G A R own nm cc nL ret Q X k n M sz tgt L st) : V l G A R own nm cc nL ret Q X k n M sz pc L (.int x :: st) := V_if_ne hd ht (fun _ => kk) (fun q => absurd q h)
theorem V_if_ne_f {x : Int32} {off : Int} {tgt : Nat} (hd : decode cc pc = .ok (.ifCond .ne off, 3)) (ht : (pc : Int) + off = (tgt : Int)) (h : x = 0) (kk : V l G A R own nm cc nL ret Q X k n M sz (pc + 3) L st) : V l G A R own nm cc nL ret Q X k n M sz pc L (.int x :: st) := V_if_ne hd ht (fun q => absurd h q) (fun _ => kk)
theorem V_icmp_lt {x y : Int32} {off : Int} {tgt : Nat} (hd : decode cc pc = .ok (.if_icmp .lt off, 3)) (ht : (pc : Int) + off = (tgt : Int)) (kt : x < y → V l G A R own nm cc nL ret Q X k n M sz tgt L st) (kf : ¬ x < y → V l G A R own nm cc nL ret Q X k n M sz (pc + 3) L st) : V l G A R own nm cc nL ret Q X k n M sz pc L (.int y :: .int x :: st) := fun p e s m args below meth c H locs ls C hR hz hS hl => lv_icmp_lt C.1 C.2.1 hd ht (fun q => kt q p e s m args below meth c H locs ls C hR hz hS hl) (fun q => kf q p e s m args below meth c H locs ls C hR hz hS hl)
theorem V_icmp_lt_t {x y : Int32} {off : Int} {tgt : Nat} (hd : decode cc pc = .ok (.if_icmp .lt off, 3)) (ht : (pc : Int) + off = (tgt : Int)) (h : x < y) (kk : V l G A R own nm cc nL ret Q X k n M sz tgt L st) : V l G A R own nm cc nL ret Q X k n M sz pc L (.int y :: .int x :: st) := V_icmp_lt hd ht (fun _ => kk) (fun q => absurd h q)
theorem V_icmp_lt_f {x y : Int32} {off : Int} {tgt : Nat} (hd : decode cc pc = .ok (.if_icmp .lt off, 3)) (ht : (pc : Int) + off = (tgt : Int)) (h : ¬ x < y) (kk : V l G A R own nm cc nL ret Q X k n M sz (pc + 3) L st) : V l G A R own nm cc nL ret Q X k n M sz pc L (.int y :: .int x :: st) := V_icmp_lt hd ht (fun q => absurd q h) (fun _ => kk)
theorem V_if_lt {x : Int32} {off : Int} {tgt : Nat} (hd : decode cc pc = .ok (.ifCond .lt off, 3)) (ht : (pc : Int) + off = (tgt : Int)) (kt : x < 0 → V l G A R own nm cc nL ret Q X k n M sz tgt L st) (kf : ¬ x < 0 → V l G A R own nm cc nL ret Q X k n M sz (pc + 3) L st) : V l G A R own nm cc nL ret Q X k n M sz pc L (.int x :: st) := fun p e s m args below meth c H locs ls C hR hz hS hl => lv_if_lt C.1 C.2.1 hd ht (fun q => kt q p e s m args below meth c H locs ls C hR hz hS hl) (fun q => kf q p e s m args below meth c H locs ls C hR hz hS hl)
theorem V_if_lt_t {x : Int32} {off : Int} {tgt : Nat} (hd : decode cc pc = .ok (.ifCond .lt off, 3)) (ht : (pc : Int) + off = (tgt : Int)) (h : x < 0) (kk : V l G A R own nm cc nL ret Q X k n M sz tgt L st) : V l G A R own nm cc nL ret Q X k n M sz pc L (.int x :: st) := V_if_lt hd ht (fun _ => kk) (fun q => absurd h q)
theorem V_if_lt_f {x : Int32} {off : Int} {tgt : Nat} (hd : decode cc pc = .ok (.ifCond .lt off, 3)) (ht : (pc : Int) + off = (tgt : Int)) (h : ¬ x < 0) (kk : V l G A R own nm cc nL ret Q X k n M sz (pc + 3) L st) : V l G A R own nm cc nL ret Q X k n M sz pc L (.int x :: st) := V_if_lt hd ht (fun q => absurd q h) (fun _ => kk)
theorem V_icmp_ge {x y : Int32} {off : Int} {tgt : Nat} (hd : decode cc pc = .ok (.if_icmp .ge off, 3)) (ht : (pc : Int) + off = (tgt : Int)) (kt : y ≤ x → V l G A R own nm cc nL ret Q X k n M sz tgt L st) (kf : ¬ y ≤ x → V l G A R own nm cc nL ret Q X k n M sz (pc + 3) L st) : V l G A R own nm cc nL ret Q X k n M sz pc L (.int y :: .int x :: st) := fun p e s m args below meth c H locs ls C hR hz hS hl => lv_icmp_ge C.1 C.2.1 hd ht (fun q => kt q p e s m args below meth c H locs ls C hR hz hS hl) (fun q => kf q p e s m args below meth c H locs ls C hR hz hS hl)
theorem V_icmp_ge_t {x y : Int32} {off : Int} {tgt : Nat} (hd : decode cc pc = .ok (.if_icmp .ge off, 3)) (ht : (pc : Int) + off = (tgt : Int)) (h : y ≤ x) (kk : V l G A R own nm cc nL ret Q X k n M sz tgt L st) : V l G A R own nm cc nL ret Q X k n M sz pc L (.int y :: .int x :: st) := V_icmp_ge hd ht (fun _ => kk) (fun q => absurd h q)
theorem V_icmp_ge_f {x y : Int32} {off : Int} {tgt : Nat} (hd : decode cc pc = .ok (.if_icmp .ge off, 3)) (ht : (pc : Int) + off = (tgt : Int)) (h : ¬ y ≤ x) (kk : V l G A R own nm cc nL ret Q X k n M sz (pc + 3) L st) : V l G A R own nm cc nL ret Q X k n M sz pc L (.int y :: .int x :: st) := V_icmp_ge hd ht (fun q => absurd q h) (fun _ => kk)
theorem V_if_ge {x : Int32} {off : Int} {tgt : Nat} (hd : decode cc pc = .ok (.ifCond .ge off, 3)) (ht : (pc : Int) + off = (tgt : Int)) (kt : 0 ≤ x → V l G A R own nm cc nL ret Q X k n M sz tgt L st) (kf : ¬ 0 ≤ x → V l G A R own nm cc nL ret Q X k n M sz (pc + 3) L st) : V l G A R own nm cc nL ret Q X k n M sz pc L (.int x :: st) := fun p e s m args below meth c H locs ls C hR hz hS hl => lv_if_ge C.1 C.2.1 hd ht (fun q => kt q p e s m args below meth c H locs ls C hR hz hS hl) (fun q => kf q p e s m args below meth c H locs ls C hR hz hS hl)
theorem V_if_ge_t {x : Int32} {off : Int} {tgt : Nat} (hd : decode cc pc = .ok (.ifCond .ge off, 3)) (ht : (pc : Int) + off = (tgt : Int)) (h : 0 ≤ x) (kk : V l G A R own nm cc nL ret Q X k n M sz tgt L st) : V l G A R own nm cc nL ret Q X k n M sz pc L (.int x :: st) := V_if_ge hd ht (fun _ => kk) (fun q => absurd h q)
theorem V_if_ge_f {x : Int32} {off : Int} {tgt : Nat} (hd : decode cc pc = .ok (.ifCond .ge off, 3)) (ht : (pc : Int) + off = (tgt : Int)) (h : ¬ 0 ≤ x) (kk : V l G A R own nm cc nL ret Q X k n M sz (pc + 3) L st) : V l G A R own nm cc nL ret Q X k n M sz pc L (.int x :: st) := V_if_ge hd ht (fun q => absurd q h) (fun _ => kk)
theorem V_icmp_gt {x y : Int32} {off : Int} {tgt : Nat} (hd : decode cc pc = .ok (.if_icmp .gt off, 3)) (ht : (pc : Int) + off = (tgt : Int)) (kt : y < x → V l G A R own nm cc nL ret Q X k n M sz tgt L st) (kf : ¬ y < x → V l G A R own nm cc nL ret Q X k n M sz (pc + 3) L st) : V l G A R own nm cc nL ret Q X k n M sz pc L (.int y :: .int x :: st) := fun p e s m args below meth c H locs ls C hR hz hS hl => lv_icmp_gt C.1 C.2.1 hd ht (fun q => kt q p e s m args below meth c H locs ls C hR hz hS hl) (fun q => kf q p e s m args below meth c H locs ls C hR hz hS hl)
theorem V_icmp_gt_t {x y : Int32} {off : Int} {tgt : Nat} (hd : decode cc pc = .ok (.if_icmp .gt off, 3)) (ht : (pc : Int) + off = (tgt : Int)) (h : y < x) (kk : V l G A R own nm cc nL ret Q X k n M sz tgt L st) : V l G A R own nm cc nL ret Q X k n M sz pc L (.int y :: .int x :: st) := V_icmp_gt hd ht (fun _ => kk) (fun q => absurd h q)
theorem V_icmp_gt_f {x y : Int32} {off : Int} {tgt : Nat} (hd : decode cc pc = .ok (.if_icmp .gt off, 3)) (ht : (pc : Int) + off = (tgt : Int)) (h : ¬ y < x) (kk : V l G A R own nm cc nL ret Q X k n M sz (pc + 3) L st) : V l G A R own nm cc nL ret Q X k n M sz pc L (.int y :: .int x :: st) := V_icmp_gt hd ht (fun q => absurd q h) (fun _ => kk)
theorem V_if_gt {x : Int32} {off : Int} {tgt : Nat} (hd : decode cc pc = .ok (.ifCond .gt off, 3)) (ht : (pc : Int) + off = (tgt : Int)) (kt : 0 < x → V l G A R own nm cc nL ret Q X k n M sz tgt L st) (kf : ¬ 0 < x → V l G A R own nm cc nL ret Q X k n M sz (pc + 3) L st) : V l G A R own nm cc nL ret Q X k n M sz pc L (.int x :: st) := fun p e s m args below meth c H locs ls C hR hz hS hl => lv_if_gt C.1 C.2.1 hd ht (fun q => kt q p e s m args below meth c H locs ls C hR hz hS hl) (fun q => kf q p e s m args below meth c H locs ls C hR hz hS hl)
theorem V_if_gt_t {x : Int32} {off : Int} {tgt : Nat} (hd : decode cc pc = .ok (.ifCond .gt off, 3)) (ht : (pc : Int) + off = (tgt : Int)) (h : 0 < x) (kk : V l G A R own nm cc nL ret Q X k n M sz tgt L st) : V l G A R own nm cc nL ret Q X k n M sz pc L (.int x :: st) := V_if_gt hd ht (fun _ => kk) (fun q => absurd h q)
theorem V_if_gt_f {x : Int32} {off : Int} {tgt : Nat} (hd : decode cc pc = .ok (.ifCond .gt off, 3)) (ht : (pc : Int) + off = (tgt : Int)) (h : ¬ 0 < x) (kk : V l G A R own nm cc nL ret Q X k n M sz (pc + 3) L st) : V l G A R own nm cc nL ret Q X k n M sz pc L (.int x :: st) := V_if_gt hd ht (fun q => absurd q h) (fun _ => kk)
theorem V_icmp_le {x y : Int32} {off : Int} {tgt : Nat} (hd : decode cc pc = .ok (.if_icmp .le off, 3)) (ht : (pc : Int) + off = (tgt : Int)) (kt : x ≤ y → V l G A R own nm cc nL ret Q X k n M sz tgt L st) (kf : ¬ x ≤ y → V l G A R own nm cc nL ret Q X k n M sz (pc + 3) L st) : V l G A R own nm cc nL ret Q X k n M sz pc L (.int y :: .int x :: st) := fun p e s m args below meth c H locs ls C hR hz hS hl => lv_icmp_le C.1 C.2.1 hd ht (fun q => kt q p e s m args below meth c H locs ls C hR hz hS hl) (fun q => kf q p e s m args below meth c H locs ls C hR hz hS hl)
theorem V_icmp_le_t {x y : Int32} {off : Int} {tgt : Nat} (hd : decode cc pc = .ok (.if_icmp .le off, 3)) (ht : (pc : Int) + off = (tgt : Int)) (h : x ≤ y) (kk : V l G A R own nm cc nL ret Q X k n M sz tgt L st) : V l G A R own nm cc nL ret Q X k n M sz pc L (.int y :: .int x :: st) := V_icmp_le hd ht (fun _ => kk) (fun q => absurd h q)
theorem V_icmp_le_f {x y : Int32} {off : Int} {tgt : Nat} (hd : decode cc pc = .ok (.if_icmp .le off, 3)) (ht : (pc : Int) + off = (tgt : Int)) (h : ¬ x ≤ y) (kk : V l G A R own nm cc nL ret Q X k n M sz (pc + 3) L st) : V l G A R own nm cc nL ret Q X k n M sz pc L (.int y :: .int x :: st) := V_icmp_le hd ht (fun q => absurd q h) (fun _ => kk)
theorem V_if_le {x : Int32} {off : Int} {tgt : Nat} (hd : decode cc pc = .ok (.ifCond .le off, 3)) (ht : (pc : Int) + off = (tgt : Int)) (kt : x ≤ 0 → V l G A R own nm cc nL ret Q X k n M sz tgt L st) (kf : ¬ x ≤ 0 → V l G A R own nm cc nL ret Q X k n M sz (pc + 3) L st) : V l G A R own nm cc nL ret Q X k n M sz pc L (.int x :: st) := fun p e s m args below meth c H locs ls C hR hz hS hl => lv_if_le C.1 C.2.1 hd ht (fun q => kt q p e s m args below meth c H locs ls C hR hz hS hl) (fun q => kf q p e s m args below meth c H locs ls C hR hz hS hl)
theorem V_if_le_t {x : Int32} {off : Int} {tgt : Nat} (hd : decode cc pc = .ok (.ifCond .le off, 3)) (ht : (pc : Int) + off = (tgt : Int)) (h : x ≤ 0) (kk : V l G A R own nm cc nL ret Q X k n M sz tgt L st) : V l G A R own nm cc nL ret Q X k n M sz pc L (.int x :: st) := V_if_le hd ht (fun _ => kk) (fun q => absurd h q)
theorem V_if_le_f {x : Int32} {off : Int} {tgt : Nat} (hd : decode cc pc = .ok (.ifCond .le off, 3)) (ht : (pc : Int) + off = (tgt : Int)) (h : ¬ x ≤ 0) (kk : V l G A R own nm cc nL ret Q X k n M sz (pc + 3) L st) : V l G A R own nm cc nL ret Q X k n M sz pc L (.int x :: st) := V_if_le hd ht (fun q => absurd q h) (fun _ => kk)
theorem V_icmp_eqN {a b : Nat} {off : Int} {tgt : Nat} (hd : decode cc pc = .ok (.if_icmp .eq off, 3)) (ht : (pc : Int) + off = (tgt : Int)) (ha : a < 2 ^ 31) (hb : b < 2 ^ 31) (kt : a = b → V l G A R own nm cc nL ret Q X k n M sz tgt L st) (kf : ¬ a = b → V l G A R own nm cc nL ret Q X k n M sz (pc + 3) L st) : V l G A R own nm cc nL ret Q X k n M sz pc L (.int (nI b) :: .int (nI a) :: st) := V_icmp_eq hd ht (fun q => kt ((nI_eq ha hb).mp q)) (fun q => kf (fun z => q ((nI_eq ha hb).mpr z)))
theorem V_icmp_eqN_t {a b : Nat} {off : Int} {tgt : Nat} (hd : decode cc pc = .ok (.if_icmp .eq off, 3)) (ht : (pc : Int) + off = (tgt : Int)) (ha : a < 2 ^ 31) (hb : b < 2 ^ 31) (h : a = b) (kk : V l G A R own nm cc nL ret Q X k n M sz tgt L st) : V l G A R own nm cc nL ret Q X k n M sz pc L (.int (nI b) :: .int (nI a) :: st) := V_icmp_eqN hd ht ha hb (fun _ => kk) (fun q => absurd h (by omega))
theorem V_icmp_eqN_f {a b : Nat} {off : Int} {tgt : Nat} (hd : decode cc pc = .ok (.if_icmp .eq off, 3)) (ht : (pc : Int) + off = (tgt : Int)) (ha : a < 2 ^ 31) (hb : b < 2 ^ 31) (h : ¬ a = b) (kk : V l G A R own nm cc nL ret Q X k n M sz (pc + 3) L st) : V l G A R own nm cc nL ret Q X k n M sz pc L (.int (nI b) :: .int (nI a) :: st) := V_icmp_eqN hd ht ha hb (fun q => absurd h (by omega)) (fun _ => kk)
theorem V_icmp_neN {a b : Nat} {off : Int} {tgt : Nat} (hd : decode cc pc = .ok (.if_icmp .ne off, 3)) (ht : (pc : Int) + off = (tgt : Int)) (ha : a < 2 ^ 31) (hb : b < 2 ^ 31) (kt : ¬ a = b → V l G A R own nm cc nL ret Q X k n M sz tgt L st) (kf : a = b → V l G A R own nm cc nL ret Q X k n M sz (pc + 3) L st) : V l G A R own nm cc nL ret Q X k n M sz pc L (.int (nI b) :: .int (nI a) :: st) := V_icmp_ne hd ht (fun q => kt (fun z => q ((nI_eq ha hb).mpr z))) (fun q => kf ((nI_eq ha hb).mp q))
theorem V_icmp_neN_t {a b : Nat} {off : Int} {tgt : Nat} (hd : decode cc pc = .ok (.if_icmp .ne off, 3)) (ht : (pc : Int) + off = (tgt : Int)) (ha : a < 2 ^ 31) (hb : b < 2 ^ 31) (h : ¬ a = b) (kk : V l G A R own nm cc nL ret Q X k n M sz tgt L st) : V l G A R own nm cc nL ret Q X k n M sz pc L (.int (nI b) :: .int (nI a) :: st) := V_icmp_neN hd ht ha hb (fun _ => kk) (fun q => absurd h (by omega))
theorem V_icmp_neN_f {a b : Nat} {off : Int} {tgt : Nat} (hd : decode cc pc = .ok (.if_icmp .ne off, 3)) (ht : (pc : Int) + off = (tgt : Int)) (ha : a < 2 ^ 31) (hb : b < 2 ^ 31) (h : a = b) (kk : V l G A R own nm cc nL ret Q X k n M sz (pc + 3) L st) : V l G A R own nm cc nL ret Q X k n M sz pc L (.int (nI b) :: .int (nI a) :: st) := V_icmp_neN hd ht ha hb (fun q => absurd h (by omega)) (fun _ => kk)
theorem V_icmp_ltN {a b : Nat} {off : Int} {tgt : Nat} (hd : decode cc pc = .ok (.if_icmp .lt off, 3)) (ht : (pc : Int) + off = (tgt : Int)) (ha : a < 2 ^ 31) (hb : b < 2 ^ 31) (kt : a < b → V l G A R own nm cc nL ret Q X k n M sz tgt L st) (kf : b ≤ a → V l G A R own nm cc nL ret Q X k n M sz (pc + 3) L st) : V l G A R own nm cc nL ret Q X k n M sz pc L (.int (nI b) :: .int (nI a) :: st) := V_icmp_lt hd ht (fun q => kt ((nI_ltI ha hb).mp q)) (fun q => kf (by have := mt (nI_ltI ha hb).mpr q; omega))
theorem V_icmp_ltN_t {a b : Nat} {off : Int} {tgt : Nat} (hd : decode cc pc = .ok (.if_icmp .lt off, 3)) (ht : (pc : Int) + off = (tgt : Int)) (ha : a < 2 ^ 31) (hb : b < 2 ^ 31) (h : a < b) (kk : V l G A R own nm cc nL ret Q X k n M sz tgt L st) : V l G A R own nm cc nL ret Q X k n M sz pc L (.int (nI b) :: .int (nI a) :: st) := V_icmp_ltN hd ht ha hb (fun _ => kk) (fun q => absurd h (by omega))
theorem V_icmp_ltN_f {a b : Nat} {off : Int} {tgt : Nat} (hd : decode cc pc = .ok (.if_icmp .lt off, 3)) (ht : (pc : Int) + off = (tgt : Int)) (ha : a < 2 ^ 31) (hb : b < 2 ^ 31) (h : b ≤ a) (kk : V l G A R own nm cc nL ret Q X k n M sz (pc + 3) L st) : V l G A R own nm cc nL ret Q X k n M sz pc L (.int (nI b) :: .int (nI a) :: st) := V_icmp_ltN hd ht ha hb (fun q => absurd h (by omega)) (fun _ => kk)
theorem V_icmp_geN {a b : Nat} {off : Int} {tgt : Nat} (hd : decode cc pc = .ok (.if_icmp .ge off, 3)) (ht : (pc : Int) + off = (tgt : Int)) (ha : a < 2 ^ 31) (hb : b < 2 ^ 31) (kt : b ≤ a → V l G A R own nm cc nL ret Q X k n M sz tgt L st) (kf : a < b → V l G A R own nm cc nL ret Q X k n M sz (pc + 3) L st) : V l G A R own nm cc nL ret Q X k n M sz pc L (.int (nI b) :: .int (nI a) :: st) := V_icmp_ge hd ht (fun q => kt ((nI_leI hb ha).mp q)) (fun q => kf (by have := mt (nI_leI hb ha).mpr q; omega))
theorem V_icmp_geN_t {a b : Nat} {off : Int} {tgt : Nat} (hd : decode cc pc = .ok (.if_icmp .ge off, 3)) (ht : (pc : Int) + off = (tgt : Int)) (ha : a < 2 ^ 31) (hb : b < 2 ^ 31) (h : b ≤ a) (kk : V l G A R own nm cc nL ret Q X k n M sz tgt L st) : V l G A R own nm cc nL ret Q X k n M sz pc L (.int (nI b) :: .int (nI a) :: st) := V_icmp_geN hd ht ha hb (fun _ => kk) (fun q => absurd h (by omega))
theorem V_icmp_geN_f {a b : Nat} {off : Int} {tgt : Nat} (hd : decode cc pc = .ok (.if_icmp .ge off, 3)) (ht : (pc : Int) + off = (tgt : Int)) (ha : a < 2 ^ 31) (hb : b < 2 ^ 31) (h : a < b) (kk : V l G A R own nm cc nL ret Q X k n M sz (pc + 3) L st) : V l G A R own nm cc nL ret Q X k n M sz pc L (.int (nI b) :: .int (nI a) :: st) := V_icmp_geN hd ht ha hb (fun q => absurd h (by omega)) (fun _ => kk)
theorem V_icmp_gtN {a b : Nat} {off : Int} {tgt : Nat} (hd : decode cc pc = .ok (.if_icmp .gt off, 3)) (ht : (pc : Int) + off = (tgt : Int)) (ha : a < 2 ^ 31) (hb : b < 2 ^ 31) (kt : b < a → V l G A R own nm cc nL ret Q X k n M sz tgt L st) (kf : a ≤ b → V l G A R own nm cc nL ret Q X k n M sz (pc + 3) L st) : V l G A R own nm cc nL ret Q X k n M sz pc L (.int (nI b) :: .int (nI a) :: st) := V_icmp_gt hd ht (fun q => kt ((nI_ltI hb ha).mp q)) (fun q => kf (by have := mt (nI_ltI hb ha).mpr q; omega))
theorem V_icmp_gtN_t {a b : Nat} {off : Int} {tgt : Nat} (hd : decode cc pc = .ok (.if_icmp .gt off, 3)) (ht : (pc : Int) + off = (tgt : Int)) (ha : a < 2 ^ 31) (hb : b < 2 ^ 31) (h : b < a) (kk : V l G A R own nm cc nL ret Q X k n M sz tgt L st) : V l G A R own nm cc nL ret Q X k n M sz pc L (.int (nI b) :: .int (nI a) :: st) := V_icmp_gtN hd ht ha hb (fun _ => kk) (fun q => absurd h (by omega))
theorem V_icmp_gtN_f {a b : Nat} {off : Int} {tgt : Nat} (hd : decode cc pc = .ok (.if_icmp .gt off, 3)) (ht : (pc : Int) + off = (tgt : Int)) (ha : a < 2 ^ 31) (hb : b < 2 ^ 31) (h : a ≤ b) (kk : V l G A R own nm cc nL ret Q X k n M sz (pc + 3) L st) : V l G A R own nm cc nL ret Q X k n M sz pc L (.int (nI b) :: .int (nI a) :: st) := V_icmp_gtN hd ht ha hb (fun q => absurd h (by omega)) (fun _ => kk)
theorem V_icmp_leN {a b : Nat} {off : Int} {tgt : Nat} (hd : decode cc pc = .ok (.if_icmp .le off, 3)) (ht : (pc : Int) + off = (tgt : Int)) (ha : a < 2 ^ 31) (hb : b < 2 ^ 31) (kt : a ≤ b → V l G A R own nm cc nL ret Q X k n M sz tgt L st) (kf : b < a → V l G A R own nm cc nL ret Q X k n M sz (pc + 3) L st) : V l G A R own nm cc nL ret Q X k n M sz pc L (.int (nI b) :: .int (nI a) :: st) := V_icmp_le hd ht (fun q => kt ((nI_leI ha hb).mp q)) (fun q => kf (by have := mt (nI_leI ha hb).mpr q; omega))
theorem V_icmp_leN_t {a b : Nat} {off : Int} {tgt : Nat} (hd : decode cc pc = .ok (.if_icmp .le off, 3)) (ht : (pc : Int) + off = (tgt : Int)) (ha : a < 2 ^ 31) (hb : b < 2 ^ 31) (h : a ≤ b) (kk : V l G A R own nm cc nL ret Q X k n M sz tgt L st) : V l G A R own nm cc nL ret Q X k n M sz pc L (.int (nI b) :: .int (nI a) :: st) := V_icmp_leN hd ht ha hb (fun _ => kk) (fun q => absurd h (by omega))
theorem V_icmp_leN_f {a b : Nat} {off : Int} {tgt : Nat} (hd : decode cc pc = .ok (.if_icmp .le off, 3)) (ht : (pc : Int) + off = (tgt : Int)) (ha : a < 2 ^ 31) (hb : b < 2 ^ 31) (h : b < a) (kk : V l G A R own nm cc nL ret Q X k n M sz (pc + 3) L st) : V l G A R own nm cc nL ret Q X k n M sz pc L (.int (nI b) :: .int (nI a) :: st) := V_icmp_leN hd ht ha hb (fun q => absurd h (by omega)) (fun _ => kk)
theorem nI_zero_iff {a : Nat} (ha : a < 2 ^ 31) : nI a = 0 ↔ a = 0 := by rw [show (0 : Int32) = nI 0 from rfl]; exact nI_eq ha (by decide)
theorem nI_pos_iff {a : Nat} (ha : a < 2 ^ 31) : 0 < nI a ↔ 0 < a := by rw [show (0 : Int32) = nI 0 from rfl]; exact nI_ltI (by decide) ha
theorem nI_npos_iff {a : Nat} (ha : a < 2 ^ 31) : nI a ≤ 0 ↔ a = 0 := by rw [show (0 : Int32) = nI 0 from rfl, nI_leI ha (by decide)]; omega
theorem V_if_eqN {a : Nat} {off : Int} {tgt : Nat} (hd : decode cc pc = .ok (.ifCond .eq off, 3)) (ht : (pc : Int) + off = (tgt : Int)) (ha : a < 2 ^ 31) (kt : a = 0 → V l G A R own nm cc nL ret Q X k n M sz tgt L st) (kf : ¬ a = 0 → V l G A R own nm cc nL ret Q X k n M sz (pc + 3) L st) : V l G A R own nm cc nL ret Q X k n M sz pc L (.int (nI a) :: st) := V_if_eq hd ht (fun q => kt ((nI_zero_iff ha).mp q)) (fun q => kf (fun z => q ((nI_zero_iff ha).mpr z)))
theorem V_if_eqN_t {a : Nat} {off : Int} {tgt : Nat} (hd : decode cc pc = .ok (.ifCond .eq off, 3)) (ht : (pc : Int) + off = (tgt : Int)) (ha : a < 2 ^ 31) (h : a = 0) (kk : V l G A R own nm cc nL ret Q X k n M sz tgt L st) : V l G A R own nm cc nL ret Q X k n M sz pc L (.int (nI a) :: st) := V_if_eqN hd ht ha (fun _ => kk) (fun q => absurd h (by omega))
theorem V_if_eqN_f {a : Nat} {off : Int} {tgt : Nat} (hd : decode cc pc = .ok (.ifCond .eq off, 3)) (ht : (pc : Int) + off = (tgt : Int)) (ha : a < 2 ^ 31) (h : ¬ a = 0) (kk : V l G A R own nm cc nL ret Q X k n M sz (pc + 3) L st) : V l G A R own nm cc nL ret Q X k n M sz pc L (.int (nI a) :: st) := V_if_eqN hd ht ha (fun q => absurd h (by omega)) (fun _ => kk)
theorem V_if_neN {a : Nat} {off : Int} {tgt : Nat} (hd : decode cc pc = .ok (.ifCond .ne off, 3)) (ht : (pc : Int) + off = (tgt : Int)) (ha : a < 2 ^ 31) (kt : ¬ a = 0 → V l G A R own nm cc nL ret Q X k n M sz tgt L st) (kf : a = 0 → V l G A R own nm cc nL ret Q X k n M sz (pc + 3) L st) : V l G A R own nm cc nL ret Q X k n M sz pc L (.int (nI a) :: st) := V_if_ne hd ht (fun q => kt (fun z => q ((nI_zero_iff ha).mpr z))) (fun q => kf ((nI_zero_iff ha).mp q))
theorem V_if_neN_t {a : Nat} {off : Int} {tgt : Nat} (hd : decode cc pc = .ok (.ifCond .ne off, 3)) (ht : (pc : Int) + off = (tgt : Int)) (ha : a < 2 ^ 31) (h : ¬ a = 0) (kk : V l G A R own nm cc nL ret Q X k n M sz tgt L st) : V l G A R own nm cc nL ret Q X k n M sz pc L (.int (nI a) :: st) := V_if_neN hd ht ha (fun _ => kk) (fun q => absurd h (by omega))
theorem V_if_neN_f {a : Nat} {off : Int} {tgt : Nat} (hd : decode cc pc = .ok (.ifCond .ne off, 3)) (ht : (pc : Int) + off = (tgt : Int)) (ha : a < 2 ^ 31) (h : a = 0) (kk : V l G A R own nm cc nL ret Q X k n M sz (pc + 3) L st) : V l G A R own nm cc nL ret Q X k n M sz pc L (.int (nI a) :: st) := V_if_neN hd ht ha (fun q => absurd h (by omega)) (fun _ => kk)
theorem V_if_gtN {a : Nat} {off : Int} {tgt : Nat} (hd : decode cc pc = .ok (.ifCond .gt off, 3)) (ht : (pc : Int) + off = (tgt : Int)) (ha : a < 2 ^ 31) (kt : 0 < a → V l G A R own nm cc nL ret Q X k n M sz tgt L st) (kf : a = 0 → V l G A R own nm cc nL ret Q X k n M sz (pc + 3) L st) : V l G A R own nm cc nL ret Q X k n M sz pc L (.int (nI a) :: st) := V_if_gt hd ht (fun q => kt ((nI_pos_iff ha).mp q)) (fun q => kf (by have := mt (nI_pos_iff ha).mpr q; omega))
theorem V_if_gtN_t {a : Nat} {off : Int} {tgt : Nat} (hd : decode cc pc = .ok (.ifCond .gt off, 3)) (ht : (pc : Int) + off = (tgt : Int)) (ha : a < 2 ^ 31) (h : 0 < a) (kk : V l G A R own nm cc nL ret Q X k n M sz tgt L st) : V l G A R own nm cc nL ret Q X k n M sz pc L (.int (nI a) :: st) := V_if_gtN hd ht ha (fun _ => kk) (fun q => absurd h (by omega))
theorem V_if_gtN_f {a : Nat} {off : Int} {tgt : Nat} (hd : decode cc pc = .ok (.ifCond .gt off, 3)) (ht : (pc : Int) + off = (tgt : Int)) (ha : a < 2 ^ 31) (h : a = 0) (kk : V l G A R own nm cc nL ret Q X k n M sz (pc + 3) L st) : V l G A R own nm cc nL ret Q X k n M sz pc L (.int (nI a) :: st) := V_if_gtN hd ht ha (fun q => absurd h (by omega)) (fun _ => kk)
theorem V_if_leN {a : Nat} {off : Int} {tgt : Nat} (hd : decode cc pc = .ok (.ifCond .le off, 3)) (ht : (pc : Int) + off = (tgt : Int)) (ha : a < 2 ^ 31) (kt : a = 0 → V l G A R own nm cc nL ret Q X k n M sz tgt L st) (kf : 0 < a → V l G A R own nm cc nL ret Q X k n M sz (pc + 3) L st) : V l G A R own nm cc nL ret Q X k n M sz pc L (.int (nI a) :: st) := V_if_le hd ht (fun q => kt ((nI_npos_iff ha).mp q)) (fun q => kf (by have := mt (nI_npos_iff ha).mpr q; omega))
theorem V_if_leN_t {a : Nat} {off : Int} {tgt : Nat} (hd : decode cc pc = .ok (.ifCond .le off, 3)) (ht : (pc : Int) + off = (tgt : Int)) (ha : a < 2 ^ 31) (h : a = 0) (kk : V l G A R own nm cc nL ret Q X k n M sz tgt L st) : V l G A R own nm cc nL ret Q X k n M sz pc L (.int (nI a) :: st) := V_if_leN hd ht ha (fun _ => kk) (fun q => absurd h (by omega))
theorem V_if_leN_f {a : Nat} {off : Int} {tgt : Nat} (hd : decode cc pc = .ok (.ifCond .le off, 3)) (ht : (pc : Int) + off = (tgt : Int)) (ha : a < 2 ^ 31) (h : 0 < a) (kk : V l G A R own nm cc nL ret Q X k n M sz (pc + 3) L st) : V l G A R own nm cc nL ret Q X k n M sz pc L (.int (nI a) :: st) := V_if_leN hd ht ha (fun q => absurd h (by omega)) (fun _ => kk)
theorem V_goto {off : Int} {tgt : Nat} (hd : decode cc pc = .ok (.goto off, 3)) (ht : (pc : Int) + off = (tgt : Int)) (kk : V l G A R own nm cc nL ret Q X k n M sz tgt L st) : V l G A R own nm cc nL ret Q X k n M sz pc L st := fun p e s m args below meth c H locs ls C hR hz hS hl => lv_goto C.1 C.2.1 hd ht (kk p e s m args below meth c H locs ls C hR hz hS hl)
theorem V_tabIn {dflt lo hi : Int} {offs : Array Int} {len : Nat} {x : Int32} {off : Int} {tgt : Nat} (hd : decode cc pc = .ok (.tableswitch dflt lo hi offs, len)) (h1 : ¬ x.toInt < lo) (h2 : ¬ hi < x.toInt) (ho : offs[(x.toInt - lo).toNat]? = some off) (ht : (pc : Int) + off = (tgt : Int)) (kk : V l G A R own nm cc nL ret Q X k n M sz tgt L st) : V l G A R own nm cc nL ret Q X k n M sz pc L (.int x :: st) := fun p e s m args below meth c H locs ls C hR hz hS hl => lv_tableIn C.1 C.2.1 hd h1 h2 ho ht (kk p e s m args below meth c H locs ls C hR hz hS hl)
theorem V_tabOut {dflt lo hi : Int} {offs : Array Int} {len : Nat} {x : Int32} {tgt : Nat} (hd : decode cc pc = .ok (.tableswitch dflt lo hi offs, len)) (h : x.toInt < lo ∨ hi < x.toInt) (ht : (pc : Int) + dflt = (tgt : Int)) (kk : V l G A R own nm cc nL ret Q X k n M sz tgt L st) : V l G A R own nm cc nL ret Q X k n M sz pc L (.int x :: st) := fun p e s m args below meth c H locs ls C hR hz hS hl => lv_tableOut C.1 C.2.1 hd h ht (kk p e s m args below meth c H locs ls C hR hz hS hl)
theorem V_iaddN {a b : Nat} (hd : decode cc pc = .ok (.iadd, 1))  (kk : V l G A R own nm cc nL ret Q X k n M sz (pc + 1) L (.int (nI (a + b)) :: st)) : V l G A R own nm cc nL ret Q X k n M sz pc L (.int (nI b) :: .int (nI a) :: st) := V_iadd hd (by rw [nI_add]; exact kk)
theorem V_isubN {a b : Nat} (hd : decode cc pc = .ok (.isub, 1)) (h : b ≤ a) (kk : V l G A R own nm cc nL ret Q X k n M sz (pc + 1) L (.int (nI (a - b)) :: st)) : V l G A R own nm cc nL ret Q X k n M sz pc L (.int (nI b) :: .int (nI a) :: st) := V_isub hd (by rw [pk_sub h]; exact kk)
theorem V_imulN {a b : Nat} (hd : decode cc pc = .ok (.imul, 1))  (kk : V l G A R own nm cc nL ret Q X k n M sz (pc + 1) L (.int (nI (a * b)) :: st)) : V l G A R own nm cc nL ret Q X k n M sz pc L (.int (nI b) :: .int (nI a) :: st) := V_imul hd (by rw [pk_mul]; exact kk)
theorem V_idivN {a b : Nat} (hd : decode cc pc = .ok (.idiv, 1)) (ha : a < 2 ^ 31) (h0 : 0 < b) (hb : b < 2 ^ 31) (kk : V l G A R own nm cc nL ret Q X k n M sz (pc + 1) L (.int (nI (a / b)) :: st)) : V l G A R own nm cc nL ret Q X k n M sz pc L (.int (nI b) :: .int (nI a) :: st) := V_idiv hd (fun z => absurd ((nI_zero_iff hb).mp z) (by omega)) (by rw [pk_div ha h0 hb]; exact kk)
theorem V_iremN {a b : Nat} (hd : decode cc pc = .ok (.irem, 1)) (ha : a < 2 ^ 31) (h0 : 0 < b) (hb : b < 2 ^ 31) (kk : V l G A R own nm cc nL ret Q X k n M sz (pc + 1) L (.int (nI (a % b)) :: st)) : V l G A R own nm cc nL ret Q X k n M sz pc L (.int (nI b) :: .int (nI a) :: st) := V_irem hd (fun z => absurd ((nI_zero_iff hb).mp z) (by omega)) (by rw [pk_rem ha h0 hb]; exact kk)
theorem V_iincN {i : Nat} {z : Nat} {a : Nat} {L' : List (Option Value)} (hd : decode cc pc = .ok (.iinc i (z : Int), 3)) (h0 : L[i]? = some (some (.int (nI a)))) (hn : i < nL) (hL : st1 L i (.int (nI (a + z))) = L') (kk : V l G A R own nm cc nL ret Q X k n M sz (pc + 3) L' st) : V l G A R own nm cc nL ret Q X k n M sz pc L st := V_iinc hd h0 (by rw [show Int32.ofInt (z : Int) = nI z from rfl, nI_add]) hn hL kk
theorem V_ldc {i : Nat} {v : Int32} (hd : decode cc pc = .ok (.ldc i, 2)) (hw : Cond.constant own i v ∈ tb) (kk : V l G A R own nm cc nL ret Q X k n M sz (pc + 2) L (.int v :: st)) : V l G A R own nm cc nL ret Q X k n M sz pc L st := fun p e s m args below meth c H locs ls C hR hz hS hl => lv_ldc C.1 C.2.1 C.2.2.2.2.1 (C.2.2.2.2.2.1 _ hw) hd (kk p e s m args below meth c H locs ls C hR hz hS hl)
theorem V_ldcw {i : Nat} {v : Int32} (hd : decode cc pc = .ok (.ldc_w i, 3)) (hw : Cond.constant own i v ∈ tb) (kk : V l G A R own nm cc nL ret Q X k n M sz (pc + 3) L (.int v :: st)) : V l G A R own nm cc nL ret Q X k n M sz pc L st := fun p e s m args below meth c H locs ls C hR hz hS hl => lv_ldcw C.1 C.2.1 C.2.2.2.2.1 (C.2.2.2.2.2.1 _ hw) hd (kk p e s m args below meth c H locs ls C hR hz hS hl)
theorem V_ldc2 {i : Nat} {v : Int64} (hd : decode cc pc = .ok (.ldc2_w i, 3)) (hw : Cond.constantLong own i v ∈ tb) (kk : V l G A R own nm cc nL ret Q X k n M sz (pc + 3) L (.long v :: st)) : V l G A R own nm cc nL ret Q X k n M sz pc L st := fun p e s m args below meth c H locs ls C hR hz hS hl => lv_ldc2 C.1 C.2.1 C.2.2.2.2.1 (C.2.2.2.2.2.1 _ hw) hd (kk p e s m args below meth c H locs ls C hR hz hS hl)
theorem V_wk {L' : List (Option Value)} (hw : wk L' L) (kk : V l G A R own nm cc nL ret Q X k n M sz pc L' st) : V l G A R own nm cc nL ret Q X k n M sz pc L st := fun p e s m args below meth c H locs ls C hR hz hS hl => kk p e s m args below meth c H locs ls C hR hz hS ⟨hl.1, hl.2.1, fun i v hv => hl.2.2 i v (wk_at hw hv)⟩
theorem V_less {M' : ME} (hM : ∀ a e, M' a = some e → M a = some e) (kk : V l G A R own nm cc nL ret Q X k n M' sz pc L st) : V l G A R own nm cc nL ret Q X k n M sz pc L st := fun p e s m args below meth c H locs ls C hR hz hS hl => kk p e s m args below meth c H locs ls C (hR.less hM) hz hS hl
theorem V_top {v v' : Value} (h : v = v') (kk : V l G A R own nm cc nL ret Q X k n M sz pc L (v' :: st)) : V l G A R own nm cc nL ret Q X k n M sz pc L (v :: st) := h ▸ kk
theorem V_top2 {u v v' : Value} (h : v = v') (kk : V l G A R own nm cc nL ret Q X k n M sz pc L (u :: v' :: st)) : V l G A R own nm cc nL ret Q X k n M sz pc L (u :: v :: st) := h ▸ kk
theorem V_widen {k' n' : Nat} (h1 : k ≤ k') (h2 : n ≤ n') (kk : V l G A R own nm cc nL ret Q X k' n' M sz pc L st) : V l G A R own nm cc nL ret Q X k n M sz pc L st := fun p e s m args below meth c H locs ls C hR hz hS hl => W.widen h1 h2 (kk p e s m args below meth c H locs ls C hR hz hS hl)
theorem Vq {v : Option Value} {H : Heap} {s t : State} {a : Array Value} {locs : List Loc} (hQ : Q v M sz) (hR : Rp G A M H) (hz : H.size = sz) (hS : va_S A s.heap H locs) (ht : t.heap = H) : Qn G A Q a s (.returned v) t := ⟨⟨v, M, rfl, by rw [ht, hz]; exact hQ, by rw [ht]; exact hR⟩, hS.F ht⟩
theorem V_ireti {x : Int32} (hd : decode cc pc = .ok (.ireturn, 1)) (hr : ret = some .int) (hk : k ≤ R.cells) (hn : n ≤ R.slots) (hQ : Q (some (.int x)) M sz) : V l G A R own nm cc nL ret Q X k n M sz pc L [.int x] := fun p e s m args below meth c H locs ls C hR hz hS hl => W.widen hk hn (vx_ret (W.iret C.1 C.2.1 (C.2.2.2.1.trans hr) (fun t ht _ => Vq hQ hR hz hS ht) hS.2.2 hd C.2.2.2.2.2.2.1))
theorem V_zret {x : Int32} (hd : decode cc pc = .ok (.ireturn, 1)) (hr : ret = some .boolean) (hx : narrow .boolean (.int x) = .int x) (hk : k ≤ R.cells) (hn : n ≤ R.slots) (hQ : Q (some (.int x)) M sz) : V l G A R own nm cc nL ret Q X k n M sz pc L [.int x] := fun p e s m args below meth c H locs ls C hR hz hS hl => W.widen hk hn (vx_ret (W.zret C.1 C.2.1 (C.2.2.2.1.trans hr) hx (fun t ht _ => Vq hQ hR hz hS ht) hS.2.2 hd C.2.2.2.2.2.2.1))
theorem V_lret {x : Int64} (hd : decode cc pc = .ok (.lreturn, 1)) (hr : ret = some .long) (hk : k ≤ R.cells) (hn : n ≤ R.slots) (hQ : Q (some (.long x)) M sz) : V l G A R own nm cc nL ret Q X k n M sz pc L [.long x] := fun p e s m args below meth c H locs ls C hR hz hS hl => W.widen hk hn (vx_ret (W.lret C.1 C.2.1 (C.2.2.2.1.trans hr) (fun t ht _ => Vq hQ hR hz hS ht) hS.2.2 hd C.2.2.2.2.2.2.1))
theorem V_aret {x : Nat} {c0 : String} (hd : decode cc pc = .ok (.areturn, 1)) (hr : ret = some (.object c0)) (hk : k ≤ R.cells) (hn : n ≤ R.slots) (hQ : Q (some (.ref x)) M sz) : V l G A R own nm cc nL ret Q X k n M sz pc L [.ref x] := fun p e s m args below meth c H locs ls C hR hz hS hl => W.widen hk hn (vx_ret (W.aret C.1 C.2.1 (C.2.2.2.1.trans hr) (Or.inl ⟨_, rfl⟩) (Or.inr ⟨_, rfl⟩) (fun t ht _ => Vq hQ hR hz hS ht) hS.2.2 hd C.2.2.2.2.2.2.1))
theorem V_ret (hd : decode cc pc = .ok (.return_, 1)) (hr : ret = none) (hk : k ≤ R.cells) (hn : n ≤ R.slots) (hQ : Q none M sz) : V l G A R own nm cc nL ret Q X k n M sz pc L [] := fun p e s m args below meth c H locs ls C hR hz hS hl => W.widen hk hn (vx_ret (W.vret C.1 C.2.1 (C.2.2.2.1.trans hr) (fun t ht _ => Vq hQ hR hz hS ht) hS.2.2 hd C.2.2.2.2.2.2.1))
end VV
end
section
theorem zz_last : True := trivial
end
