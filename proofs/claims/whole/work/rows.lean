section
-- ===== PART A: goes FIRST, ahead of the names: the tables' words, and 'selects' of the private methods out of them =====
/-- a private method of a class that the tables say can be made, by its rows of tables_1 -/
def lw_okq (q : MethodName × Nat) : Prop := (q.1.cls ≠ "java/lang/invoke/MethodHandle" ∧ q.1.cls ≠ "java/lang/invoke/VarHandle") ∧ Cond.instantiable q.1.cls q.2 ∈ tables_1 ∧ Cond.privateMethod q.1 ∈ tables_1 ∧ Cond.instanceMethod q.1 ∈ tables_1
theorem lw_p0 : lw_okq (⟨"WayMarker", "nextToPlan", "()I"⟩, 7) := ⟨⟨by decide +kernel, by decide +kernel⟩, List.mem_of_getElem? (i := 23) (by decide +kernel), List.mem_of_getElem? (i := 284) (by decide +kernel), List.mem_of_getElem? (i := 285) (by decide +kernel)⟩
theorem lw_p1 : lw_okq (⟨"WayMarker", "kindToPlan", "(I)C"⟩, 7) := ⟨⟨by decide +kernel, by decide +kernel⟩, List.mem_of_getElem? (i := 23) (by decide +kernel), List.mem_of_getElem? (i := 288) (by decide +kernel), List.mem_of_getElem? (i := 289) (by decide +kernel)⟩
theorem lw_p2 : lw_okq (⟨"java/lang/Throwable", "fillInStackTrace", "(I)Ljava/lang/Throwable;"⟩, 6) := ⟨⟨by decide +kernel, by decide +kernel⟩, List.mem_of_getElem? (i := 381) (by decide +kernel), List.mem_of_getElem? (i := 379) (by decide +kernel), List.mem_of_getElem? (i := 380) (by decide +kernel)⟩
theorem lw_p3 : lw_okq (⟨"WayMarker", "requireFork", "(I)V"⟩, 7) := ⟨⟨by decide +kernel, by decide +kernel⟩, List.mem_of_getElem? (i := 23) (by decide +kernel), List.mem_of_getElem? (i := 443) (by decide +kernel), List.mem_of_getElem? (i := 444) (by decide +kernel)⟩
theorem lw_p4 : lw_okq (⟨"WayMarker", "requireTrailMinutes", "(I)V"⟩, 7) := ⟨⟨by decide +kernel, by decide +kernel⟩, List.mem_of_getElem? (i := 23) (by decide +kernel), List.mem_of_getElem? (i := 476) (by decide +kernel), List.mem_of_getElem? (i := 477) (by decide +kernel)⟩
theorem lw_p5 : lw_okq (⟨"WayMarker", "requireTrail", "(I)V"⟩, 7) := ⟨⟨by decide +kernel, by decide +kernel⟩, List.mem_of_getElem? (i := 23) (by decide +kernel), List.mem_of_getElem? (i := 502) (by decide +kernel), List.mem_of_getElem? (i := 503) (by decide +kernel)⟩
theorem lw_p6 : lw_okq (⟨"WayMarker", "canTell", "(II)Z"⟩, 7) := ⟨⟨by decide +kernel, by decide +kernel⟩, List.mem_of_getElem? (i := 23) (by decide +kernel), List.mem_of_getElem? (i := 574) (by decide +kernel), List.mem_of_getElem? (i := 575) (by decide +kernel)⟩
theorem lw_p7 : lw_okq (⟨"WayMarker", "putUp", "(I)V"⟩, 7) := ⟨⟨by decide +kernel, by decide +kernel⟩, List.mem_of_getElem? (i := 23) (by decide +kernel), List.mem_of_getElem? (i := 596) (by decide +kernel), List.mem_of_getElem? (i := 597) (by decide +kernel)⟩
theorem lw_p8 : lw_okq (⟨"WayMarker", "requireBoard", "(I)V"⟩, 7) := ⟨⟨by decide +kernel, by decide +kernel⟩, List.mem_of_getElem? (i := 23) (by decide +kernel), List.mem_of_getElem? (i := 610) (by decide +kernel), List.mem_of_getElem? (i := 611) (by decide +kernel)⟩
theorem lw_p9 : lw_okq (⟨"WayMarker", "requireWalker", "(I)V"⟩, 7) := ⟨⟨by decide +kernel, by decide +kernel⟩, List.mem_of_getElem? (i := 23) (by decide +kernel), List.mem_of_getElem? (i := 643) (by decide +kernel), List.mem_of_getElem? (i := 644) (by decide +kernel)⟩
theorem lw_p10 : lw_okq (⟨"WayMarker", "requireTask", "(I)V"⟩, 7) := ⟨⟨by decide +kernel, by decide +kernel⟩, List.mem_of_getElem? (i := 23) (by decide +kernel), List.mem_of_getElem? (i := 695) (by decide +kernel), List.mem_of_getElem? (i := 696) (by decide +kernel)⟩
theorem lw_p11 : lw_okq (⟨"WayMarker", "requireRanger", "(I)V"⟩, 7) := ⟨⟨by decide +kernel, by decide +kernel⟩, List.mem_of_getElem? (i := 23) (by decide +kernel), List.mem_of_getElem? (i := 735) (by decide +kernel), List.mem_of_getElem? (i := 736) (by decide +kernel)⟩
theorem lw_p12 : lw_okq (⟨"WayMarker", "sendOut", "(I)I"⟩, 7) := ⟨⟨by decide +kernel, by decide +kernel⟩, List.mem_of_getElem? (i := 23) (by decide +kernel), List.mem_of_getElem? (i := 755) (by decide +kernel), List.mem_of_getElem? (i := 756) (by decide +kernel)⟩
theorem lw_p13 : lw_okq (⟨"WayMarker", "chooseTask", "(I)I"⟩, 7) := ⟨⟨by decide +kernel, by decide +kernel⟩, List.mem_of_getElem? (i := 23) (by decide +kernel), List.mem_of_getElem? (i := 759) (by decide +kernel), List.mem_of_getElem? (i := 760) (by decide +kernel)⟩
theorem lw_p14 : lw_okq (⟨"WayMarker", "makesSense", "(I)Z"⟩, 7) := ⟨⟨by decide +kernel, by decide +kernel⟩, List.mem_of_getElem? (i := 23) (by decide +kernel), List.mem_of_getElem? (i := 770) (by decide +kernel), List.mem_of_getElem? (i := 771) (by decide +kernel)⟩
theorem lw_p15 : lw_okq (⟨"WayMarker", "hasTimeFor", "(II)Z"⟩, 7) := ⟨⟨by decide +kernel, by decide +kernel⟩, List.mem_of_getElem? (i := 23) (by decide +kernel), List.mem_of_getElem? (i := 774) (by decide +kernel), List.mem_of_getElem? (i := 775) (by decide +kernel)⟩
def lw_privs_1 : List (MethodName × Nat) := [(⟨"WayMarker", "nextToPlan", "()I"⟩, 7), (⟨"WayMarker", "kindToPlan", "(I)C"⟩, 7), (⟨"java/lang/Throwable", "fillInStackTrace", "(I)Ljava/lang/Throwable;"⟩, 6), (⟨"WayMarker", "requireFork", "(I)V"⟩, 7), (⟨"WayMarker", "requireTrailMinutes", "(I)V"⟩, 7), (⟨"WayMarker", "requireTrail", "(I)V"⟩, 7), (⟨"WayMarker", "canTell", "(II)Z"⟩, 7), (⟨"WayMarker", "putUp", "(I)V"⟩, 7), (⟨"WayMarker", "requireBoard", "(I)V"⟩, 7), (⟨"WayMarker", "requireWalker", "(I)V"⟩, 7), (⟨"WayMarker", "requireTask", "(I)V"⟩, 7), (⟨"WayMarker", "requireRanger", "(I)V"⟩, 7), (⟨"WayMarker", "sendOut", "(I)I"⟩, 7), (⟨"WayMarker", "chooseTask", "(I)I"⟩, 7), (⟨"WayMarker", "makesSense", "(I)Z"⟩, 7), (⟨"WayMarker", "hasTimeFor", "(II)Z"⟩, 7)]
theorem lw_r1 : ∀ q ∈ lw_privs_1, lw_okq q := List.forall_mem_cons.mpr ⟨lw_p0, List.forall_mem_cons.mpr ⟨lw_p1, List.forall_mem_cons.mpr ⟨lw_p2, List.forall_mem_cons.mpr ⟨lw_p3, List.forall_mem_cons.mpr ⟨lw_p4, List.forall_mem_cons.mpr ⟨lw_p5, List.forall_mem_cons.mpr ⟨lw_p6, List.forall_mem_cons.mpr ⟨lw_p7, List.forall_mem_cons.mpr ⟨lw_p8, List.forall_mem_cons.mpr ⟨lw_p9, List.forall_mem_cons.mpr ⟨lw_p10, List.forall_mem_cons.mpr ⟨lw_p11, List.forall_mem_cons.mpr ⟨lw_p12, List.forall_mem_cons.mpr ⟨lw_p13, List.forall_mem_cons.mpr ⟨lw_p14, List.forall_mem_cons.mpr ⟨lw_p15, fun _ h => absurd h List.not_mem_nil⟩⟩⟩⟩⟩⟩⟩⟩⟩⟩⟩⟩⟩⟩⟩⟩
theorem lw_p16 : lw_okq (⟨"WayMarker", "goalOf", "(I)I"⟩, 7) := ⟨⟨by decide +kernel, by decide +kernel⟩, List.mem_of_getElem? (i := 23) (by decide +kernel), List.mem_of_getElem? (i := 778) (by decide +kernel), List.mem_of_getElem? (i := 779) (by decide +kernel)⟩
theorem lw_p17 : lw_okq (⟨"WayMarker", "comesTo", "(II)Z"⟩, 7) := ⟨⟨by decide +kernel, by decide +kernel⟩, List.mem_of_getElem? (i := 23) (by decide +kernel), List.mem_of_getElem? (i := 785) (by decide +kernel), List.mem_of_getElem? (i := 786) (by decide +kernel)⟩
theorem lw_p18 : lw_okq (⟨"WayMarker", "see", "(I)V"⟩, 7) := ⟨⟨by decide +kernel, by decide +kernel⟩, List.mem_of_getElem? (i := 23) (by decide +kernel), List.mem_of_getElem? (i := 789) (by decide +kernel), List.mem_of_getElem? (i := 790) (by decide +kernel)⟩
theorem lw_p19 : lw_okq (⟨"WayMarker", "carryOut", "(II)V"⟩, 7) := ⟨⟨by decide +kernel, by decide +kernel⟩, List.mem_of_getElem? (i := 23) (by decide +kernel), List.mem_of_getElem? (i := 807) (by decide +kernel), List.mem_of_getElem? (i := 808) (by decide +kernel)⟩
theorem lw_p20 : lw_okq (⟨"WayMarker", "requireMap", "(I)V"⟩, 7) := ⟨⟨by decide +kernel, by decide +kernel⟩, List.mem_of_getElem? (i := 23) (by decide +kernel), List.mem_of_getElem? (i := 830) (by decide +kernel), List.mem_of_getElem? (i := 831) (by decide +kernel)⟩
theorem lw_p21 : lw_okq (⟨"WayMarkerModel", "fails", "(I)I"⟩, 34) := ⟨⟨by decide +kernel, by decide +kernel⟩, List.mem_of_getElem? (i := 878) (by decide +kernel), List.mem_of_getElem? (i := 995) (by decide +kernel), List.mem_of_getElem? (i := 996) (by decide +kernel)⟩
theorem lw_p22 : lw_okq (⟨"WayMarkerModel", "tells", "(I)I"⟩, 34) := ⟨⟨by decide +kernel, by decide +kernel⟩, List.mem_of_getElem? (i := 878) (by decide +kernel), List.mem_of_getElem? (i := 999) (by decide +kernel), List.mem_of_getElem? (i := 1000) (by decide +kernel)⟩
theorem lw_p23 : lw_okq (⟨"WayMarkerModel", "isFork", "(I)Z"⟩, 34) := ⟨⟨by decide +kernel, by decide +kernel⟩, List.mem_of_getElem? (i := 878) (by decide +kernel), List.mem_of_getElem? (i := 1007) (by decide +kernel), List.mem_of_getElem? (i := 1008) (by decide +kernel)⟩
theorem lw_p24 : lw_okq (⟨"WayMarkerModel", "in", "(III)Z"⟩, 34) := ⟨⟨by decide +kernel, by decide +kernel⟩, List.mem_of_getElem? (i := 878) (by decide +kernel), List.mem_of_getElem? (i := 1011) (by decide +kernel), List.mem_of_getElem? (i := 1012) (by decide +kernel)⟩
theorem lw_p25 : lw_okq (⟨"WayMarkerModel", "isTrail", "(I)Z"⟩, 34) := ⟨⟨by decide +kernel, by decide +kernel⟩, List.mem_of_getElem? (i := 878) (by decide +kernel), List.mem_of_getElem? (i := 1019) (by decide +kernel), List.mem_of_getElem? (i := 1020) (by decide +kernel)⟩
theorem lw_p26 : lw_okq (⟨"WayMarkerModel", "isShut", "(IZ)Z"⟩, 34) := ⟨⟨by decide +kernel, by decide +kernel⟩, List.mem_of_getElem? (i := 878) (by decide +kernel), List.mem_of_getElem? (i := 1027) (by decide +kernel), List.mem_of_getElem? (i := 1028) (by decide +kernel)⟩
theorem lw_p27 : lw_okq (⟨"WayMarkerModel", "way", "(IIZ)I"⟩, 34) := ⟨⟨by decide +kernel, by decide +kernel⟩, List.mem_of_getElem? (i := 878) (by decide +kernel), List.mem_of_getElem? (i := 1035) (by decide +kernel), List.mem_of_getElem? (i := 1036) (by decide +kernel)⟩
theorem lw_p28 : lw_okq (⟨"WayMarkerModel", "reckons", "(IZ)V"⟩, 34) := ⟨⟨by decide +kernel, by decide +kernel⟩, List.mem_of_getElem? (i := 878) (by decide +kernel), List.mem_of_getElem? (i := 1039) (by decide +kernel), List.mem_of_getElem? (i := 1040) (by decide +kernel)⟩
theorem lw_p29 : lw_okq (⟨"WayMarkerModel", "least", "(II)I"⟩, 34) := ⟨⟨by decide +kernel, by decide +kernel⟩, List.mem_of_getElem? (i := 878) (by decide +kernel), List.mem_of_getElem? (i := 1044) (by decide +kernel), List.mem_of_getElem? (i := 1045) (by decide +kernel)⟩
theorem lw_p30 : lw_okq (⟨"WayMarkerModel", "next", "(II)I"⟩, 34) := ⟨⟨by decide +kernel, by decide +kernel⟩, List.mem_of_getElem? (i := 878) (by decide +kernel), List.mem_of_getElem? (i := 1052) (by decide +kernel), List.mem_of_getElem? (i := 1053) (by decide +kernel)⟩
theorem lw_p31 : lw_okq (⟨"WayMarkerModel", "of", "(II)I"⟩, 34) := ⟨⟨by decide +kernel, by decide +kernel⟩, List.mem_of_getElem? (i := 878) (by decide +kernel), List.mem_of_getElem? (i := 1056) (by decide +kernel), List.mem_of_getElem? (i := 1057) (by decide +kernel)⟩
def lw_privs_2 : List (MethodName × Nat) := [(⟨"WayMarker", "goalOf", "(I)I"⟩, 7), (⟨"WayMarker", "comesTo", "(II)Z"⟩, 7), (⟨"WayMarker", "see", "(I)V"⟩, 7), (⟨"WayMarker", "carryOut", "(II)V"⟩, 7), (⟨"WayMarker", "requireMap", "(I)V"⟩, 7), (⟨"WayMarkerModel", "fails", "(I)I"⟩, 34), (⟨"WayMarkerModel", "tells", "(I)I"⟩, 34), (⟨"WayMarkerModel", "isFork", "(I)Z"⟩, 34), (⟨"WayMarkerModel", "in", "(III)Z"⟩, 34), (⟨"WayMarkerModel", "isTrail", "(I)Z"⟩, 34), (⟨"WayMarkerModel", "isShut", "(IZ)Z"⟩, 34), (⟨"WayMarkerModel", "way", "(IIZ)I"⟩, 34), (⟨"WayMarkerModel", "reckons", "(IZ)V"⟩, 34), (⟨"WayMarkerModel", "least", "(II)I"⟩, 34), (⟨"WayMarkerModel", "next", "(II)I"⟩, 34), (⟨"WayMarkerModel", "of", "(II)I"⟩, 34)]
theorem lw_r2 : ∀ q ∈ lw_privs_2, lw_okq q := List.forall_mem_cons.mpr ⟨lw_p16, List.forall_mem_cons.mpr ⟨lw_p17, List.forall_mem_cons.mpr ⟨lw_p18, List.forall_mem_cons.mpr ⟨lw_p19, List.forall_mem_cons.mpr ⟨lw_p20, List.forall_mem_cons.mpr ⟨lw_p21, List.forall_mem_cons.mpr ⟨lw_p22, List.forall_mem_cons.mpr ⟨lw_p23, List.forall_mem_cons.mpr ⟨lw_p24, List.forall_mem_cons.mpr ⟨lw_p25, List.forall_mem_cons.mpr ⟨lw_p26, List.forall_mem_cons.mpr ⟨lw_p27, List.forall_mem_cons.mpr ⟨lw_p28, List.forall_mem_cons.mpr ⟨lw_p29, List.forall_mem_cons.mpr ⟨lw_p30, List.forall_mem_cons.mpr ⟨lw_p31, fun _ h => absurd h List.not_mem_nil⟩⟩⟩⟩⟩⟩⟩⟩⟩⟩⟩⟩⟩⟩⟩⟩
theorem lw_p32 : lw_okq (⟨"WayMarkerModel", "other", "(II)I"⟩, 34) := ⟨⟨by decide +kernel, by decide +kernel⟩, List.mem_of_getElem? (i := 878) (by decide +kernel), List.mem_of_getElem? (i := 1060) (by decide +kernel), List.mem_of_getElem? (i := 1061) (by decide +kernel)⟩
theorem lw_p33 : lw_okq (⟨"WayMarkerModel", "canBeCut", "(II)Z"⟩, 34) := ⟨⟨by decide +kernel, by decide +kernel⟩, List.mem_of_getElem? (i := 878) (by decide +kernel), List.mem_of_getElem? (i := 1072) (by decide +kernel), List.mem_of_getElem? (i := 1073) (by decide +kernel)⟩
theorem lw_p34 : lw_okq (⟨"WayMarkerModel", "cuts", "(III)V"⟩, 34) := ⟨⟨by decide +kernel, by decide +kernel⟩, List.mem_of_getElem? (i := 878) (by decide +kernel), List.mem_of_getElem? (i := 1076) (by decide +kernel), List.mem_of_getElem? (i := 1077) (by decide +kernel)⟩
theorem lw_p35 : lw_okq (⟨"WayMarkerModel", "isBoard", "(I)Z"⟩, 34) := ⟨⟨by decide +kernel, by decide +kernel⟩, List.mem_of_getElem? (i := 878) (by decide +kernel), List.mem_of_getElem? (i := 1084) (by decide +kernel), List.mem_of_getElem? (i := 1085) (by decide +kernel)⟩
theorem lw_p36 : lw_okq (⟨"WayMarkerModel", "dangerOf", "(IZ)I"⟩, 34) := ⟨⟨by decide +kernel, by decide +kernel⟩, List.mem_of_getElem? (i := 878) (by decide +kernel), List.mem_of_getElem? (i := 1100) (by decide +kernel), List.mem_of_getElem? (i := 1101) (by decide +kernel)⟩
theorem lw_p37 : lw_okq (⟨"WayMarkerModel", "adds", "(CII)I"⟩, 34) := ⟨⟨by decide +kernel, by decide +kernel⟩, List.mem_of_getElem? (i := 878) (by decide +kernel), List.mem_of_getElem? (i := 1124) (by decide +kernel), List.mem_of_getElem? (i := 1125) (by decide +kernel)⟩
theorem lw_p38 : lw_okq (⟨"WayMarkerModel", "wants", "(I)Z"⟩, 34) := ⟨⟨by decide +kernel, by decide +kernel⟩, List.mem_of_getElem? (i := 878) (by decide +kernel), List.mem_of_getElem? (i := 1132) (by decide +kernel), List.mem_of_getElem? (i := 1133) (by decide +kernel)⟩
theorem lw_p39 : lw_okq (⟨"WayMarkerModel", "hasOpen", "(CI)Z"⟩, 34) := ⟨⟨by decide +kernel, by decide +kernel⟩, List.mem_of_getElem? (i := 878) (by decide +kernel), List.mem_of_getElem? (i := 1136) (by decide +kernel), List.mem_of_getElem? (i := 1137) (by decide +kernel)⟩
theorem lw_p40 : lw_okq (⟨"WayMarkerModel", "isTask", "(I)Z"⟩, 34) := ⟨⟨by decide +kernel, by decide +kernel⟩, List.mem_of_getElem? (i := 878) (by decide +kernel), List.mem_of_getElem? (i := 1144) (by decide +kernel), List.mem_of_getElem? (i := 1145) (by decide +kernel)⟩
theorem lw_p41 : lw_okq (⟨"WayMarkerModel", "isRanger", "(I)Z"⟩, 34) := ⟨⟨by decide +kernel, by decide +kernel⟩, List.mem_of_getElem? (i := 878) (by decide +kernel), List.mem_of_getElem? (i := 1168) (by decide +kernel), List.mem_of_getElem? (i := 1169) (by decide +kernel)⟩
theorem lw_p42 : lw_okq (⟨"WayMarkerModel", "chosen", "(I)I"⟩, 34) := ⟨⟨by decide +kernel, by decide +kernel⟩, List.mem_of_getElem? (i := 878) (by decide +kernel), List.mem_of_getElem? (i := 1180) (by decide +kernel), List.mem_of_getElem? (i := 1181) (by decide +kernel)⟩
theorem lw_p43 : lw_okq (⟨"WayMarkerModel", "hasTool", "(II)Z"⟩, 34) := ⟨⟨by decide +kernel, by decide +kernel⟩, List.mem_of_getElem? (i := 878) (by decide +kernel), List.mem_of_getElem? (i := 1184) (by decide +kernel), List.mem_of_getElem? (i := 1185) (by decide +kernel)⟩
theorem lw_p44 : lw_okq (⟨"WayMarkerModel", "canBeDone", "(I)Z"⟩, 34) := ⟨⟨by decide +kernel, by decide +kernel⟩, List.mem_of_getElem? (i := 878) (by decide +kernel), List.mem_of_getElem? (i := 1188) (by decide +kernel), List.mem_of_getElem? (i := 1189) (by decide +kernel)⟩
theorem lw_p45 : lw_okq (⟨"WayMarkerModel", "isInTime", "(II)Z"⟩, 34) := ⟨⟨by decide +kernel, by decide +kernel⟩, List.mem_of_getElem? (i := 878) (by decide +kernel), List.mem_of_getElem? (i := 1192) (by decide +kernel), List.mem_of_getElem? (i := 1193) (by decide +kernel)⟩
theorem lw_p46 : lw_okq (⟨"WayMarkerModel", "placeOf", "(I)I"⟩, 34) := ⟨⟨by decide +kernel, by decide +kernel⟩, List.mem_of_getElem? (i := 878) (by decide +kernel), List.mem_of_getElem? (i := 1196) (by decide +kernel), List.mem_of_getElem? (i := 1197) (by decide +kernel)⟩
theorem lw_p47 : lw_okq (⟨"WayMarkerModel", "timeOf", "(I)I"⟩, 34) := ⟨⟨by decide +kernel, by decide +kernel⟩, List.mem_of_getElem? (i := 878) (by decide +kernel), List.mem_of_getElem? (i := 1200) (by decide +kernel), List.mem_of_getElem? (i := 1201) (by decide +kernel)⟩
def lw_privs_3 : List (MethodName × Nat) := [(⟨"WayMarkerModel", "other", "(II)I"⟩, 34), (⟨"WayMarkerModel", "canBeCut", "(II)Z"⟩, 34), (⟨"WayMarkerModel", "cuts", "(III)V"⟩, 34), (⟨"WayMarkerModel", "isBoard", "(I)Z"⟩, 34), (⟨"WayMarkerModel", "dangerOf", "(IZ)I"⟩, 34), (⟨"WayMarkerModel", "adds", "(CII)I"⟩, 34), (⟨"WayMarkerModel", "wants", "(I)Z"⟩, 34), (⟨"WayMarkerModel", "hasOpen", "(CI)Z"⟩, 34), (⟨"WayMarkerModel", "isTask", "(I)Z"⟩, 34), (⟨"WayMarkerModel", "isRanger", "(I)Z"⟩, 34), (⟨"WayMarkerModel", "chosen", "(I)I"⟩, 34), (⟨"WayMarkerModel", "hasTool", "(II)Z"⟩, 34), (⟨"WayMarkerModel", "canBeDone", "(I)Z"⟩, 34), (⟨"WayMarkerModel", "isInTime", "(II)Z"⟩, 34), (⟨"WayMarkerModel", "placeOf", "(I)I"⟩, 34), (⟨"WayMarkerModel", "timeOf", "(I)I"⟩, 34)]
theorem lw_r3 : ∀ q ∈ lw_privs_3, lw_okq q := List.forall_mem_cons.mpr ⟨lw_p32, List.forall_mem_cons.mpr ⟨lw_p33, List.forall_mem_cons.mpr ⟨lw_p34, List.forall_mem_cons.mpr ⟨lw_p35, List.forall_mem_cons.mpr ⟨lw_p36, List.forall_mem_cons.mpr ⟨lw_p37, List.forall_mem_cons.mpr ⟨lw_p38, List.forall_mem_cons.mpr ⟨lw_p39, List.forall_mem_cons.mpr ⟨lw_p40, List.forall_mem_cons.mpr ⟨lw_p41, List.forall_mem_cons.mpr ⟨lw_p42, List.forall_mem_cons.mpr ⟨lw_p43, List.forall_mem_cons.mpr ⟨lw_p44, List.forall_mem_cons.mpr ⟨lw_p45, List.forall_mem_cons.mpr ⟨lw_p46, List.forall_mem_cons.mpr ⟨lw_p47, fun _ h => absurd h List.not_mem_nil⟩⟩⟩⟩⟩⟩⟩⟩⟩⟩⟩⟩⟩⟩⟩⟩
theorem lw_p48 : lw_okq (⟨"WayMarkerModel", "comes", "(II)Z"⟩, 34) := ⟨⟨by decide +kernel, by decide +kernel⟩, List.mem_of_getElem? (i := 878) (by decide +kernel), List.mem_of_getElem? (i := 1204) (by decide +kernel), List.mem_of_getElem? (i := 1205) (by decide +kernel)⟩
theorem lw_p49 : lw_okq (⟨"WayMarkerModel", "sees", "(I)V"⟩, 34) := ⟨⟨by decide +kernel, by decide +kernel⟩, List.mem_of_getElem? (i := 878) (by decide +kernel), List.mem_of_getElem? (i := 1208) (by decide +kernel), List.mem_of_getElem? (i := 1209) (by decide +kernel)⟩
theorem lw_p50 : lw_okq (⟨"WayMarkerModel", "does", "(II)V"⟩, 34) := ⟨⟨by decide +kernel, by decide +kernel⟩, List.mem_of_getElem? (i := 878) (by decide +kernel), List.mem_of_getElem? (i := 1212) (by decide +kernel), List.mem_of_getElem? (i := 1213) (by decide +kernel)⟩
theorem lw_p51 : lw_okq (⟨"WayMarkerModel", "isMap", "(I)Z"⟩, 34) := ⟨⟨by decide +kernel, by decide +kernel⟩, List.mem_of_getElem? (i := 878) (by decide +kernel), List.mem_of_getElem? (i := 1224) (by decide +kernel), List.mem_of_getElem? (i := 1225) (by decide +kernel)⟩
def lw_privs_4 : List (MethodName × Nat) := [(⟨"WayMarkerModel", "comes", "(II)Z"⟩, 34), (⟨"WayMarkerModel", "sees", "(I)V"⟩, 34), (⟨"WayMarkerModel", "does", "(II)V"⟩, 34), (⟨"WayMarkerModel", "isMap", "(I)Z"⟩, 34)]
theorem lw_r4 : ∀ q ∈ lw_privs_4, lw_okq q := List.forall_mem_cons.mpr ⟨lw_p48, List.forall_mem_cons.mpr ⟨lw_p49, List.forall_mem_cons.mpr ⟨lw_p50, List.forall_mem_cons.mpr ⟨lw_p51, fun _ h => absurd h List.not_mem_nil⟩⟩⟩⟩
def lw_privs : List (MethodName × Nat) := lw_privs_1 ++ (lw_privs_2 ++ (lw_privs_3 ++ (lw_privs_4)))
def lw_tbl : List Cond := k2_sels lw_privs ++ tables_1
theorem lw_privs_ok : ∀ q ∈ lw_privs, lw_okq q := by
  show ∀ q ∈ lw_privs_1 ++ (lw_privs_2 ++ (lw_privs_3 ++ (lw_privs_4))), lw_okq q
  exact List.forall_mem_append.mpr ⟨lw_r1, List.forall_mem_append.mpr ⟨lw_r2, List.forall_mem_append.mpr ⟨lw_r3, lw_r4⟩⟩⟩
/-- the streams that the claim lets the run draw from -/
abbrev lw_cs : List Choice := [Jvm.Choice.named "NaN.bits"]
theorem lw_bits : nanBits ∈ lw_cs := by first | decide | exact List.mem_cons_self | simp [lw_cs, nanBits]
-- ===== end of PART A; then your names; then what follows =====
/-! ===== BEGIN words of one list among another's, by their places ===== -/
theorem goodIn_r {big : List Cond} (ws : List Cond) (ps : List Nat) (hp : ws = ps.filterMap (fun i => big[i]?)) (h : ws.all goodWord = true) : GoodIn big ws := by
  intro w hw
  have h1 := List.all_eq_true.mp h w hw
  rw [hp] at hw
  obtain ⟨i, -, hi⟩ := List.mem_filterMap.mp hw
  have hm : w ∈ big := by first | exact List.mem_of_getElem? hi | exact List.getElem?_mem hi
  exact ⟨hm, good_of_word h1⟩
theorem goodIn_app {big a b : List Cond} (ha : GoodIn big a) (hb : GoodIn big b) : GoodIn big (a ++ b) := fun w h => (List.mem_append.mp h).elim (ha w) (hb w)
theorem goodIn_ca {big a b : List Cond} {c : Cond} (ha : GoodIn big (c :: a)) (hb : GoodIn big b) : GoodIn big (c :: (a ++ b)) := fun w h => (List.mem_cons.mp h).elim (fun e => ha w (List.mem_cons.mpr (Or.inl e))) (fun h => (List.mem_append.mp h).elim (fun h => ha w (List.mem_cons.mpr (Or.inr h))) (hb w))
theorem goodIn_sub {big ws : List Cond} (hm : ∀ w ∈ ws, w ∈ big) (h : ws.all goodWord = true) : GoodIn big ws := fun w hw => ⟨hm w hw, good_of_word (List.all_eq_true.mp h w hw)⟩
/-! ===== END ===== -/

/-! ===== BEGIN exceptions that leave a method, and their catching by the caller (launches without stack traces) ===== -/
section VXA
/-! The laws vx_back, vx_callV, vx_callS, vx_callSW, vx_throw0, vx_throwS follow proofs of the library, with one case more: JvmDerived/Free/Laws.lean (Back.of_free), Shelf42/LK1.lean (callV, callS), Shelf/KitTraced.lean (throwNew0V, throwNewS). -/
/-- where a method has thrown q: the class by its name, the cell, what was written, the world -/
def vx_T (XC : String → State → State → Prop) (st : State) (q : Addr) (t : State) (mc ms : Nat) (free : Addr → Prop) : Prop :=
  ∃ (E : String) (ce : Cell) (L : List Loc), XC E st t ∧ t.heap[q]? = some ce ∧ ce.vm = .none ∧ st.vm.findClass E = some ce.cls ∧ st.WarmedH t.vm ∧ st.sameButNew ({ t with vm := st.vm } : State) L mc ms ∧ ∀ z ∈ L, free z.base
def vx_Q (Qc : Array Value → State → Outcome → State → Prop) (XC : String → State → State → Prop) (mc ms : Nat) (free : Addr → Prop) : Array Value → State → Outcome → State → Prop := fun a st o t =>
  (Qc a st o t ∧ ∃ L, FrameEnd st o t L mc ms ∧ ∀ q ∈ L, free q.base) ∨ ∃ q, o = .threw q ∧ vx_T XC st q t mc ms free
/-- a callee that returns or throws -/
def vx_Met (l : Launch) (y : MethodName) (ws : List Cond) (rm : Room) (Pc : Array Value → State → Prop) (Qc : Array Value → State → Outcome → State → Prop) (XC : String → State → State → Prop) (mc ms : Nat) (free : Addr → Prop) : Prop :=
  MetFree l y (headSpec ws rm) Pc (fun _ _ _ _ _ => True) (vx_Q Qc XC mc ms free)
def vx_Post (XC : String → State → State → Prop) (mc ms : Nat) (free : Addr → Prop) : Pt → Array Value → Addr → Pt → Prop := fun A a q B =>
  ∃ (g : JFrame) (mk : MethodId) (t : State) (L : List Loc) (E : String) (ce : Cell), B.U.heap = t.heap ∧ B.U.vm = t.vm ∧ XC E (A.U.calling g mk a) t ∧ t.heap[q]? = some ce ∧ ce.vm = .none ∧ A.U.vm.findClass E = some ce.cls ∧ B.locs = A.locs ++ L ∧ (∀ z ∈ L, free z.base) ∧ B.cells = A.cells + mc ∧ B.slots = A.slots + ms
def vx_Back (l : Launch) (R : Room) (p : Program) (e : Env) (below : List Frame) (s : State) (sargs : Array Value) (y : MethodName) (len W9 : Nat)
    (Pre : Pt → Array Value → Prop) (Post : Pt → Array Value → Option Value → Pt → Prop) (PostX : Pt → Array Value → Addr → Pt → Prop) : Prop :=
  ∀ (m : MethodId) (meth : Method) (c : Code) (A : Pt) (g : JFrame) (ig : Instr) (mk : MethodId) (a : Array Value),
    Stand p l e R s m sargs below meth c A.U A.locs A.cells A.slots → g.method = m → g.locals.size = c.maxLocals → decode c.code g.pc = .ok (ig, len) →
    2 * g.monitorRoom + (g.stack.map fun v => v.category).sum ≤ W9 → A.U.methodNamed? y = some mk → Pre A a →
    (∃ (v : Option Value) (B : Pt), Stand p l e R s m sargs below meth c B.U B.locs B.cells B.slots ∧ Post A a v B ∧
      Steps p.tables e below (doInvoke e (A.U.setTop g) [] mk a).1 (B.U.setTop { g with pc := g.pc + len, stack := v.toList ++ g.stack })) ∨
    (∃ (q : Addr) (B : Pt), Stand p l e R s m sargs below meth c B.U B.locs B.cells B.slots ∧ PostX A a q B ∧
      Steps p.tables e below (doInvoke e (A.U.setTop g) [] mk a).1 ((B.U.setTop g).pushFrame (.throwing q)))
section Payer
variable {l : Launch} {R : Room} {p : Program} {e : Env} {below : List Frame} {s : State} {sargs : Array Value} {y : MethodName} {len W9 : Nat}
theorem vx_back {ws : List Cond} {rm : Room} {Pc : Array Value → State → Prop} {Qc : Array Value → State → Outcome → State → Prop} {XC : String → State → State → Prop} {mc ms : Nat} {free : Addr → Prop} {bytes : ByteArray} {maxL : Nat} {ret : Option FieldType}
    (hM : vx_Met l y ws rm Pc Qc XC mc ms free) (hblind : FrameBlind Pc) (hrc : rm.cells = mc) (hrs : rm.slots = ms)
    (hframes : rm.frames + 1 ≤ R.frames) (hlocals : W9 + (maxL + 11) + rm.locals ≤ R.locals)
    (hws : ∀ w ∈ ws, ∀ a' U, s.WarmedH U.vm → w.before a' U = true) (hcode : Cond.code y bytes maxL ret ∈ ws) (hinit : ∀ a' U, s.WarmedH U.vm → (Cond.initialized y.cls).before a' U = true) :
    vx_Back l R p e below s sargs y len W9 (PreOf R mc ms Pc) (PostOf Qc mc ms free) (vx_Post XC mc ms free) := by
  intro m meth c A g ig mk a X hg hsize hdg hW hn hp
  have h1 : (headSpec ws rm).pre.before a A.U = true := atoms_intro fun w hw => hws w hw _ _ X.warmed
  have h2 : (Cond.code y bytes maxL ret).before a A.U = true := hws _ hcode _ _ X.warmed
  have h3 : (Cond.initialized y.cls).before a A.U = true := hinit _ _ X.warmed
  have h4 : A.cells + (headSpec ws rm).room.cells ≤ R.cells := by rw [show (headSpec ws rm).room.cells = mc from hrc]; exact hp.1
  have h5 : A.slots + (headSpec ws rm).room.slots ≤ R.slots := by rw [show (headSpec ws rm).room.slots = ms from hrs]; exact hp.2.1
  have hPc : Pc a (A.U.calling g mk a) := hblind _ _ _ _ hp.2.2
  obtain ⟨U, Ls, c0, s0⟩ := A
  dsimp only [Pt.U, Pt.locs, Pt.cells, Pt.slots] at h1 h2 h3 h4 h5 X hn hPc ⊢
  obtain ⟨methY, cY, hmY, hcY, -, hlY, -, -, -, -⟩ := Cond.code_spec hn h2
  obtain ⟨kY, hkY, -⟩ := className_of_methodNamed hn
  have hinitY : kY.init = .initialized := Cond.initialized_spec (findClass_of_methodNamed hn) hkY h3
  have h : At U g.method c below := by rw [hg]; exact X.here
  have hlocals9 : W9 + (maxL + 11) + (headSpec ws rm).room.locals ≤ R.locals := hlocals
  have happ : (headSpec ws rm).appliesLoose y e.platform (U.calling g mk a) = true :=
    Spec.appliesLoose_calling (g := g) h hdg hn hkY hinitY
      (X.room_calling (g := g) (R' := (headSpec ws rm).room) hsize hmY hcY hframes (by rw [hlY]; omega) h4 h5) h1
  obtain ⟨mid, hmid⟩ := h.above
  have hfr : (U.setTop g).frames = (.java g :: mid) ++ below := by rw [State.frames_setTop' g h.top, hmid]; rfl
  obtain ⟨o, s₂, hsteps, -, hend, hq⟩ := Steps.callFree hM p X.admits X.cas X.clock (acts := []) hfr happ hPc trivial
  have hq' : vx_Q Qc XC mc ms free a (U.calling g mk a) o s₂ := hq
  rw [State.frames_setTop' g h.top] at hend
  obtain ⟨g₀, hg0⟩ := Option.isSome_iff_exists.mp h.top
  obtain ⟨r, hr⟩ := State.topJava?_eq_some.mp hg0
  have hr' : (({ U with heap := s₂.heap, slotsUsed := s₂.slotsUsed } : State).setVm s₂.vm).frames = .java g₀ :: r := hr
  rcases hq' with ⟨hqc, L, hfe, hL⟩ | ⟨q, rfl, E, ce, L, hx, hce, hcv, hcl, hW₂, hsm, hL⟩
  · obtain ⟨⟨v, rfl⟩, hW₂, e2, q2, q3, q4, q5, q6⟩ := id hfe
    have e3 : s₂ = ({ (U.calling g mk a).setFrames s₂.frames with heap := s₂.heap, slotsUsed := s₂.slotsUsed } : State).setVm s₂.vm := by
      have : s₂ = ({ s₂ with vm := (U.calling g mk a).vm } : State).setVm s₂.vm := rfl
      rw [e2] at this
      exact this
    obtain ⟨c₂, i₂, len₂, hc₂, hd₂, hf₂⟩ := hend
    have hW' : U.WarmedH s₂.vm := hW₂
    have hcc : c₂ = c := by
      have h1 : s₂.code? g.method = U.code? g.method := by
        rw [State.code?_eq, State.code?_eq, hW'.alike.method?]
      exact Option.some.inj (hc₂.symm.trans (h1.trans h.code))
    subst hcc
    have hlen : len₂ = len := by rw [hdg] at hd₂; cases hd₂; rfl
    subst hlen
    have hs₂ : s₂ = (({ U with heap := s₂.heap, slotsUsed := s₂.slotsUsed } : State).setVm s₂.vm).setTop { g with pc := g.pc + len₂, stack := v.toList ++ g.stack } := by
      refine e3.trans ?_
      rw [hf₂, State.calling_eq h.top, State.setFrames_setFrames, State.setTop_of_frames _ hr', hr]
      rfl
    have hsame : U.sameButNew ({ U with heap := s₂.heap, slotsUsed := s₂.slotsUsed } : State) L mc ms := by
      refine ⟨?_, q2, q3, q4, q5, q6⟩
      obtain ⟨t, ht, -⟩ := State.frames_cons hr
      show ({ U with heap := s₂.heap, slotsUsed := s₂.slotsUsed } : State) = { U.setFrames U.frames with heap := s₂.heap, slotsUsed := s₂.slotsUsed }
      rw [State.setFrames_self ht]
    subst hg
    refine Or.inl ⟨v, ⟨(({ U with heap := s₂.heap, slotsUsed := s₂.slotsUsed } : State).setVm s₂.vm), Ls ++ L, c0 + mc, s0 + ms⟩,
      ⟨X.admits, X.cas, X.clock, X.frames, X.room, X.hears, X.method, X.code, (X.here.setHeapUsed s₂.heap s₂.slotsUsed).setVm hW'.alike, X.tail, State.WarmedH.trans X.warmed hW', X.limits, X.bytes, X.same.trans (hsame.setVm s.vm)⟩,
      ⟨g, mk, s₂, L, rfl, rfl, hqc, rfl, hL, rfl, rfl⟩, ?_⟩
    show Steps p.tables e below _ ((({ U with heap := s₂.heap, slotsUsed := s₂.slotsUsed } : State).setVm s₂.vm).setTop { g with pc := g.pc + len₂, stack := v.toList ++ g.stack })
    rw [← hs₂]
    exact hsteps
  · obtain ⟨e2, q2, q3, q4, q5, q6⟩ := id hsm
    have e3 : s₂ = ({ (U.calling g mk a).setFrames s₂.frames with heap := s₂.heap, slotsUsed := s₂.slotsUsed } : State).setVm s₂.vm := by
      have : s₂ = ({ s₂ with vm := (U.calling g mk a).vm } : State).setVm s₂.vm := rfl
      rw [e2] at this
      exact this
    have hf₂ : s₂.frames = .throwing q :: .java g :: U.frames.tail := hend
    have hW' : U.WarmedH s₂.vm := hW₂
    have hs₂ : s₂ = ((({ U with heap := s₂.heap, slotsUsed := s₂.slotsUsed } : State).setVm s₂.vm).setTop g).pushFrame (.throwing q) := by
      refine e3.trans ?_
      rw [hf₂, State.calling_eq h.top, State.setFrames_setFrames, State.pushFrame, State.frames_setTop _ hr', State.setTop_of_frames _ hr', State.setFrames_setFrames, hr]
      rfl
    have hsame : U.sameButNew ({ U with heap := s₂.heap, slotsUsed := s₂.slotsUsed } : State) L mc ms := by
      refine ⟨?_, q2, q3, q4, q5, q6⟩
      obtain ⟨t, ht, -⟩ := State.frames_cons hr
      show ({ U with heap := s₂.heap, slotsUsed := s₂.slotsUsed } : State) = { U.setFrames U.frames with heap := s₂.heap, slotsUsed := s₂.slotsUsed }
      rw [State.setFrames_self ht]
    subst hg
    refine Or.inr ⟨q, ⟨(({ U with heap := s₂.heap, slotsUsed := s₂.slotsUsed } : State).setVm s₂.vm), Ls ++ L, c0 + mc, s0 + ms⟩,
      ⟨X.admits, X.cas, X.clock, X.frames, X.room, X.hears, X.method, X.code, (X.here.setHeapUsed s₂.heap s₂.slotsUsed).setVm hW'.alike, X.tail, State.WarmedH.trans X.warmed hW', X.limits, X.bytes, X.same.trans (hsame.setVm s.vm)⟩,
      ⟨g, mk, s₂, L, E, ce, rfl, rfl, hx, hce, hcv, hcl, rfl, hL, rfl, rfl⟩, ?_⟩
    show Steps p.tables e below _ (((({ U with heap := s₂.heap, slotsUsed := s₂.slotsUsed } : State).setVm s₂.vm).setTop g).pushFrame (.throwing q))
    rw [← hs₂]
    exact hsteps
end Payer
section Calls
variable {p : Program} {l : Launch} {e : Env} {R : Room} {s : State} {m : MethodId} {args : Array Value} {below : List Frame} {meth : Method} {c : Code} {T : State} {locs : List Loc} {cells slots : Nat}
theorem vx_callV (X : Stand p l e R s m args below meth c T locs cells slots) (hexec : p.tables.exec = Jvm.exec) {own C : String} {index : Nat} {y : MethodName} {bytes : ByteArray} {maxL : Nat} {ret : Option FieldType}
    (hown : s.vm.findClass own = some m.cls) (hlink : (Cond.methodLink own index y).before args s = true) (hinst : (Cond.instanceMethod y).before args s = true) (hsel : (Cond.selects C y y).before args s = true)
    (hcode : (Cond.code y bytes maxL ret).before args s = true) (hy : y.cls ≠ "java/lang/invoke/MethodHandle" ∧ y.cls ≠ "java/lang/invoke/VarHandle")
    {W9 : Nat} {Pre : Pt → Array Value → Prop} {Post : Pt → Array Value → Option Value → Pt → Prop} {PostX : Pt → Array Value → Addr → Pt → Prop} (hK : vx_Back l R p e below s args y 3 W9 Pre Post PostX)
    {b : Addr} {cellB : Cell} (hcell : T.heap[b]? = some cellB) (hobj : cellB.vm.isStatics = false) (hcls : s.vm.findClass C = some cellB.cls)
    {g : JFrame} (hg : g.method = m) (hsize : g.locals.size = c.maxLocals) {argsL rest : List Value} (hlen : ∀ sig, parseMethodDescriptor y.desc = some sig → argsL.length = sig.parameters.length)
    (hstack : g.stack = argsL.reverse ++ .ref b :: rest) (hW : 2 * g.monitorRoom + (rest.map fun v => v.category).sum ≤ W9) (hdg : decode c.code g.pc = .ok (.invokevirtual index, 3))
    (hpre : ∀ vm₁, s.WarmedH vm₁ → Pre ⟨T.setVm vm₁, locs, cells, slots⟩ (Value.ref b :: argsL).toArray) :
    (∃ (v : Option Value) (vm₁ : Vm) (B : Pt), s.WarmedH vm₁ ∧ Stand p l e R s m args below meth c B.U B.locs B.cells B.slots ∧ Post ⟨T.setVm vm₁, locs, cells, slots⟩ (Value.ref b :: argsL).toArray v B ∧
      ∀ target, Steps p.tables e below (B.U.setTop { g with pc := g.pc + 3, stack := v.toList ++ rest }) target → Steps p.tables e below (T.setTop g) target) ∨
    (∃ (q : Addr) (vm₁ : Vm) (B : Pt), s.WarmedH vm₁ ∧ Stand p l e R s m args below meth c B.U B.locs B.cells B.slots ∧ PostX ⟨T.setVm vm₁, locs, cells, slots⟩ (Value.ref b :: argsL).toArray q B ∧
      Steps p.tables e below (T.setTop g) ((B.U.setTop { g with stack := rest }).pushFrame (.throwing q))) := by
  obtain ⟨mk, methM, hnamed, hmethM, hstM, habM⟩ := Cond.instanceMethod_spec hinst
  obtain ⟨methM', cM, hmethM', -, -, -, -, -, -, hsigM⟩ := Cond.code_spec hnamed hcode
  cases hmethM.symm.trans hmethM'
  obtain ⟨c2, r2, m2, q1, q2, q3, q4, kP, hkP, hkPi⟩ := Cond.selects_spec hsel
  cases hcls.symm.trans q1
  cases (State.methodFound?_of_named hnamed hy).symm.trans q2
  cases hnamed.symm.trans q3
  have hselP : selectMethod e.platform s.vm cellB.cls mk = .method mk := by rw [Launch.admits_selectMethod X.admits]; exact q4
  obtain ⟨vm₁, X₁, hstep₁⟩ := X.invokevirtual hexec hown hlink hnamed hmethM hstM hkP hkPi hy (a := b) (cell := cellB) hcell
    (fun z h => by rw [h] at hobj; cases hobj) hselP hmethM habM hkP hkPi (g := g) hg (argsL := argsL) (rest := rest) (hlen _ hsigM) hstack hdg
  rcases hK m meth c ⟨T.setVm vm₁, locs, cells, slots⟩ { g with stack := rest } (.invokevirtual index) mk (Value.ref b :: argsL).toArray X₁ hg hsize hdg hW (X₁.named hnamed) (hpre vm₁ X₁.warmed) with ⟨v, B, X', hpost, hsteps⟩ | ⟨q, B, X', hpost, hsteps⟩
  · exact Or.inl ⟨v, vm₁, B, X₁.warmed, X', hpost, fun target h => hstep₁ _ fun acts => by rw [doInvoke_state]; exact hsteps.trans h⟩
  · exact Or.inr ⟨q, vm₁, B, X₁.warmed, X', hpost, hstep₁ _ fun acts => by rw [doInvoke_state]; exact hsteps⟩
theorem vx_callS (X : Stand p l e R s m args below meth c T locs cells slots) (hexec : p.tables.exec = Jvm.exec) {own : String} {index : Nat} {y : MethodName} {bytes : ByteArray} {maxL : Nat} {ret : Option FieldType}
    (hown : s.vm.findClass own = some m.cls) (hlink : (Cond.methodLink own index y).before args s = true) (hstat : (Cond.static y).before args s = true) (hinit : (Cond.initialized y.cls).before args s = true)
    (hcode : (Cond.code y bytes maxL ret).before args s = true) (hy : y.cls ≠ "java/lang/invoke/MethodHandle" ∧ y.cls ≠ "java/lang/invoke/VarHandle")
    {W9 : Nat} {Pre : Pt → Array Value → Prop} {Post : Pt → Array Value → Option Value → Pt → Prop} {PostX : Pt → Array Value → Addr → Pt → Prop} (hK : vx_Back l R p e below s args y 3 W9 Pre Post PostX)
    {g : JFrame} (hg : g.method = m) (hsize : g.locals.size = c.maxLocals) {argsL rest : List Value} (hlen : ∀ sig, parseMethodDescriptor y.desc = some sig → argsL.length = sig.parameters.length)
    (hstack : g.stack = argsL.reverse ++ rest) (hW : 2 * g.monitorRoom + (rest.map fun v => v.category).sum ≤ W9) (hdg : decode c.code g.pc = .ok (.invokestatic index, 3))
    (hpre : ∀ vm₁, s.WarmedH vm₁ → Pre ⟨T.setVm vm₁, locs, cells, slots⟩ argsL.toArray) :
    (∃ (v : Option Value) (vm₁ : Vm) (B : Pt), s.WarmedH vm₁ ∧ Stand p l e R s m args below meth c B.U B.locs B.cells B.slots ∧ Post ⟨T.setVm vm₁, locs, cells, slots⟩ argsL.toArray v B ∧
      ∀ target, Steps p.tables e below (B.U.setTop { g with pc := g.pc + 3, stack := v.toList ++ rest }) target → Steps p.tables e below (T.setTop g) target) ∨
    (∃ (q : Addr) (vm₁ : Vm) (B : Pt), s.WarmedH vm₁ ∧ Stand p l e R s m args below meth c B.U B.locs B.cells B.slots ∧ PostX ⟨T.setVm vm₁, locs, cells, slots⟩ argsL.toArray q B ∧
      Steps p.tables e below (T.setTop g) ((B.U.setTop { g with stack := rest }).pushFrame (.throwing q))) := by
  obtain ⟨mk, hnamed⟩ := Cond.code_named hcode
  obtain ⟨methM, cM, hmethM, -, -, -, -, -, -, hsigM⟩ := Cond.code_spec hnamed hcode
  have hstatic : methM.isStatic = true := Cond.static_spec hnamed hmethM hstat
  obtain ⟨kP, hkP, -⟩ := className_of_methodNamed hnamed
  have hinitP : kP.init = .initialized := Cond.initialized_spec (findClass_of_methodNamed hnamed) hkP hinit
  obtain ⟨vm₁, X₁, hstep₁⟩ := X.invokestatic hexec hown hlink hnamed hmethM hstatic hkP hinitP hy (g := g) hg (argsL := argsL) (rest := rest) (hlen _ hsigM) hstack hdg
  rcases hK m meth c ⟨T.setVm vm₁, locs, cells, slots⟩ { g with stack := rest } (.invokestatic index) mk argsL.toArray X₁ hg hsize hdg hW (X₁.named hnamed) (hpre vm₁ X₁.warmed) with ⟨v, B, X', hpost, hsteps⟩ | ⟨q, B, X', hpost, hsteps⟩
  · exact Or.inl ⟨v, vm₁, B, X₁.warmed, X', hpost, fun target h => hstep₁ _ fun acts => by rw [doInvoke_state]; exact hsteps.trans h⟩
  · exact Or.inr ⟨q, vm₁, B, X₁.warmed, X', hpost, hstep₁ _ fun acts => by rw [doInvoke_state]; exact hsteps⟩
end Calls
theorem vx_cls {s : State} {T : State} {vm₁ : Vm} {E : String} {k : ClassId} (hW : s.WarmedH vm₁) (h : (T.setVm vm₁).vm.findClass E = some k) : s.vm.findClass E = some k := by
  have h1 : vm₁.findClass E = some k := h
  rw [hW.alike.findClass] at h1
  exact h1
/-- the method's frame g, with q thrown over it -/
def vx_W (p : Program) (l : Launch) (e : Env) (R : Room) (s : State) (m : MethodId) (args : Array Value) (below : List Frame) (meth : Method) (c : Code) (H : Heap) (locs : List Loc) (cells slots : Nat) (Q : State → Prop) (g : JFrame) (q : Addr) : Prop :=
  ∀ T : State, T.heap = H → Stand p l e R s m args below meth c T locs cells slots → ∃ t, Steps p.tables e below ((T.setTop g).pushFrame (.throwing q)) t ∧ Q t
def vx_Run (p : Program) (l : Launch) (e : Env) (R : Room) (s : State) (m : MethodId) (args : Array Value) (below : List Frame) (meth : Method) (c : Code) (H : Heap) (locs : List Loc) (cells slots mc ms : Nat) (g : JFrame) (rest : List Value) (Qa : State → Outcome → State → Prop) (XC : String → State → State → Prop) (free : Addr → Prop) : Prop :=
  ∀ T : State, T.heap = H → Stand p l e R s m args below meth c T locs cells slots →
    (∃ (v : Option Value) (st₀ t T' : State) (L : List Loc), st₀.heap = H ∧ Stand p l e R s m args below meth c T' (locs ++ L) (cells + mc) (slots + ms) ∧ (∀ q ∈ L, free q.base) ∧ T'.heap = t.heap ∧ T'.vm = t.vm ∧ Qa st₀ (.returned v) t ∧
      Goes p e below T g T' { g with pc := g.pc + 3, stack := v.toList ++ rest }) ∨
    (∃ (q : Addr) (st₀ t T' : State) (L : List Loc) (E : String) (ce : Cell), st₀.heap = H ∧ Stand p l e R s m args below meth c T' (locs ++ L) (cells + mc) (slots + ms) ∧ (∀ z ∈ L, free z.base) ∧ T'.heap = t.heap ∧ T'.vm = t.vm ∧ XC E st₀ t ∧ t.heap[q]? = some ce ∧ ce.vm = .none ∧ s.vm.findClass E = some ce.cls ∧
      Steps p.tables e below (T.setTop g) ((T'.setTop { g with stack := rest }).pushFrame (.throwing q)))
def vx_X {S : Type} (px : S → Prop) (B : String → S → State → Prop) (A : Nat → Prop) : String → State → State → Prop := fun E st t => ∃ u : S, px u ∧ B E u t ∧ va_F A st t
section Runs
variable {p : Program} {l : Launch} {e : Env} {R : Room} {s : State} {m : MethodId} {args : Array Value} {below : List Frame} {meth : Method} {c : Code} {H : Heap} {locs : List Loc} {cells slots : Nat}
variable {y : MethodName} {bytes cc : ByteArray} {maxL nL mc ms n index : Nat} {ret : Option FieldType} {ws : List Cond} {rm : Room} {Pc : Array Value → State → Prop} {Qc : Array Value → State → Outcome → State → Prop} {XC : String → State → State → Prop} {free : Addr → Prop} {Ts : List Cond} {own C : String} {b : Addr} {As rest : List Value} {g : JFrame}
theorem vx_callBack (cb : CallB R s args own index y bytes maxL ret ws rm mc ms n) (hM : vx_Met l y ws rm Pc Qc XC mc ms free) (hbl : FrameBlind Pc) : vx_Back l R p e below s args y 3 8 (PreOf R mc ms Pc) (PostOf Qc mc ms free) (vx_Post XC mc ms free) := by
  obtain ⟨hrc, hrs, hfr, hlo, hws, hcw, -, hini, -⟩ := cb
  exact vx_back (bytes := bytes) (maxL := maxL) (ret := ret) hM hbl hrc hrs hfr hlo hws hcw (fun a' U hW => word_at hW (Or.inl (by first | rfl | simp [Cond.onTables, Cond.keeps, Cond.steady])) hini)
theorem vx_runV (S : CallFix p m c cc nL s args Ts own) (hM : vx_Met l y ws rm Pc Qc XC mc ms free) (cw : CallW R s args own C index y bytes maxL ret ws rm mc ms n) (hp : PreV s H C b Pc As)
    (hg : g.method = m) (hn : As.length = n) (hsize : g.locals.size = nL) (hstack : g.stack = As.reverse ++ .ref b :: rest) (hW : 2 * g.monitorRoom + (rest.map fun v => v.category).sum ≤ 8) (hdg : decode cc g.pc = .ok (.invokevirtual index, 3)) (hf : cells + mc ≤ R.cells ∧ slots + ms ≤ R.slots) :
    vx_Run p l e R s m args below meth c H locs cells slots mc ms g rest (Qc (Value.ref b :: As).toArray) XC free := by
  have hK : vx_Back l R p e below s args y 3 8 (PreOf R mc ms Pc) (PostOf Qc mc ms free) (vx_Post XC mc ms free) := vx_callBack cw.1 hM hp.1
  obtain ⟨⟨-, -, -, -, -, -, hcode, -, hy, hlen, hl⟩, hin, hse⟩ := cw
  obtain ⟨hx, hb, hml, ho, -⟩ := S
  obtain ⟨-, ⟨cellB, hcB, hoB, hclB⟩, hPc⟩ := hp
  intro T hT X
  rcases vx_callV X hx (C := C) (bytes := bytes) (maxL := maxL) (ret := ret) ho hl hin hse hcode hy hK (by rw [hT]; exact hcB) hoB hclB hg (hsize.trans hml.symm) (argsL := As) (rest := rest) (fun sig h => hn.trans (hlen sig h)) hstack hW (by rw [hb]; exact hdg)
    (fun vm₁ hW₁ => ⟨hf.1, hf.2, hPc (T.setVm vm₁) hT hW₁⟩) with ⟨v, vm₁, ⟨U', l2, c2, s2⟩, hW₁, X', ⟨g', mk, t, L, e1, e2, hq, h1, hL, h2, h3⟩, st⟩ | ⟨q, vm₁, ⟨U', l2, c2, s2⟩, hW₁, X', ⟨g', mk, t, L, E, ce, e1, e2, hq, hce, hcv, hcl, h1, hL, h2, h3⟩, st⟩
  · dsimp only [Pt.U, Pt.locs, Pt.cells, Pt.slots] at X' e1 e2 h1 h2 h3 st
    subst h1; subst h2; subst h3
    exact Or.inl ⟨v, (T.setVm vm₁).calling g' mk (Value.ref b :: As).toArray, t, U', L, hT, X', hL, e1, e2, hq, st⟩
  · dsimp only [Pt.U, Pt.locs, Pt.cells, Pt.slots] at X' e1 e2 h1 h2 h3 st hcl
    subst h1; subst h2; subst h3
    exact Or.inr ⟨q, (T.setVm vm₁).calling g' mk (Value.ref b :: As).toArray, t, U', L, E, ce, hT, X', hL, e1, e2, hq, hce, hcv, vx_cls hW₁ hcl, st⟩
theorem vx_runS (S : CallFix p m c cc nL s args Ts own) (hM : vx_Met l y ws rm Pc Qc XC mc ms free) (cw : CallB R s args own index y bytes maxL ret ws rm mc ms n ∧ (Cond.static y).before args s = true) (hp : PreS s H Pc As)
    (hg : g.method = m) (hn : As.length = n) (hsize : g.locals.size = nL) (hstack : g.stack = As.reverse ++ rest) (hW : 2 * g.monitorRoom + (rest.map fun v => v.category).sum ≤ 8) (hdg : decode cc g.pc = .ok (.invokestatic index, 3)) (hf : cells + mc ≤ R.cells ∧ slots + ms ≤ R.slots) :
    vx_Run p l e R s m args below meth c H locs cells slots mc ms g rest (Qc As.toArray) XC free := by
  have hK : vx_Back l R p e below s args y 3 8 (PreOf R mc ms Pc) (PostOf Qc mc ms free) (vx_Post XC mc ms free) := vx_callBack cw.1 hM hp.1
  obtain ⟨⟨-, -, -, -, -, -, hcode, hini, hy, hlen, hl⟩, hstt⟩ := cw
  obtain ⟨hx, hb, hml, ho, -⟩ := S
  intro T hT X
  rcases vx_callS X hx (bytes := bytes) (maxL := maxL) (ret := ret) ho hl hstt hini hcode hy hK hg (hsize.trans hml.symm) (argsL := As) (rest := rest) (fun sig h => hn.trans (hlen sig h)) hstack hW (by rw [hb]; exact hdg)
    (fun vm₁ hW₁ => ⟨hf.1, hf.2, hp.2 (T.setVm vm₁) hT hW₁⟩) with ⟨v, vm₁, ⟨U', l2, c2, s2⟩, hW₁, X', ⟨g', mk, t, L, e1, e2, hq, h1, hL, h2, h3⟩, st⟩ | ⟨q, vm₁, ⟨U', l2, c2, s2⟩, hW₁, X', ⟨g', mk, t, L, E, ce, e1, e2, hq, hce, hcv, hcl, h1, hL, h2, h3⟩, st⟩
  · dsimp only [Pt.U, Pt.locs, Pt.cells, Pt.slots] at X' e1 e2 h1 h2 h3 st
    subst h1; subst h2; subst h3
    exact Or.inl ⟨v, (T.setVm vm₁).calling g' mk As.toArray, t, U', L, hT, X', hL, e1, e2, hq, st⟩
  · dsimp only [Pt.U, Pt.locs, Pt.cells, Pt.slots] at X' e1 e2 h1 h2 h3 st hcl
    subst h1; subst h2; subst h3
    exact Or.inr ⟨q, (T.setVm vm₁).calling g' mk As.toArray, t, U', L, E, ce, hT, X', hL, e1, e2, hq, hce, hcv, vx_cls hW₁ hcl, st⟩
end Runs
section Rows
variable {p : Program} {l : Launch} {e : Env} {R : Room} {s : State} {m : MethodId} {args : Array Value} {below : List Frame} {meth : Method} {c : Code} {H : Heap} {locs : List Loc} {cells slots : Nat} {Q : State → Prop}
variable {mc ms : Nat} {free : Addr → Prop} {A0 A1 : Nat → Prop} {H0 : Heap} {a : Array Value} {pc : Nat} {ls : Array Slot} {st0 rest : List Value}
theorem vx_keep {st₀ t T' : State} {L : List Loc} (h0 : st₀.heap = H) (e1 : T'.heap = t.heap) (hS : va_S A0 H0 H locs) (hA : ∀ q, q < H.size → A1 q → A0 q) (hf : ∀ q, free q → A0 q) (hL : ∀ q ∈ L, free q.base) (hF : va_F A1 st₀ t) :
    H.size ≤ T'.heap.size ∧ (∀ q : Nat, q < H.size → ¬ A1 q → T'.heap[q]? = H[q]?) ∧ va_S A0 H0 T'.heap (locs ++ L) := by
  obtain ⟨hz, hk⟩ := hF
  rw [h0] at hz hk
  exact ⟨by rw [e1]; exact hz, fun q h1 h2 => by rw [e1]; exact hk q h1 h2,
    ⟨Nat.le_trans hS.1 (by rw [e1]; exact hz), fun q h1 h2 => by rw [e1, hk q (Nat.lt_of_lt_of_le h1 hS.1) (fun z => h2 (hA q (Nat.lt_of_lt_of_le h1 hS.1) z))]; exact hS.2.1 q h1 h2, fun q hq => by
      rcases List.mem_append.mp hq with h | h
      · exact hS.2.2 q h
      · exact hf _ (hL q h)⟩⟩
theorem vx_calli {S SX : Type} {post : Int32 → S → Prop} {px : SX → Prop} {B : S → State → Prop} {BX : String → SX → State → Prop} {AX : Nat → Prop} (hr : vx_Run p l e R s m args below meth c H locs cells slots mc ms (F0 m pc ls st0) rest (va_Qi post B A1 a) (vx_X px BX AX) free) (hS : va_S A0 H0 H locs) (hA : ∀ q, q < H.size → A1 q → A0 q) (hf : ∀ q, free q → A0 q) (hAX : ∀ q, q < H.size → AX q → A0 q)
    (kx : ∀ (E : String) (ce : Cell) (q9 : Addr) (u : SX) (t : State) (H1 : Heap) (locs1 : List Loc), t.heap = H1 → s.vm.Alike t.vm → px u → BX E u t → H.size ≤ H1.size → (∀ q : Nat, q < H.size → ¬ AX q → H1[q]? = H[q]?) → va_S A0 H0 H1 locs1 → H1[q9]? = some ce → ce.vm = .none → s.vm.findClass E = some ce.cls → vx_W p l e R s m args below meth c H1 locs1 (cells + mc) (slots + ms) Q (F0 m pc ls rest) q9)
    (kk : ∀ (r : Int32) (u : S) (t : State) (H1 : Heap) (locs1 : List Loc), t.heap = H1 → s.vm.Alike t.vm → post r u → B u t → H.size ≤ H1.size → (∀ q : Nat, q < H.size → ¬ A1 q → H1[q]? = H[q]?) → va_S A0 H0 H1 locs1 → W p l e R s m args below meth c H1 locs1 (cells + mc) (slots + ms) Q (F0 m (pc + 3) ls (.int r :: rest))) : W p l e R s m args below meth c H locs cells slots Q (F0 m pc ls st0) := by
  intro T hT X
  rcases hr T hT X with ⟨v, st₀, t, T', L, h0, X', hL, e1, e2, ⟨⟨r, u, hv, hp, hb⟩, hF⟩, st⟩ | ⟨q, st₀, t, T', L, E, ce, h0, X', hL, e1, e2, ⟨u, hp, hb, hF⟩, hce, hcv, hcl, st⟩
  · cases hv
    obtain ⟨k1, k2, k3⟩ := vx_keep h0 e1 hS hA hf hL hF
    obtain ⟨t2, a1, b1⟩ := kk r u t T'.heap (locs ++ L) e1.symm (by rw [← e2]; exact X'.warmed.alike) hp hb k1 k2 k3 T' rfl X'
    exact ⟨t2, st t2 a1, b1⟩
  · obtain ⟨k1, k2, k3⟩ := vx_keep h0 e1 hS hAX hf hL hF
    obtain ⟨t2, a1, b1⟩ := kx E ce q u t T'.heap (locs ++ L) e1.symm (by rw [← e2]; exact X'.warmed.alike) hp hb k1 k2 k3 (by rw [e1]; exact hce) hcv hcl T' rfl X'
    exact ⟨t2, st.trans a1, b1⟩
theorem vx_calll {S SX : Type} {post : Int64 → S → Prop} {px : SX → Prop} {B : S → State → Prop} {BX : String → SX → State → Prop} {AX : Nat → Prop} (hr : vx_Run p l e R s m args below meth c H locs cells slots mc ms (F0 m pc ls st0) rest (va_Ql post B A1 a) (vx_X px BX AX) free) (hS : va_S A0 H0 H locs) (hA : ∀ q, q < H.size → A1 q → A0 q) (hf : ∀ q, free q → A0 q) (hAX : ∀ q, q < H.size → AX q → A0 q)
    (kx : ∀ (E : String) (ce : Cell) (q9 : Addr) (u : SX) (t : State) (H1 : Heap) (locs1 : List Loc), t.heap = H1 → s.vm.Alike t.vm → px u → BX E u t → H.size ≤ H1.size → (∀ q : Nat, q < H.size → ¬ AX q → H1[q]? = H[q]?) → va_S A0 H0 H1 locs1 → H1[q9]? = some ce → ce.vm = .none → s.vm.findClass E = some ce.cls → vx_W p l e R s m args below meth c H1 locs1 (cells + mc) (slots + ms) Q (F0 m pc ls rest) q9)
    (kk : ∀ (r : Int64) (u : S) (t : State) (H1 : Heap) (locs1 : List Loc), t.heap = H1 → s.vm.Alike t.vm → post r u → B u t → H.size ≤ H1.size → (∀ q : Nat, q < H.size → ¬ A1 q → H1[q]? = H[q]?) → va_S A0 H0 H1 locs1 → W p l e R s m args below meth c H1 locs1 (cells + mc) (slots + ms) Q (F0 m (pc + 3) ls (.long r :: rest))) : W p l e R s m args below meth c H locs cells slots Q (F0 m pc ls st0) := by
  intro T hT X
  rcases hr T hT X with ⟨v, st₀, t, T', L, h0, X', hL, e1, e2, ⟨⟨r, u, hv, hp, hb⟩, hF⟩, st⟩ | ⟨q, st₀, t, T', L, E, ce, h0, X', hL, e1, e2, ⟨u, hp, hb, hF⟩, hce, hcv, hcl, st⟩
  · cases hv
    obtain ⟨k1, k2, k3⟩ := vx_keep h0 e1 hS hA hf hL hF
    obtain ⟨t2, a1, b1⟩ := kk r u t T'.heap (locs ++ L) e1.symm (by rw [← e2]; exact X'.warmed.alike) hp hb k1 k2 k3 T' rfl X'
    exact ⟨t2, st t2 a1, b1⟩
  · obtain ⟨k1, k2, k3⟩ := vx_keep h0 e1 hS hAX hf hL hF
    obtain ⟨t2, a1, b1⟩ := kx E ce q u t T'.heap (locs ++ L) e1.symm (by rw [← e2]; exact X'.warmed.alike) hp hb k1 k2 k3 (by rw [e1]; exact hce) hcv hcl T' rfl X'
    exact ⟨t2, st.trans a1, b1⟩
theorem vx_callf {S SX : Type} {post : UInt32 → S → Prop} {px : SX → Prop} {B : S → State → Prop} {BX : String → SX → State → Prop} {AX : Nat → Prop} (hr : vx_Run p l e R s m args below meth c H locs cells slots mc ms (F0 m pc ls st0) rest (va_Qf post B A1 a) (vx_X px BX AX) free) (hS : va_S A0 H0 H locs) (hA : ∀ q, q < H.size → A1 q → A0 q) (hf : ∀ q, free q → A0 q) (hAX : ∀ q, q < H.size → AX q → A0 q)
    (kx : ∀ (E : String) (ce : Cell) (q9 : Addr) (u : SX) (t : State) (H1 : Heap) (locs1 : List Loc), t.heap = H1 → s.vm.Alike t.vm → px u → BX E u t → H.size ≤ H1.size → (∀ q : Nat, q < H.size → ¬ AX q → H1[q]? = H[q]?) → va_S A0 H0 H1 locs1 → H1[q9]? = some ce → ce.vm = .none → s.vm.findClass E = some ce.cls → vx_W p l e R s m args below meth c H1 locs1 (cells + mc) (slots + ms) Q (F0 m pc ls rest) q9)
    (kk : ∀ (r : UInt32) (u : S) (t : State) (H1 : Heap) (locs1 : List Loc), t.heap = H1 → s.vm.Alike t.vm → post r u → B u t → H.size ≤ H1.size → (∀ q : Nat, q < H.size → ¬ A1 q → H1[q]? = H[q]?) → va_S A0 H0 H1 locs1 → W p l e R s m args below meth c H1 locs1 (cells + mc) (slots + ms) Q (F0 m (pc + 3) ls (.float r :: rest))) : W p l e R s m args below meth c H locs cells slots Q (F0 m pc ls st0) := by
  intro T hT X
  rcases hr T hT X with ⟨v, st₀, t, T', L, h0, X', hL, e1, e2, ⟨⟨r, u, hv, hp, hb⟩, hF⟩, st⟩ | ⟨q, st₀, t, T', L, E, ce, h0, X', hL, e1, e2, ⟨u, hp, hb, hF⟩, hce, hcv, hcl, st⟩
  · cases hv
    obtain ⟨k1, k2, k3⟩ := vx_keep h0 e1 hS hA hf hL hF
    obtain ⟨t2, a1, b1⟩ := kk r u t T'.heap (locs ++ L) e1.symm (by rw [← e2]; exact X'.warmed.alike) hp hb k1 k2 k3 T' rfl X'
    exact ⟨t2, st t2 a1, b1⟩
  · obtain ⟨k1, k2, k3⟩ := vx_keep h0 e1 hS hAX hf hL hF
    obtain ⟨t2, a1, b1⟩ := kx E ce q u t T'.heap (locs ++ L) e1.symm (by rw [← e2]; exact X'.warmed.alike) hp hb k1 k2 k3 (by rw [e1]; exact hce) hcv hcl T' rfl X'
    exact ⟨t2, st.trans a1, b1⟩
theorem vx_calld {S SX : Type} {post : UInt64 → S → Prop} {px : SX → Prop} {B : S → State → Prop} {BX : String → SX → State → Prop} {AX : Nat → Prop} (hr : vx_Run p l e R s m args below meth c H locs cells slots mc ms (F0 m pc ls st0) rest (va_Qd post B A1 a) (vx_X px BX AX) free) (hS : va_S A0 H0 H locs) (hA : ∀ q, q < H.size → A1 q → A0 q) (hf : ∀ q, free q → A0 q) (hAX : ∀ q, q < H.size → AX q → A0 q)
    (kx : ∀ (E : String) (ce : Cell) (q9 : Addr) (u : SX) (t : State) (H1 : Heap) (locs1 : List Loc), t.heap = H1 → s.vm.Alike t.vm → px u → BX E u t → H.size ≤ H1.size → (∀ q : Nat, q < H.size → ¬ AX q → H1[q]? = H[q]?) → va_S A0 H0 H1 locs1 → H1[q9]? = some ce → ce.vm = .none → s.vm.findClass E = some ce.cls → vx_W p l e R s m args below meth c H1 locs1 (cells + mc) (slots + ms) Q (F0 m pc ls rest) q9)
    (kk : ∀ (r : UInt64) (u : S) (t : State) (H1 : Heap) (locs1 : List Loc), t.heap = H1 → s.vm.Alike t.vm → post r u → B u t → H.size ≤ H1.size → (∀ q : Nat, q < H.size → ¬ A1 q → H1[q]? = H[q]?) → va_S A0 H0 H1 locs1 → W p l e R s m args below meth c H1 locs1 (cells + mc) (slots + ms) Q (F0 m (pc + 3) ls (.double r :: rest))) : W p l e R s m args below meth c H locs cells slots Q (F0 m pc ls st0) := by
  intro T hT X
  rcases hr T hT X with ⟨v, st₀, t, T', L, h0, X', hL, e1, e2, ⟨⟨r, u, hv, hp, hb⟩, hF⟩, st⟩ | ⟨q, st₀, t, T', L, E, ce, h0, X', hL, e1, e2, ⟨u, hp, hb, hF⟩, hce, hcv, hcl, st⟩
  · cases hv
    obtain ⟨k1, k2, k3⟩ := vx_keep h0 e1 hS hA hf hL hF
    obtain ⟨t2, a1, b1⟩ := kk r u t T'.heap (locs ++ L) e1.symm (by rw [← e2]; exact X'.warmed.alike) hp hb k1 k2 k3 T' rfl X'
    exact ⟨t2, st t2 a1, b1⟩
  · obtain ⟨k1, k2, k3⟩ := vx_keep h0 e1 hS hAX hf hL hF
    obtain ⟨t2, a1, b1⟩ := kx E ce q u t T'.heap (locs ++ L) e1.symm (by rw [← e2]; exact X'.warmed.alike) hp hb k1 k2 k3 (by rw [e1]; exact hce) hcv hcl T' rfl X'
    exact ⟨t2, st.trans a1, b1⟩
theorem vx_callv {S SX : Type} {post : S → Prop} {px : SX → Prop} {B : S → State → Prop} {BX : String → SX → State → Prop} {AX : Nat → Prop} (hr : vx_Run p l e R s m args below meth c H locs cells slots mc ms (F0 m pc ls st0) rest (va_Qv post B A1 a) (vx_X px BX AX) free) (hS : va_S A0 H0 H locs) (hA : ∀ q, q < H.size → A1 q → A0 q) (hf : ∀ q, free q → A0 q) (hAX : ∀ q, q < H.size → AX q → A0 q)
    (kx : ∀ (E : String) (ce : Cell) (q9 : Addr) (u : SX) (t : State) (H1 : Heap) (locs1 : List Loc), t.heap = H1 → s.vm.Alike t.vm → px u → BX E u t → H.size ≤ H1.size → (∀ q : Nat, q < H.size → ¬ AX q → H1[q]? = H[q]?) → va_S A0 H0 H1 locs1 → H1[q9]? = some ce → ce.vm = .none → s.vm.findClass E = some ce.cls → vx_W p l e R s m args below meth c H1 locs1 (cells + mc) (slots + ms) Q (F0 m pc ls rest) q9)
    (kk : ∀ (u : S) (t : State) (H1 : Heap) (locs1 : List Loc), t.heap = H1 → s.vm.Alike t.vm → post u → B u t → H.size ≤ H1.size → (∀ q : Nat, q < H.size → ¬ A1 q → H1[q]? = H[q]?) → va_S A0 H0 H1 locs1 → W p l e R s m args below meth c H1 locs1 (cells + mc) (slots + ms) Q (F0 m (pc + 3) ls (rest))) : W p l e R s m args below meth c H locs cells slots Q (F0 m pc ls st0) := by
  intro T hT X
  rcases hr T hT X with ⟨v, st₀, t, T', L, h0, X', hL, e1, e2, ⟨⟨u, hv, hp, hb⟩, hF⟩, st⟩ | ⟨q, st₀, t, T', L, E, ce, h0, X', hL, e1, e2, ⟨u, hp, hb, hF⟩, hce, hcv, hcl, st⟩
  · cases hv
    obtain ⟨k1, k2, k3⟩ := vx_keep h0 e1 hS hA hf hL hF
    obtain ⟨t2, a1, b1⟩ := kk u t T'.heap (locs ++ L) e1.symm (by rw [← e2]; exact X'.warmed.alike) hp hb k1 k2 k3 T' rfl X'
    exact ⟨t2, st t2 a1, b1⟩
  · obtain ⟨k1, k2, k3⟩ := vx_keep h0 e1 hS hAX hf hL hF
    obtain ⟨t2, a1, b1⟩ := kx E ce q u t T'.heap (locs ++ L) e1.symm (by rw [← e2]; exact X'.warmed.alike) hp hb k1 k2 k3 (by rw [e1]; exact hce) hcv hcl T' rfl X'
    exact ⟨t2, st.trans a1, b1⟩
/-- caught by the row x of this method's table; the rows ahead don't take it -/
theorem vx_catch {own name : String} {E : String} {ce : Cell} {q : Addr} (hown : s.vm.findClass own = some m.cls) (pre : List ExceptionTableEntry) (x : ExceptionTableEntry) (suf : List ExceptionTableEntry) (hsplit : c.exceptionTable.toList = pre ++ x :: suf)
    (hpass : ∀ z ∈ pre, covers z pc = false ∨ (z.catchType ≠ 0 ∧ ∃ nm : String, (Cond.classLink own z.catchType nm).before args s = true ∧ va_Nc E nm s)) (hx : covers x pc = true) (h0 : x.catchType ≠ 0)
    (hlink : (Cond.classLink own x.catchType name).before args s = true) (hcast : (Cond.castable E name).before args s = true) (hcell : H[q]? = some ce) (hv : ce.vm = .none) (hcl : s.vm.findClass E = some ce.cls)
    (kk : W p l e R s m args below meth c H locs cells slots Q (F0 m x.handlerPc ls [.ref q])) : vx_W p l e R s m args below meth c H locs cells slots Q (F0 m pc ls rest) q := by
  intro T hT X
  have hpl : e.platform.magicAccessors = ({} : Platform).magicAccessors := by rw [X.admits.platform]
  obtain ⟨c3, c4, hc3, hc4, hasg⟩ := Cond.castable_spec hcast
  cases Option.some.inj (hc3.symm.trans hcl)
  obtain ⟨c5, hc5, hcl5⟩ := Cond.classLink_spec hown hlink e.platform hpl
  cases Option.some.inj (hc4.symm.trans hc5)
  obtain ⟨vm', X', st⟩ := X.thenCaughtThrough q (g := F0 m pc ls rest) rfl (Steps.refl _) (by rw [hT]; exact hcell) (by rw [hv]; rfl) (by obtain ⟨k9, h9, -⟩ := Vm.findClass_spec hcl; exact ⟨k9, h9⟩) pre x suf hsplit
    (fun z hz => by
      rcases hpass z hz with h | ⟨hz0, nm, hl1, hn1⟩
      · exact Or.inl h
      · obtain ⟨c6, hc6, hcl6⟩ := Cond.classLink_spec hown hl1 e.platform hpl
        obtain ⟨a8, b8, h1, h2, h3⟩ := hn1
        cases Option.some.inj (h1.symm.trans hcl)
        cases Option.some.inj (h2.symm.trans hc6)
        exact Or.inr ⟨hz0, _, hcl6, h3⟩) hx (Or.inr ⟨h0, c4, hcl5, hasg⟩)
  obtain ⟨t, a1, b1⟩ := kk (T.setVm vm') hT X'
  exact ⟨t, st.trans a1, b1⟩
end Rows
section Ends
variable {p : Program} {l : Launch} {e : Env} {R : Room} {s : State} {m : MethodId} {args : Array Value} {below : List Frame} {meth : Method} {c : Code} {H : Heap} {locs : List Loc} {cells slots : Nat} {Q : State → Prop}
variable {mc ms : Nat} {free : Addr → Prop} {A0 A1 : Nat → Prop} {H0 : Heap} {a : Array Value} {ls : Array Slot} {st0 rest : List Value}
variable {Qc : Array Value → State → Outcome → State → Prop} {XC : String → State → State → Prop}
/-- what a body that may throw owes at its end -/
def vx_MQ (below : List Frame) (Qc : Array Value → State → Outcome → State → Prop) (XC : String → State → State → Prop) (a : Array Value) (s : State) (mc ms : Nat) (free : Addr → Prop) : State → Prop := fun t =>
  ∃ o, t.status = .running ∧ Ended t below o ∧ vx_Q Qc XC mc ms free a s o t
theorem vx_ret {g : JFrame} {mc ms : Nat} (k : W p l e R s m args below meth c H locs cells slots (MQ below Qc args s mc ms free) g) : W p l e R s m args below meth c H locs cells slots (vx_MQ below Qc XC args s mc ms free) g := by
  intro T hT X
  obtain ⟨t, a1, o, b1, b2, b3, b4⟩ := k T hT X
  exact ⟨t, a1, o, b1, b2, Or.inl ⟨b3, b4⟩⟩
/-- not caught here: it goes on to the caller -/
theorem vx_widen {g : JFrame} {q : Addr} {k n : Nat} (h1 : cells ≤ k) (h2 : slots ≤ n) (kk : vx_W p l e R s m args below meth c H locs k n Q g q) : vx_W p l e R s m args below meth c H locs cells slots Q g q := fun T hT X => kk T hT (stand_widen X h1 h2)
theorem vx_out {pc : Nat} {E : String} {ce : Cell} {q : Addr} {mc ms : Nat} (hout : ∀ x ∈ c.exceptionTable.toList, covers x pc = false) (hlocks : meth.locks = false) (hcell : H[q]? = some ce) (hv : ce.vm = .none) (hcl : s.vm.findClass E = some ce.cls)
    (hx : ∀ t : State, t.heap = H → s.vm.Alike t.vm → XC E s t) (hf : ∀ z ∈ locs, free z.base) (hc : cells ≤ mc) (hs : slots ≤ ms) :
    vx_W p l e R s m args below meth c H locs cells slots (vx_MQ below Qc XC args s mc ms free) (F0 m pc ls rest) q := by
  intro T hT X
  obtain ⟨st1, hrun, hend, hW, hsm⟩ := X.leaveThrown q (g := F0 m pc ls rest) rfl rfl rfl hout hlocks
  have hcell9 : (T.setFrames (.throwing q :: below)).heap[q]? = some ce := by
    show T.heap[q]? = some ce
    rw [hT]; exact hcell
  exact ⟨_, st1, .threw q, hrun, hend, Or.inr ⟨q, rfl, E, ce, locs, hx _ hT hW.alike, hcell9, hv, hcl, hW, hsm.mono hc hs, hf⟩⟩
theorem vx_frame {U : State} {k n : Nat} (h : s.sameButNew ({ U with vm := s.vm } : State) locs k n) : s.heap.size ≤ U.heap.size ∧ ∀ q : Nat, q < s.heap.size → (∀ z ∈ locs, z.base ≠ q) → U.heap[q]? = s.heap[q]? := by
  obtain ⟨-, h2, -, -, -, h6⟩ := h
  refine ⟨h2, fun q hq hz => ?_⟩
  obtain ⟨c9, e1, e2, e3, e4⟩ := h6 q _ (Array.getElem?_eq_getElem hq)
  have hs : c9.slots = (s.heap[q]).slots := Array.ext_getElem? fun i => e4 i fun hm => hz _ hm rfl
  have h9 : c9 = s.heap[q] := by
    rw [hs] at e2
    exact e2
  have e5 : U.heap[q]? = some c9 := e1
  rw [e5, h9, Array.getElem?_eq_getElem hq]
/-- the words of a throw but the four that speak of the heap -/
def vx_no (w : Cond) : Bool := decide (w ≠ .isRef (.static Bundle.tN "UNASSIGNED_STACK" Bundle.steD)) && decide (w ≠ .isRef (.static Bundle.tN "SUPPRESSED_SENTINEL" Bundle.listD)) && decide (w ≠ .laysStatic Bundle.tN "UNASSIGNED_STACK" Bundle.steD) && decide (w ≠ .laysStatic Bundle.tN "SUPPRESSED_SENTINEL" Bundle.listD)
def vx_at0 (own : String) (ic : Nat) (X : String) (names : List String) : List Cond := (Bundle.ownAtoms0 own ic X names).filter vx_no
def vx_atS (own : String) (ic : Nat) (X : String) (names : List String) : List Cond := (Bundle.ownAtoms own ic X names).filter vx_no
/-- a word that the tables alone decide, or a good one -/
def vx_ot (w : Cond) : Bool := w.onTables || goodWord w
theorem vx_ot_at {args a' : Array Value} {s U : State} {w : Cond} (hW : s.WarmedH U.vm) (hvm : s.vm = U.vm) (hg : vx_ot w = true) (h : w.before args s = true) : w.before a' U = true := by
  simp only [vx_ot, Bool.or_eq_true] at hg
  rcases hg with hg | hg
  · exact va_tabs hg hvm h
  · exact word_at hW (good_of_word hg) h
/-- a list's words: the good ones out of the method's own list, the others by premises of their own -/
theorem vx_hat {args : Array Value} {s : State} {L B : List Cond} (h1 : ∀ w ∈ L.filter goodWord, w.before args s = true) (h2 : ∀ w ∈ L.filter (fun w => !goodWord w), w ∈ B) (h3 : ∀ w ∈ B, w.before args s = true) : ∀ w ∈ L, w.before args s = true := by
  intro w hw
  by_cases g : goodWord w = true
  · exact h1 w (List.mem_filter.mpr ⟨hw, g⟩)
  · refine h3 w (h2 w (List.mem_filter.mpr ⟨hw, ?_⟩))
    show (!goodWord w) = true
    cases hgw : goodWord w
    · rfl
    · exact absurd hgw g
theorem vx_c {args : Array Value} {s : State} {w : Cond} {B : List Cond} (h : w.before args s = true) (t : ∀ w ∈ B, w.before args s = true) : ∀ w' ∈ w :: B, w'.before args s = true := fun w' h' => (List.mem_cons.mp h').elim (fun e => by rw [e]; exact h) (t w')
theorem vx_n {args : Array Value} {s : State} : ∀ w ∈ ([] : List Cond), w.before args s = true := fun _ h => nomatch h
theorem vx_own {args : Array Value} {s : State} {L : List Cond} (h1 : ∀ w ∈ L.filter vx_no, w.before args s = true)
    (hU : (Cond.isRef (.static Bundle.tN "UNASSIGNED_STACK" Bundle.steD)).before args s = true) (hN : (Cond.isRef (.static Bundle.tN "SUPPRESSED_SENTINEL" Bundle.listD)).before args s = true)
    (lU : (Cond.laysStatic Bundle.tN "UNASSIGNED_STACK" Bundle.steD).before args s = true) (lN : (Cond.laysStatic Bundle.tN "SUPPRESSED_SENTINEL" Bundle.listD).before args s = true) : ∀ w ∈ L, w.before args s = true := by
  intro w hw
  by_cases e1 : w = .isRef (.static Bundle.tN "UNASSIGNED_STACK" Bundle.steD)
  · rw [e1]; exact hU
  · by_cases e2 : w = .isRef (.static Bundle.tN "SUPPRESSED_SENTINEL" Bundle.listD)
    · rw [e2]; exact hN
    · by_cases e3 : w = .laysStatic Bundle.tN "UNASSIGNED_STACK" Bundle.steD
      · rw [e3]; exact lU
      · by_cases e4 : w = .laysStatic Bundle.tN "SUPPRESSED_SENTINEL" Bundle.listD
        · rw [e4]; exact lN
        · exact h1 w (List.mem_filter.mpr ⟨hw, by unfold vx_no; rw [decide_eq_true e1, decide_eq_true e2, decide_eq_true e3, decide_eq_true e4]; rfl⟩)
/-- where a static field lies, its class's statics cell in H -/
def vx_L (C n d : String) (A : Nat → Prop) (U : State) (H : Heap) : Prop := ∃ (c : ClassId) (k : Class) (i : Nat) (f : Field) (a : Nat) (cell : Cell), U.vm.findClass C = some c ∧ U.fieldFound? C n d = some (c, k, i, f) ∧ f.isStatic = true ∧ k.statics = some a ∧ H[a]? = some cell ∧ cell.vm.isStatics = true ∧ cell.cls = c ∧ f.slot < cell.slots.size ∧ k.staticTypes[f.slot]? = some f.type ∧ ¬ A a
theorem vx_L.moved {C n d : String} {A : Nat → Prop} {u U : State} {H : Heap} (hvm : u.vm.Alike U.vm) (h : vx_L C n d A u H) : vx_L C n d A U H := by
  obtain ⟨c, k, i, f, a, cell, h1, h2, h3, h4, h5, h6, h7, h8, h9, h10⟩ := h
  obtain ⟨k', hi', he⟩ := State.fieldFound?_setVm hvm h2
  exact ⟨c, k', i, f, a, cell, by rw [hvm.findClass]; exact h1, hi', h3, by rw [he]; exact h4, h5, h6, h7, h8, by rw [he]; exact h9, h10⟩
theorem vx_L.kept {C n d : String} {A : Nat → Prop} {U : State} {H H1 : Heap} (h : vx_L C n d A U H) (hq : ∀ a : Nat, a < H.size → ¬ A a → H1[a]? = H[a]?) : vx_L C n d A U H1 := by
  obtain ⟨c, k, i, f, a, cell, h1, h2, h3, h4, h5, h6, h7, h8, h9, h10⟩ := h
  exact ⟨c, k, i, f, a, cell, h1, h2, h3, h4, by rw [hq a (Array.getElem?_eq_some_iff.mp h5).1 h10]; exact h5, h6, h7, h8, h9, h10⟩
theorem vx_L.narrow {C n d : String} {A B : Nat → Prop} {U : State} {H : Heap} (h : vx_L C n d A U H) (hAB : ∀ q, B q → A q) : vx_L C n d B U H := by
  obtain ⟨c, k, i, f, a, cell, h1, h2, h3, h4, h5, h6, h7, h8, h9, h10⟩ := h
  exact ⟨c, k, i, f, a, cell, h1, h2, h3, h4, h5, h6, h7, h8, h9, fun z => h10 (hAB _ z)⟩
theorem vx_L.word {C n d : String} {A : Nat → Prop} {s : State} {args : Array Value} (h : vx_L C n d A s s.heap) : (Cond.laysStatic C n d).before args s = true := by
  obtain ⟨c, k, i, f, a, cell, h1, h2, h3, h4, h5, h6, h7, h8, h9, -⟩ := h
  show (Cond.laysStatic C n d).holds args s none s [] = true
  exact Cond.laysStatic_of h1 h2 h3 h4 h5 h6 h7 h8 h9
/-- .. and what it holds: null or some reference -/
def vx_Zq (C n d : String) (A : Nat → Prop) (U : State) (H : Heap) : Prop := va_Zq C n d A U H ∧ vx_L C n d A U H
theorem vx_Zq.moved {C n d : String} {A : Nat → Prop} {u U : State} {H : Heap} (hvm : u.vm.Alike U.vm) (h : vx_Zq C n d A u H) : vx_Zq C n d A U H := ⟨va_Zq.moved hvm h.1, vx_L.moved hvm h.2⟩
theorem vx_Zq.kept {C n d : String} {A : Nat → Prop} {U : State} {H H1 : Heap} (h : vx_Zq C n d A U H) (hq : ∀ a : Nat, a < H.size → ¬ A a → H1[a]? = H[a]?) : vx_Zq C n d A U H1 := ⟨va_Zq.kept h.1 hq, vx_L.kept h.2 hq⟩
theorem vx_Zq.narrow {C n d : String} {A B : Nat → Prop} {U : State} {H : Heap} (h : vx_Zq C n d A U H) (hAB : ∀ q, B q → A q) : vx_Zq C n d B U H := ⟨va_Zq.narrow h.1 hAB, vx_L.narrow h.2 hAB⟩
theorem vx_Zqof {args : Array Value} {s : State} {C n d : String} {A : Nat → Prop} (hl : (Cond.laysStatic C n d).before args s = true) (hini : (Cond.initialized C).before args s = true) (h : (Cond.isRef (.static C n d)).before args s = true) (hA : ∀ a : Nat, a < s.heap.size → ¬ A a) : vx_Zq C n d A s s.heap := by
  refine ⟨va_Zqof hl hini h hA, ?_⟩
  obtain ⟨c, k, i, f, a, cell, h1, h2, h3, h4, h5, h6, h7, h8, h9⟩ := Cond.laysStatic_spec hl
  exact ⟨c, k, i, f, a, cell, h1, h2, h3, h4, h5, h6, h7, h8, h9, hA a (Array.getElem?_eq_some_iff.mp h5).1⟩
theorem vx_isRef {C n d : String} {v : Value} {A : Nat → Prop} {s : State} {args : Array Value} (h : va_Z C n d v A s s.heap) (hv : v.isRef = true) : (Cond.isRef (.static C n d)).before args s = true := by
  obtain ⟨cf, kf, fi, f, a, cell, h1, h2, h3, h4, h5, h6, h7, -⟩ := h
  have he : (Term.static C n d).eval args s none [] s = some v := by
    simp [Term.eval, State.fieldNamed?, h1, h2, h4, h5, h6, h7]
  simp only [Cond.before, Cond.holds, Cond.value, he]
  cases v <;> simp_all [Value.isRef]
theorem vx_isRefq {C n d : String} {A : Nat → Prop} {s : State} {args : Array Value} (h : va_Zq C n d A s s.heap) : (Cond.isRef (.static C n d)).before args s = true := by
  rcases h with h | ⟨t, h⟩
  · exact vx_isRef h rfl
  · exact vx_isRef h rfl
/-- the same frame, seen from here: as if the method were called anew in this heap -/
theorem vx_rebase {T : State} (X : Stand p l e R s m args below meth c T locs cells slots) {R' : Room} (hf : R'.frames ≤ R.frames) (hl : R'.locals ≤ R.locals) (hc : cells + R'.cells ≤ R.cells) (hs : slots + R'.slots ≤ R.slots) :
    Stand p l e R' ((T.setVm s.vm).setFrames (.invoking m args :: below)) m args below meth c T [] 0 0 := by
  have htop : (T.setVm s.vm).topJava?.isSome := X.here.top
  have hF : ((T.setVm s.vm).setFrames (.invoking m args :: below)).frames = .invoking m args :: below := State.frames_setFrames _ (State.cur_lt_of_top htop)
  obtain ⟨g₀, hg0⟩ := Option.isSome_iff_exists.mp htop
  obtain ⟨r, hr⟩ := State.topJava?_eq_some.mp hg0
  have hl9 : e.platform.stackLimits (T.setVm s.vm).me = e.platform.stackLimits s.me := X.limits
  have hb9 : (T.setVm s.vm).me.stackBytes = s.me.stackBytes := X.bytes
  refine ⟨X.admits, X.cas, X.clock, hF, ?_, X.hears, X.method, X.code, X.here, X.tail, X.warmed, ?_, ?_, ?_⟩
  · have h := X.room
    have hU : ((T.setVm s.vm).setFrames (.invoking m args :: below)).localsInUse = s.localsInUse := by
      rw [State.localsInUse_invoking hF (meth := meth) (c := c) X.method X.code, State.localsInUse_invoking X.frames X.method X.code]
    simp only [State.hasRoom, Bool.and_eq_true, decide_eq_true_eq] at h ⊢
    obtain ⟨⟨⟨⟨h1, h2, h3, h4, h5, h6⟩, h7⟩, h8⟩, h9⟩ := h
    rw [X.frames, List.length_cons] at h2 h3
    have q1 := X.heapSize
    have q2 := X.used
    simp only [hF, hU, List.length_cons, State.stackLimits_setFrames, State.stackBytes_setFrames, hl9, hb9]
    refine ⟨⟨⟨⟨by omega, by omega, by omega, by omega, by omega, h6⟩, ?_⟩, ?_⟩, X.book⟩
    · show T.heap.size + R'.cells ≤ e.platform.maxCells
      omega
    · show T.slotsUsed + R'.slots ≤ e.platform.maxSlots
      omega
  · rw [State.stackLimits_setFrames]; rfl
  · rw [State.stackBytes_setFrames]; rfl
  · refine ⟨?_, Nat.le_refl _, Nat.le_refl _, ?_, ?_, fun a c9 h9 => ⟨c9, h9, rfl, rfl, fun _ _ => rfl⟩⟩
    · obtain ⟨t, ht, -⟩ := State.frames_cons hr
      show T.setVm s.vm = { ((T.setVm s.vm).setFrames (.invoking m args :: below)).setFrames (T.setVm s.vm).frames with heap := T.heap, slotsUsed := T.slotsUsed }
      rw [State.setFrames_setFrames, State.setFrames_self ht]
      rfl
    · show T.slotsUsed = T.slotsUsed + ((T.heap.toList.drop T.heap.size).map (·.slots.size)).sum
      rw [List.drop_eq_nil_of_le (Nat.le_of_eq Array.length_toList)]
      rfl
    · show ((T.heap.toList.drop T.heap.size).map (·.slots.size)).sum ≤ 0
      rw [List.drop_eq_nil_of_le (Nat.le_of_eq Array.length_toList)]
      exact Nat.le_refl _
/-- 'throw new E()': new; dup; invokespecial; athrow -/
theorem vx_throw0 {cc : ByteArray} {pc : Nat} (hexec : p.tables.exec = Jvm.exec) (hb : c.code = cc) (hl : l.stackTraces = false) {own cls : String} {names : List String} {ik ic mc ms : Nat} {A : Nat → Prop}
    (hown : s.vm.findClass own = some m.cls) (hcls : Bundle.fit cls = true) (hnames : ∀ n ∈ names, Bundle.fit n = true)
    (hk : (Cond.classLink own ik cls).before args s = true) (hini : (Cond.initialized cls).before args s = true) (hat : ∀ w ∈ vx_at0 own ic cls names, w.before args s = true)
    (hgood : ∀ w ∈ Cond.classLink own ik cls :: Cond.initialized cls :: vx_at0 own ic cls names, vx_ot w = true)
    (hU : vx_Zq Bundle.tN "UNASSIGNED_STACK" Bundle.steD A s s.heap) (hN : vx_Zq Bundle.tN "SUPPRESSED_SENTINEL" Bundle.listD A s s.heap) (hS : va_S A s.heap H locs) (hsize : ls.size = c.maxLocals)
    (d0 : decode cc pc = .ok (.new ik, 3)) (d3 : decode cc (pc + 3) = .ok (.dup, 1)) (d4 : decode cc (pc + 4) = .ok (.invokespecial ic, 3)) (d7 : decode cc (pc + 7) = .ok (.athrow, 1))
    (hout : ∀ x ∈ c.exceptionTable.toList, covers x (pc + 7) = false)
    (hRframes : names.length + 3 < R.frames) (hRlocals : (rest.map fun v => v.category).sum + (13 * (names.length + 1) + 42) ≤ R.locals) (hRcells : cells + 1 ≤ R.cells) (hRslots : slots + 6 ≤ R.slots) (hlocks : meth.locks = false)
    (hx : ∀ t : State, s.vm.Alike t.vm → H.size ≤ t.heap.size → (∀ q : Nat, q < H.size → t.heap[q]? = H[q]?) → XC cls s t)
    (hf : ∀ z ∈ locs, free z.base) (hc : cells + 1 ≤ mc) (hs : slots + 6 ≤ ms) :
    W p l e R s m args below meth c H locs cells slots (vx_MQ below Qc XC args s mc ms free) (F0 m pc ls rest) := by
  intro T hT X
  have htr : e.platform.stackTraces = false := (show e.platform.stackTraces = l.stackTraces by rw [X.admits.platform]).trans hl
  have Y := vx_rebase X (R' := { frames := R.frames, locals := R.locals, cells := 1, slots := 6 }) (Nat.le_refl _) (Nat.le_refl _) hRcells hRslots
  obtain ⟨s', hA⟩ : ∃ z, z = (T.setVm s.vm).setFrames (.invoking m args :: below) := ⟨_, rfl⟩
  rw [← hA] at Y
  have hvm : s'.vm = s.vm := by rw [hA]; rfl
  have hhp : s'.heap = H := by rw [hA]; exact hT
  have hW0 : s.WarmedH s'.vm := by rw [hvm]; exact State.WarmedH.refl s
  have hat' : ∀ w ∈ vx_at0 own ic cls names, w.before args s' = true := fun w hw => vx_ot_at hW0 hvm.symm (hgood w (List.mem_cons_of_mem _ (List.mem_cons_of_mem _ hw))) (hat w hw)
  have hk' : (Cond.classLink own ik cls).before args s' = true := vx_ot_at hW0 hvm.symm (hgood _ List.mem_cons_self) hk
  have hini' : (Cond.initialized cls).before args s' = true := vx_ot_at hW0 hvm.symm (hgood _ (List.mem_cons_of_mem _ List.mem_cons_self)) hini
  have hU' : vx_Zq Bundle.tN "UNASSIGNED_STACK" Bundle.steD A s' s'.heap := by rw [hhp]; exact vx_Zq.moved hW0.alike (hU.kept hS.2.1)
  have hN' : vx_Zq Bundle.tN "SUPPRESSED_SENTINEL" Bundle.listD A s' s'.heap := by rw [hhp]; exact vx_Zq.moved hW0.alike (hN.kept hS.2.1)
  have h : ∀ w ∈ Bundle.ownAtoms0 own ic cls names, w.before args s' = true := vx_own hat' (vx_isRefq hU'.1) (vx_isRefq hN'.1) hU'.2.word hN'.2.word
  have hown' : s'.vm.findClass own = some m.cls := by rw [hvm]; exact hown
  have hins : (Cond.instantiable cls 6).before args s' = true := h _ (by simp [Bundle.ownAtoms0])
  obtain ⟨vm₁, cX, kX, hfX, hkX, -, -, X₁, st1⟩ := Y.newCold hexec (own := own) (C := cls) (index := ik) (n := 6) hown' hk' hins hini'
    (g := F0 m pc ls rest) rfl (by rw [hb]; exact d0) (Nat.le_refl _) (Nat.le_refl _)
  generalize hT1 : (T.setVm vm₁).pushCell { cls := cX, slots := kX.instanceTypes.map defaultValue, vm := .none } = T1 at X₁ st1
  have hcat : (Value.ref T.heap.size).category = 1 := rfl
  have hcellA : T1.heap[T.heap.size]? = some (freshCell cX kX) := by rw [← hT1]; exact State.heap_pushCell_size _ _
  have d3' : decode c.code (pc + 3) = .ok (.dup, 1) := by rw [hb]; exact d3
  obtain ⟨U, hsteps, hrun, hend, hW, hsame, ce, hce, hO⟩ := X₁.ctorThrow0 hexec htr (own := own) (cls := cls) (names := names) (ic := ic) hown' hcls hnames h (fun x hx => nomatch hx) hfX hkX hcellA (by rw [hhp, hT]; exact Nat.le_refl _)
    (g := { method := m, pc := pc + 4, locals := ls, stack := .ref T.heap.size :: .ref T.heap.size :: rest, locked := none }) rfl hsize rfl rfl (rest := rest) rfl
    (by rw [hb]; exact d4) (by rw [hb]; exact d7) hout hRframes (by simp only [List.map_cons, List.sum_cons, hcat]; omega) hlocks
  obtain ⟨f1, f2⟩ := vx_frame hsame
  rw [hhp] at f1 f2
  have hWs : s.WarmedH U.vm := State.WarmedH.trans hW0 hW
  have hcl : s.vm.findClass cls = some ce.cls := by
    have h9 := hO.cls
    rw [hvm] at h9
    exact h9
  have hall : s.sameButNew ({ U with vm := s.vm } : State) locs mc ms := by
    subst hA
    obtain ⟨e1, e2⟩ := hsame
    rw [State.setFrames_setFrames] at e1
    have h2 : (T.setVm s.vm).sameButNew ({ U with vm := s.vm } : State) [] (0 + 1) (0 + 6) := ⟨e1, e2⟩
    have h3 := X.same.trans h2
    rw [List.append_nil] at h3
    exact h3.mono hc hs
  refine ⟨U, ?_, .threw T.heap.size, hrun, hend, Or.inr ⟨T.heap.size, rfl, cls, ce, locs, hx U hWs.alike f1 (fun q hq => f2 q hq (fun z hz => nomatch hz)), hce, hO.vm, hcl, hWs, hall, hf⟩⟩
  refine st1 _ ?_
  show Steps p.tables e below (T1.setTop { method := m, pc := pc + 3, locals := ls, stack := .ref T.heap.size :: rest, locked := none }) _
  jvm_step X₁.here [X₁.here.top, hexec, d3', Value.category]
  exact hsteps
/-- 'throw new E("text")': new; dup; ldc; invokespecial; athrow -/
theorem vx_throwS {cc : ByteArray} {pc : Nat} (hexec : p.tables.exec = Jvm.exec) (hb : c.code = cc) (hl : l.stackTraces = false) {own cls text : String} {names : List String} {ik is ic mc ms sa : Nat} {A : Nat → Prop}
    (hown : s.vm.findClass own = some m.cls) (hcls : Bundle.fit cls = true) (hnames : ∀ n ∈ names, Bundle.fit n = true)
    (hk : (Cond.classLink own ik cls).before args s = true) (hini : (Cond.initialized cls).before args s = true) (hstr : vk_R own is text sa s) (hat : ∀ w ∈ vx_atS own ic cls names, w.before args s = true)
    (hgood : ∀ w ∈ Cond.classLink own ik cls :: Cond.initialized cls :: vx_atS own ic cls names, vx_ot w = true)
    (hU : vx_Zq Bundle.tN "UNASSIGNED_STACK" Bundle.steD A s s.heap) (hN : vx_Zq Bundle.tN "SUPPRESSED_SENTINEL" Bundle.listD A s s.heap) (hS : va_S A s.heap H locs) (hsize : ls.size = c.maxLocals)
    (d0 : decode cc pc = .ok (.new ik, 3)) (d3 : decode cc (pc + 3) = .ok (.dup, 1)) (d4 : decode cc (pc + 4) = .ok (.ldc is, 2)) (d6 : decode cc (pc + 6) = .ok (.invokespecial ic, 3)) (d9 : decode cc (pc + 9) = .ok (.athrow, 1))
    (hout : ∀ x ∈ c.exceptionTable.toList, covers x (pc + 9) = false)
    (hRframes : names.length + 3 < R.frames) (hRlocals : (rest.map fun v => v.category).sum + (13 * (names.length + 1) + 43) ≤ R.locals) (hRcells : cells + 1 ≤ R.cells) (hRslots : slots + 6 ≤ R.slots) (hlocks : meth.locks = false)
    (hx : ∀ t : State, s.vm.Alike t.vm → H.size ≤ t.heap.size → (∀ q : Nat, q < H.size → t.heap[q]? = H[q]?) → XC cls s t)
    (hf : ∀ z ∈ locs, free z.base) (hc : cells + 1 ≤ mc) (hs : slots + 6 ≤ ms) :
    W p l e R s m args below meth c H locs cells slots (vx_MQ below Qc XC args s mc ms free) (F0 m pc ls rest) := by
  intro T hT X
  have htr : e.platform.stackTraces = false := (show e.platform.stackTraces = l.stackTraces by rw [X.admits.platform]).trans hl
  have Y := vx_rebase X (R' := { frames := R.frames, locals := R.locals, cells := 1, slots := 6 }) (Nat.le_refl _) (Nat.le_refl _) hRcells hRslots
  obtain ⟨s', hA⟩ : ∃ z, z = (T.setVm s.vm).setFrames (.invoking m args :: below) := ⟨_, rfl⟩
  rw [← hA] at Y
  have hvm : s'.vm = s.vm := by rw [hA]; rfl
  have hhp : s'.heap = H := by rw [hA]; exact hT
  have hW0 : s.WarmedH s'.vm := by rw [hvm]; exact State.WarmedH.refl s
  have hat' : ∀ w ∈ vx_atS own ic cls names, w.before args s' = true := fun w hw => vx_ot_at hW0 hvm.symm (hgood w (List.mem_cons_of_mem _ (List.mem_cons_of_mem _ hw))) (hat w hw)
  have hk' : (Cond.classLink own ik cls).before args s' = true := vx_ot_at hW0 hvm.symm (hgood _ List.mem_cons_self) hk
  have hini' : (Cond.initialized cls).before args s' = true := vx_ot_at hW0 hvm.symm (hgood _ (List.mem_cons_of_mem _ List.mem_cons_self)) hini
  have hU' : vx_Zq Bundle.tN "UNASSIGNED_STACK" Bundle.steD A s' s'.heap := by rw [hhp]; exact vx_Zq.moved hW0.alike (hU.kept hS.2.1)
  have hN' : vx_Zq Bundle.tN "SUPPRESSED_SENTINEL" Bundle.listD A s' s'.heap := by rw [hhp]; exact vx_Zq.moved hW0.alike (hN.kept hS.2.1)
  have h : ∀ w ∈ Bundle.ownAtoms own ic cls names, w.before args s' = true := vx_own hat' (vx_isRefq hU'.1) (vx_isRefq hN'.1) hU'.2.word hN'.2.word
  have hown' : s'.vm.findClass own = some m.cls := by rw [hvm]; exact hown
  have hins : (Cond.instantiable cls 6).before args s' = true := h _ (by simp [Bundle.ownAtoms])
  obtain ⟨vm₁, cX, kX, hfX, hkX, -, -, X₁, st1⟩ := Y.newCold hexec (own := own) (C := cls) (index := ik) (n := 6) hown' hk' hins hini'
    (g := F0 m pc ls rest) rfl (by rw [hb]; exact d0) (Nat.le_refl _) (Nat.le_refl _)
  generalize hT1 : (T.setVm vm₁).pushCell { cls := cX, slots := kX.instanceTypes.map defaultValue, vm := .none } = T1 at X₁ st1
  have hcat : (Value.ref T.heap.size).category = 1 := rfl
  have hcellA : T1.heap[T.heap.size]? = some (freshCell cX kX) := by rw [← hT1]; exact State.heap_pushCell_size _ _
  have d3' : decode c.code (pc + 3) = .ok (.dup, 1) := by rw [hb]; exact d3
  have d4' : decode c.code (pc + 4) = .ok (.ldc is, 2) := by rw [hb]; exact d4
  have hstr' : vk_R own is text sa s' := vk_R.warm hW0 hstr
  obtain ⟨U, hsteps, hrun, hend, hW, hsame, ce, hce, hO⟩ := X₁.ctorThrowS hexec htr (own := own) (cls := cls) (names := names) (ic := ic) hown' hcls hnames h (fun x hx => nomatch hx) hfX hkX hcellA (by rw [hhp, hT]; exact Nat.le_refl _) (msg := .ref sa) rfl
    (g := { method := m, pc := pc + 6, locals := ls, stack := .ref sa :: .ref T.heap.size :: .ref T.heap.size :: rest, locked := none }) rfl hsize rfl rfl (rest := rest) rfl
    (by rw [hb]; exact d6) (by rw [hb]; exact d9) hout hRframes (by simp only [List.map_cons, List.sum_cons, hcat]; omega) hlocks
  obtain ⟨f1, f2⟩ := vx_frame hsame
  rw [hhp] at f1 f2
  have hWs : s.WarmedH U.vm := State.WarmedH.trans hW0 hW
  have hcl : s.vm.findClass cls = some ce.cls := by
    have h9 := hO.cls
    rw [hvm] at h9
    exact h9
  have hall : s.sameButNew ({ U with vm := s.vm } : State) locs mc ms := by
    subst hA
    obtain ⟨e1, e2⟩ := hsame
    rw [State.setFrames_setFrames] at e1
    have h2 : (T.setVm s.vm).sameButNew ({ U with vm := s.vm } : State) [] (0 + 1) (0 + 6) := ⟨e1, e2⟩
    have h3 := X.same.trans h2
    rw [List.append_nil] at h3
    exact h3.mono hc hs
  refine ⟨U, ?_, .threw T.heap.size, hrun, hend, Or.inr ⟨T.heap.size, rfl, cls, ce, locs, hx U hWs.alike f1 (fun q hq => f2 q hq (fun z hz => nomatch hz)), hce, hO.vm, hcl, hWs, hall, hf⟩⟩
  refine st1 _ ?_
  show Steps p.tables e below (T1.setTop { method := m, pc := pc + 3, locals := ls, stack := .ref T.heap.size :: rest, locked := none }) _
  jvm_step X₁.here [X₁.here.top, hexec, d3', Value.category]
  exact X₁.ldcString hexec (own := own) (text := text) (index := is) (a := sa) hown' hstr'.1 hstr'.2
    (g := { method := m, pc := pc + 4, locals := ls, stack := .ref T.heap.size :: .ref T.heap.size :: rest, locked := none }) rfl d4' _ hsteps
/-- 'throw new E("text")', the text by a wide index -/
theorem vx_throwSW {cc : ByteArray} {pc : Nat} (hexec : p.tables.exec = Jvm.exec) (hb : c.code = cc) (hl : l.stackTraces = false) {own cls text : String} {names : List String} {ik is ic mc ms sa : Nat} {A : Nat → Prop}
    (hown : s.vm.findClass own = some m.cls) (hcls : Bundle.fit cls = true) (hnames : ∀ n ∈ names, Bundle.fit n = true)
    (hk : (Cond.classLink own ik cls).before args s = true) (hini : (Cond.initialized cls).before args s = true) (hstr : vk_R own is text sa s) (hat : ∀ w ∈ vx_atS own ic cls names, w.before args s = true)
    (hgood : ∀ w ∈ Cond.classLink own ik cls :: Cond.initialized cls :: vx_atS own ic cls names, vx_ot w = true)
    (hU : vx_Zq Bundle.tN "UNASSIGNED_STACK" Bundle.steD A s s.heap) (hN : vx_Zq Bundle.tN "SUPPRESSED_SENTINEL" Bundle.listD A s s.heap) (hS : va_S A s.heap H locs) (hsize : ls.size = c.maxLocals)
    (d0 : decode cc pc = .ok (.new ik, 3)) (d3 : decode cc (pc + 3) = .ok (.dup, 1)) (d4 : decode cc (pc + 4) = .ok (.ldc_w is, 3)) (d7 : decode cc (pc + 7) = .ok (.invokespecial ic, 3)) (d10 : decode cc (pc + 10) = .ok (.athrow, 1))
    (hout : ∀ x ∈ c.exceptionTable.toList, covers x (pc + 10) = false)
    (hRframes : names.length + 3 < R.frames) (hRlocals : (rest.map fun v => v.category).sum + (13 * (names.length + 1) + 43) ≤ R.locals) (hRcells : cells + 1 ≤ R.cells) (hRslots : slots + 6 ≤ R.slots) (hlocks : meth.locks = false)
    (hx : ∀ t : State, s.vm.Alike t.vm → H.size ≤ t.heap.size → (∀ q : Nat, q < H.size → t.heap[q]? = H[q]?) → XC cls s t)
    (hf : ∀ z ∈ locs, free z.base) (hc : cells + 1 ≤ mc) (hs : slots + 6 ≤ ms) :
    W p l e R s m args below meth c H locs cells slots (vx_MQ below Qc XC args s mc ms free) (F0 m pc ls rest) := by
  intro T hT X
  have htr : e.platform.stackTraces = false := (show e.platform.stackTraces = l.stackTraces by rw [X.admits.platform]).trans hl
  have Y := vx_rebase X (R' := { frames := R.frames, locals := R.locals, cells := 1, slots := 6 }) (Nat.le_refl _) (Nat.le_refl _) hRcells hRslots
  obtain ⟨s', hA⟩ : ∃ z, z = (T.setVm s.vm).setFrames (.invoking m args :: below) := ⟨_, rfl⟩
  rw [← hA] at Y
  have hvm : s'.vm = s.vm := by rw [hA]; rfl
  have hhp : s'.heap = H := by rw [hA]; exact hT
  have hW0 : s.WarmedH s'.vm := by rw [hvm]; exact State.WarmedH.refl s
  have hat' : ∀ w ∈ vx_atS own ic cls names, w.before args s' = true := fun w hw => vx_ot_at hW0 hvm.symm (hgood w (List.mem_cons_of_mem _ (List.mem_cons_of_mem _ hw))) (hat w hw)
  have hk' : (Cond.classLink own ik cls).before args s' = true := vx_ot_at hW0 hvm.symm (hgood _ List.mem_cons_self) hk
  have hini' : (Cond.initialized cls).before args s' = true := vx_ot_at hW0 hvm.symm (hgood _ (List.mem_cons_of_mem _ List.mem_cons_self)) hini
  have hU' : vx_Zq Bundle.tN "UNASSIGNED_STACK" Bundle.steD A s' s'.heap := by rw [hhp]; exact vx_Zq.moved hW0.alike (hU.kept hS.2.1)
  have hN' : vx_Zq Bundle.tN "SUPPRESSED_SENTINEL" Bundle.listD A s' s'.heap := by rw [hhp]; exact vx_Zq.moved hW0.alike (hN.kept hS.2.1)
  have h : ∀ w ∈ Bundle.ownAtoms own ic cls names, w.before args s' = true := vx_own hat' (vx_isRefq hU'.1) (vx_isRefq hN'.1) hU'.2.word hN'.2.word
  have hown' : s'.vm.findClass own = some m.cls := by rw [hvm]; exact hown
  have hins : (Cond.instantiable cls 6).before args s' = true := h _ (by simp [Bundle.ownAtoms])
  obtain ⟨vm₁, cX, kX, hfX, hkX, -, -, X₁, st1⟩ := Y.newCold hexec (own := own) (C := cls) (index := ik) (n := 6) hown' hk' hins hini'
    (g := F0 m pc ls rest) rfl (by rw [hb]; exact d0) (Nat.le_refl _) (Nat.le_refl _)
  generalize hT1 : (T.setVm vm₁).pushCell { cls := cX, slots := kX.instanceTypes.map defaultValue, vm := .none } = T1 at X₁ st1
  have hcat : (Value.ref T.heap.size).category = 1 := rfl
  have hcellA : T1.heap[T.heap.size]? = some (freshCell cX kX) := by rw [← hT1]; exact State.heap_pushCell_size _ _
  have d3' : decode c.code (pc + 3) = .ok (.dup, 1) := by rw [hb]; exact d3
  have d4' : decode c.code (pc + 4) = .ok (.ldc_w is, 3) := by rw [hb]; exact d4
  have hstr' : vk_R own is text sa s' := vk_R.warm hW0 hstr
  obtain ⟨U, hsteps, hrun, hend, hW, hsame, ce, hce, hO⟩ := X₁.ctorThrowS hexec htr (own := own) (cls := cls) (names := names) (ic := ic) hown' hcls hnames h (fun x hx => nomatch hx) hfX hkX hcellA (by rw [hhp, hT]; exact Nat.le_refl _) (msg := .ref sa) rfl
    (g := { method := m, pc := pc + 7, locals := ls, stack := .ref sa :: .ref T.heap.size :: .ref T.heap.size :: rest, locked := none }) rfl hsize rfl rfl (rest := rest) rfl
    (by rw [hb]; exact d7) (by rw [hb]; exact d10) hout hRframes (by simp only [List.map_cons, List.sum_cons, hcat]; omega) hlocks
  obtain ⟨f1, f2⟩ := vx_frame hsame
  rw [hhp] at f1 f2
  have hWs : s.WarmedH U.vm := State.WarmedH.trans hW0 hW
  have hcl : s.vm.findClass cls = some ce.cls := by
    have h9 := hO.cls
    rw [hvm] at h9
    exact h9
  have hall : s.sameButNew ({ U with vm := s.vm } : State) locs mc ms := by
    subst hA
    obtain ⟨e1, e2⟩ := hsame
    rw [State.setFrames_setFrames] at e1
    have h2 : (T.setVm s.vm).sameButNew ({ U with vm := s.vm } : State) [] (0 + 1) (0 + 6) := ⟨e1, e2⟩
    have h3 := X.same.trans h2
    rw [List.append_nil] at h3
    exact h3.mono hc hs
  refine ⟨U, ?_, .threw T.heap.size, hrun, hend, Or.inr ⟨T.heap.size, rfl, cls, ce, locs, hx U hWs.alike f1 (fun q hq => f2 q hq (fun z hz => nomatch hz)), hce, hO.vm, hcl, hWs, hall, hf⟩⟩
  refine st1 _ ?_
  show Steps p.tables e below (T1.setTop { method := m, pc := pc + 3, locals := ls, stack := .ref T.heap.size :: rest, locked := none }) _
  jvm_step X₁.here [X₁.here.top, hexec, d3', Value.category]
  exact X₁.ldcStringW hexec (own := own) (text := text) (index := is) (a := sa) hown' hstr'.1 hstr'.2
    (g := { method := m, pc := pc + 4, locals := ls, stack := .ref T.heap.size :: .ref T.heap.size :: rest, locked := none }) rfl d4' _ hsteps
end Ends
section Bodies
variable {l : Launch}
theorem vx_ofW {y : MethodName} {ws ws' : List Cond} {rm : Room} {Pc : Array Value → State → Prop} {Qc : Array Value → State → Outcome → State → Prop} {XC : String → State → State → Prop} {mc ms : Nat} {free : Addr → Prop} {cc : ByteArray} {maxL : Nat} {ret : Option FieldType}
    (hy : plainName y.cls = true) (hw : ws = Cond.code y cc maxL ret :: ws')
    (body : ∀ p e s m args below meth c s₁, BodyLoose p l y (headSpec ws rm) cc maxL ret e s m args below meth c s₁ → c.maxLocals = maxL → (∀ x ∈ c.exceptionTable.toList, False) → Pc args s →
      W p l e (headSpec ws rm).room s m args below meth c s.heap [] 0 0 (vx_MQ below Qc XC args s mc ms free) (entryFrame m args maxL)) : vx_Met l y ws rm Pc Qc XC mc ms free := by
  refine MetFree.of_bodyS (code := cc) (maxLocals := maxL) (ret := ret) hy ?_ ?_
  · intro args s m h hn
    obtain ⟨meth, c, h1, h2, h3, h4, h5, h6, -, -⟩ := Cond.code_spec hn (atoms_spec (ws := ws) h _ (by rw [hw]; exact List.mem_cons_self))
    exact ⟨meth, c, h1, h2, h3, h4, h5, h6⟩
  · intro p e s m args below meth c s₁ B hml hP _
    have hh0 : s₁.heap = s.heap := by rw [B.state]; rfl
    have ht : ∀ x ∈ c.exceptionTable.toList, False := by
      obtain ⟨meth9, c9, h1, h2, -, -, -, -, h7, -⟩ := Cond.code_spec B.named (atoms_spec (ws := ws) B.pre _ (by rw [hw]; exact List.mem_cons_self))
      cases Option.some.inj (h1.symm.trans B.method)
      cases Option.some.inj (h2.symm.trans (Stand.of_body B).code)
      intro x hx
      rw [Array.isEmpty_iff.mp h7] at hx
      cases hx
    obtain ⟨t, a1, o, b1, b2, b3⟩ := body p e s m args below meth c s₁ B hml ht hP s₁ hh0 (Stand.of_body B)
    exact ⟨t, o, a1, b1, b2, b3⟩
/-- the table of a body with handlers -/
theorem vx_table {p : Program} {x y : MethodName} {S : Spec} {cc bytes : ByteArray} {maxL maxL' : Nat} {ret ret' : Option FieldType} {e : Env} {s s₁ : State} {m : MethodId} {args : Array Value} {below : List Frame} {meth : Method} {c : Code} {hh : List (Nat × Nat × Nat × Nat)}
    (B : BodyLoose p l y S cc maxL ret e s m args below meth c s₁) (h : (Cond.codeWith y bytes maxL' ret' hh).before args s = true) : c.exceptionTable.toList = tableOf hh := by
  obtain ⟨m9, meth9, c9, hn9, h1, h2, -, -, h6, -⟩ := Cond.codeWith_spec h
  cases Option.some.inj (hn9.symm.trans B.named)
  cases Option.some.inj (h1.symm.trans B.method)
  cases Option.some.inj (h2.symm.trans (Stand.of_body B).code)
  rw [← h6, table_eq]
end Bodies
end VXA
/-! ===== END ===== -/
/-! ===== BEGIN a static call of a method with an exception table ===== -/
section VXS
variable {p : Program} {l : Launch} {e : Env} {R : Room} {s : State} {m : MethodId} {args : Array Value} {below : List Frame} {meth : Method} {c : Code} {T : State} {H : Heap} {locs : List Loc} {cells slots : Nat}
abbrev vx_CSW (R : Room) (s : State) (args : Array Value) (own : String) (index : Nat) (y : MethodName) (bytes : ByteArray) (maxL : Nat) (ret : Option FieldType) (hh : List (Nat × Nat × Nat × Nat)) (ws : List Cond) (rm : Room) (mc ms n : Nat) : Prop :=
  (rm.cells = mc ∧ rm.slots = ms ∧ rm.frames + 1 ≤ R.frames ∧ 8 + (maxL + 11) + rm.locals ≤ R.locals ∧ (∀ w ∈ ws, ∀ (a' : Array Value) (U : State), s.WarmedH U.vm → w.before a' U = true) ∧ Cond.codeWith y bytes maxL ret hh ∈ ws) ∧
  (Cond.codeWith y bytes maxL ret hh).before args s = true ∧ (Cond.initialized y.cls).before args s = true ∧ (y.cls ≠ "java/lang/invoke/MethodHandle" ∧ y.cls ≠ "java/lang/invoke/VarHandle") ∧
  (∀ sig, parseMethodDescriptor y.desc = some sig → n = sig.parameters.length) ∧ (Cond.methodLink own index y).before args s = true ∧ (Cond.static y).before args s = true
theorem vx_cwSW {own : String} {index maxL mc ms : Nat} {y : MethodName} {bytes : ByteArray} {ret : Option FieldType} {hh : List (Nat × Nat × Nat × Nat)} {Ts ws ws' : List Cond} {rm : Room} (n : Nat) (ht : ∀ w ∈ Ts, w.before args s = true) (hT : GoodIn Ts (va_wsS own index y ws)) (hw : ws = Cond.codeWith y bytes maxL ret hh :: ws') (hrc : rm.cells = mc) (hrs : rm.slots = ms)
    (hd : y.cls ≠ "java/lang/invoke/MethodHandle" ∧ y.cls ≠ "java/lang/invoke/VarHandle" ∧ (parseMethodDescriptor y.desc).map (fun d => d.parameters.length) = some n) (hR : rm.frames + 1 ≤ R.frames ∧ 8 + (maxL + 11) + rm.locals ≤ R.locals) :
    vx_CSW R s args own index y bytes maxL ret hh ws rm mc ms n := by
  have ok : ∀ w ∈ va_wsS own index y ws, w.before args s = true := fun w h => ht w (hT w h).1
  have hG : GoodIn Ts ws := fun w h => hT w (by unfold va_wsS; exact List.mem_append_right _ h)
  have hc : Cond.codeWith y bytes maxL ret hh ∈ ws := by rw [hw]; exact List.mem_cons_self
  refine ⟨⟨hrc, hrs, hR.1, hR.2, pay_in ht hG, hc⟩, ht _ (hG _ hc).1, ok _ (by simp [va_wsS]), ⟨hd.1, hd.2.1⟩, fun sig h => ?_, ok _ (by simp [va_wsS]), ok _ (by simp [va_wsS])⟩
  have h2 := hd.2.2
  rw [h] at h2
  exact (Option.some.inj h2).symm
theorem vx_callSW (X : Stand p l e R s m args below meth c T locs cells slots) (hexec : p.tables.exec = Jvm.exec) {own : String} {index : Nat} {y : MethodName} {bytes : ByteArray} {maxL : Nat} {ret : Option FieldType} {hh : List (Nat × Nat × Nat × Nat)}
    (hown : s.vm.findClass own = some m.cls) (hlink : (Cond.methodLink own index y).before args s = true) (hstat : (Cond.static y).before args s = true) (hinit : (Cond.initialized y.cls).before args s = true)
    (hcode : (Cond.codeWith y bytes maxL ret hh).before args s = true) (hy : y.cls ≠ "java/lang/invoke/MethodHandle" ∧ y.cls ≠ "java/lang/invoke/VarHandle")
    {W9 : Nat} {Pre : Pt → Array Value → Prop} {Post : Pt → Array Value → Option Value → Pt → Prop} (hK : Back l R p e below s args y 3 W9 Pre Post)
    {g : JFrame} (hg : g.method = m) (hsize : g.locals.size = c.maxLocals) {argsL rest : List Value} (hlen : ∀ sig, parseMethodDescriptor y.desc = some sig → argsL.length = sig.parameters.length)
    (hstack : g.stack = argsL.reverse ++ rest) (hW : 2 * g.monitorRoom + (rest.map fun v => v.category).sum ≤ W9) (hdg : decode c.code g.pc = .ok (.invokestatic index, 3))
    (hpre : ∀ vm₁, s.WarmedH vm₁ → Pre ⟨T.setVm vm₁, locs, cells, slots⟩ argsL.toArray) :
    ∃ (v : Option Value) (vm₁ : Vm) (B : Pt), s.WarmedH vm₁ ∧ Stand p l e R s m args below meth c B.U B.locs B.cells B.slots ∧ Post ⟨T.setVm vm₁, locs, cells, slots⟩ argsL.toArray v B ∧
      ∀ target, Steps p.tables e below (B.U.setTop { g with pc := g.pc + 3, stack := v.toList ++ rest }) target → Steps p.tables e below (T.setTop g) target := by
  obtain ⟨mk, methM, cM, hnamed, hmethM, -, -, -, -, -, -, hsigM⟩ := Cond.codeWith_spec hcode
  have hstatic : methM.isStatic = true := Cond.static_spec hnamed hmethM hstat
  obtain ⟨kP, hkP, -⟩ := className_of_methodNamed hnamed
  have hinitP : kP.init = .initialized := Cond.initialized_spec (findClass_of_methodNamed hnamed) hkP hinit
  obtain ⟨vm₁, X₁, hstep₁⟩ := X.invokestatic hexec hown hlink hnamed hmethM hstatic hkP hinitP hy (g := g) hg (argsL := argsL) (rest := rest) (hlen _ hsigM) hstack hdg
  obtain ⟨v, B, X', hpost, hsteps⟩ := hK m meth c ⟨T.setVm vm₁, locs, cells, slots⟩ { g with stack := rest } (.invokestatic index) mk argsL.toArray X₁ hg hsize hdg hW (X₁.named hnamed) (hpre vm₁ X₁.warmed)
  exact ⟨v, vm₁, B, X₁.warmed, X', hpost, fun target h => hstep₁ _ fun acts => by rw [doInvoke_state]; exact hsteps.trans h⟩
theorem vx_runSW {y : MethodName} {bytes cc : ByteArray} {maxL nL mc ms n index : Nat} {ret : Option FieldType} {hh : List (Nat × Nat × Nat × Nat)} {ws : List Cond} {rm : Room} {Pc : Array Value → State → Prop} {Qc : Array Value → State → Outcome → State → Prop} {free : Addr → Prop} {Ts : List Cond} {own : String} {As rest : List Value} {g : JFrame}
    (S : CallFix p m c cc nL s args Ts own) (hM : Met l y ws rm Pc Qc mc ms free) (cw : vx_CSW R s args own index y bytes maxL ret hh ws rm mc ms n) (hp : PreS s H Pc As)
    (hg : g.method = m) (hn : As.length = n) (hsize : g.locals.size = nL) (hstack : g.stack = As.reverse ++ rest) (hW : 2 * g.monitorRoom + (rest.map fun v => v.category).sum ≤ 8) (hdg : decode cc g.pc = .ok (.invokestatic index, 3)) (hf : cells + mc ≤ R.cells ∧ slots + ms ≤ R.slots) :
    va_Run p l e R s m args below meth c H locs cells slots mc ms g rest (Qc As.toArray) (free) := by
  obtain ⟨⟨hrc, hrs, hfr, hlo, hws, hcw⟩, hcode, hini, hy, hlen, hl, hstt⟩ := cw
  have hK : Back l R p e below s args y 3 8 (PreOf R mc ms Pc) (PostOf Qc mc ms free) := va_backW (hh := hh) (bytes := bytes) (maxL := maxL) (ret := ret) hM hp.1 hrc hrs hfr hlo hws hcw (fun a' U hW => word_at hW (Or.inl (by first | rfl | simp [Cond.onTables, Cond.keeps, Cond.steady])) hini)
  obtain ⟨hx, hb, hml, ho, -⟩ := S
  intro T hT X
  obtain ⟨v, vm₁, ⟨U', l2, c2, s2⟩, hW₁, X', ⟨g', mk, t, L, e1, e2, hq, h1, hL, h2, h3⟩, st⟩ := vx_callSW X hx (hh := hh) (bytes := bytes) (maxL := maxL) (ret := ret) ho hl hstt hini hcode hy hK hg (hsize.trans hml.symm) (argsL := As) (rest := rest) (fun sig h => hn.trans (hlen sig h)) hstack hW (by rw [hb]; exact hdg)
    (fun vm₁ hW₁ => ⟨hf.1, hf.2, hp.2 (T.setVm vm₁) hT hW₁⟩)
  dsimp only [Pt.U, Pt.locs, Pt.cells, Pt.slots] at X' e1 e2 h1 h2 h3 st
  subst h1; subst h2; subst h3
  exact ⟨v, (T.setVm vm₁).calling g' mk As.toArray, t, U', L, hT, X', hL, e1, e2, hq, st⟩
/-- not caught here, past rows that name other classes: it goes on to the caller -/
theorem vx_outP {p : Program} {l : Launch} {e : Env} {R : Room} {s : State} {m : MethodId} {args : Array Value} {below : List Frame} {meth : Method} {c : Code} {H : Heap} {locs : List Loc} {cells slots : Nat} {free : Addr → Prop} {ls : Array Slot} {rest : List Value} {Qc : Array Value → State → Outcome → State → Prop} {XC : String → State → State → Prop}
    {pc : Nat} {own E : String} {ce : Cell} {q : Addr} {mc ms : Nat} (hown : s.vm.findClass own = some m.cls) (hlocks : meth.locks = false)
    (hpass : ∀ z ∈ c.exceptionTable.toList, covers z pc = false ∨ (z.catchType ≠ 0 ∧ ∃ nm : String, (Cond.classLink own z.catchType nm).before args s = true ∧ va_Nc E nm s)) (hcell : H[q]? = some ce) (hv : ce.vm = .none) (hcl : s.vm.findClass E = some ce.cls)
    (hx : ∀ t : State, t.heap = H → s.vm.Alike t.vm → XC E s t) (hf : ∀ z ∈ locs, free z.base) (hc : cells ≤ mc) (hs : slots ≤ ms) :
    vx_W p l e R s m args below meth c H locs cells slots (vx_MQ below Qc XC args s mc ms free) (F0 m pc ls rest) q := by
  intro T hT X
  have hpl : e.platform.magicAccessors = ({} : Platform).magicAccessors := by rw [X.admits.platform]
  obtain ⟨vm', hW', X', st⟩ := X.outThrough hlocks q (g := F0 m pc ls rest) rfl rfl rfl (cell := ce) (by rw [hT]; exact hcell) (by rw [hv]; rfl)
    (by obtain ⟨k9, h9, -⟩ := Vm.findClass_spec hcl; exact ⟨k9, h9⟩) (fun z hz => by
      rcases hpass z hz with h | ⟨hz0, nm, hl1, hn1⟩
      · exact Or.inl h
      · obtain ⟨c6, hc6, hcl6⟩ := Cond.classLink_spec hown hl1 e.platform hpl
        obtain ⟨a8, b8, h1, h2, h3⟩ := hn1
        cases Option.some.inj (h1.symm.trans hcl)
        cases Option.some.inj (h2.symm.trans hc6)
        exact Or.inr ⟨hz0, _, hcl6, h3⟩)
  obtain ⟨g₀, hfr⟩ := X'.frames_eq
  have hcell9 : ((T.setVm vm').setFrames (.throwing q :: below)).heap[q]? = some ce := by
    show T.heap[q]? = some ce
    rw [hT]; exact hcell
  have hend : Ended ((T.setVm vm').setFrames (.throwing q :: below)) below (.threw q) := State.frames_setFrames _ (State.cur_lt_of_frames hfr)
  refine ⟨(T.setVm vm').setFrames (.throwing q :: below), ?_, .threw q, X'.here.running, hend, Or.inr ⟨q, rfl, E, ce, locs, hx _ hT (X'.ends _).1.alike, hcell9, hv, hcl, (X'.ends _).1, (X'.ends _).2.mono hc hs, hf⟩⟩
  rw [X.pushThrowing_eq]
  exact st
/-- a thing of a world lies in the heap -/
theorem vx_lt {D : va_G} {cl : List vw_C} {ws : va_W} {H1 : Heap} (h : va_P D cl ws H1) {k : Nat} {q : Nat × va_E} (hk : ws[k]? = some q) : q.1 < H1.size := (h k q hk).lt
end VXS
/-! ===== END ===== -/
/-! ===== BEGIN methods with a table of their own: called by a name, returning or throwing ===== -/
section VXH
/-! vx_backW, vx_callVX, vx_callSX, vx_callVW, vx_runVW, vx_runVX, vx_runSX, vx_ofWH follow the same proofs as their sisters above (Free/Laws.lean, Shelf42/LK1.lean); vx_outP calls Shelf42/NT130.lean (outThrough). -/
section
variable {l : Launch} {R : Room} {p : Program} {e : Env} {below : List Frame} {s : State} {sargs : Array Value} {y : MethodName} {len W9 : Nat}
theorem vx_backW {ws : List Cond} {rm : Room} {Pc : Array Value → State → Prop} {Qc : Array Value → State → Outcome → State → Prop} {XC : String → State → State → Prop} {mc ms : Nat} {free : Addr → Prop} {bytes : ByteArray} {maxL : Nat} {ret : Option FieldType} {hh : List (Nat × Nat × Nat × Nat)}
    (hM : vx_Met l y ws rm Pc Qc XC mc ms free) (hblind : FrameBlind Pc) (hrc : rm.cells = mc) (hrs : rm.slots = ms)
    (hframes : rm.frames + 1 ≤ R.frames) (hlocals : W9 + (maxL + 11) + rm.locals ≤ R.locals)
    (hws : ∀ w ∈ ws, ∀ a' U, s.WarmedH U.vm → w.before a' U = true) (hcode : Cond.codeWith y bytes maxL ret hh ∈ ws) (hinit : ∀ a' U, s.WarmedH U.vm → (Cond.initialized y.cls).before a' U = true) :
    vx_Back l R p e below s sargs y len W9 (PreOf R mc ms Pc) (PostOf Qc mc ms free) (vx_Post XC mc ms free) := by
  intro m meth c A g ig mk a X hg hsize hdg hW hn hp
  have h1 : (headSpec ws rm).pre.before a A.U = true := atoms_intro fun w hw => hws w hw _ _ X.warmed
  have h2 : (Cond.codeWith y bytes maxL ret hh).before a A.U = true := hws _ hcode _ _ X.warmed
  have h3 : (Cond.initialized y.cls).before a A.U = true := hinit _ _ X.warmed
  have h4 : A.cells + (headSpec ws rm).room.cells ≤ R.cells := by rw [show (headSpec ws rm).room.cells = mc from hrc]; exact hp.1
  have h5 : A.slots + (headSpec ws rm).room.slots ≤ R.slots := by rw [show (headSpec ws rm).room.slots = ms from hrs]; exact hp.2.1
  have hPc : Pc a (A.U.calling g mk a) := hblind _ _ _ _ hp.2.2
  obtain ⟨U, Ls, c0, s0⟩ := A
  dsimp only [Pt.U, Pt.locs, Pt.cells, Pt.slots] at h1 h2 h3 h4 h5 X hn hPc ⊢
  obtain ⟨m9, methY, cY, hn9, hmY, hcY, -, hlY, -⟩ := Cond.codeWith_spec h2
  cases Option.some.inj (hn9.symm.trans hn)
  obtain ⟨kY, hkY, -⟩ := className_of_methodNamed hn
  have hinitY : kY.init = .initialized := Cond.initialized_spec (findClass_of_methodNamed hn) hkY h3
  have h : At U g.method c below := by rw [hg]; exact X.here
  have hlocals9 : W9 + (maxL + 11) + (headSpec ws rm).room.locals ≤ R.locals := hlocals
  have happ : (headSpec ws rm).appliesLoose y e.platform (U.calling g mk a) = true :=
    Spec.appliesLoose_calling (g := g) h hdg hn hkY hinitY
      (X.room_calling (g := g) (R' := (headSpec ws rm).room) hsize hmY hcY hframes (by rw [hlY]; omega) h4 h5) h1
  obtain ⟨mid, hmid⟩ := h.above
  have hfr : (U.setTop g).frames = (.java g :: mid) ++ below := by rw [State.frames_setTop' g h.top, hmid]; rfl
  obtain ⟨o, s₂, hsteps, -, hend, hq⟩ := Steps.callFree hM p X.admits X.cas X.clock (acts := []) hfr happ hPc trivial
  have hq' : vx_Q Qc XC mc ms free a (U.calling g mk a) o s₂ := hq
  rw [State.frames_setTop' g h.top] at hend
  obtain ⟨g₀, hg0⟩ := Option.isSome_iff_exists.mp h.top
  obtain ⟨r, hr⟩ := State.topJava?_eq_some.mp hg0
  have hr' : (({ U with heap := s₂.heap, slotsUsed := s₂.slotsUsed } : State).setVm s₂.vm).frames = .java g₀ :: r := hr
  rcases hq' with ⟨hqc, L, hfe, hL⟩ | ⟨q, rfl, E, ce, L, hx, hce, hcv, hcl, hW₂, hsm, hL⟩
  · obtain ⟨⟨v, rfl⟩, hW₂, e2, q2, q3, q4, q5, q6⟩ := id hfe
    have e3 : s₂ = ({ (U.calling g mk a).setFrames s₂.frames with heap := s₂.heap, slotsUsed := s₂.slotsUsed } : State).setVm s₂.vm := by
      have : s₂ = ({ s₂ with vm := (U.calling g mk a).vm } : State).setVm s₂.vm := rfl
      rw [e2] at this
      exact this
    obtain ⟨c₂, i₂, len₂, hc₂, hd₂, hf₂⟩ := hend
    have hW' : U.WarmedH s₂.vm := hW₂
    have hcc : c₂ = c := by
      have h1 : s₂.code? g.method = U.code? g.method := by
        rw [State.code?_eq, State.code?_eq, hW'.alike.method?]
      exact Option.some.inj (hc₂.symm.trans (h1.trans h.code))
    subst hcc
    have hlen : len₂ = len := by rw [hdg] at hd₂; cases hd₂; rfl
    subst hlen
    have hs₂ : s₂ = (({ U with heap := s₂.heap, slotsUsed := s₂.slotsUsed } : State).setVm s₂.vm).setTop { g with pc := g.pc + len₂, stack := v.toList ++ g.stack } := by
      refine e3.trans ?_
      rw [hf₂, State.calling_eq h.top, State.setFrames_setFrames, State.setTop_of_frames _ hr', hr]
      rfl
    have hsame : U.sameButNew ({ U with heap := s₂.heap, slotsUsed := s₂.slotsUsed } : State) L mc ms := by
      refine ⟨?_, q2, q3, q4, q5, q6⟩
      obtain ⟨t, ht, -⟩ := State.frames_cons hr
      show ({ U with heap := s₂.heap, slotsUsed := s₂.slotsUsed } : State) = { U.setFrames U.frames with heap := s₂.heap, slotsUsed := s₂.slotsUsed }
      rw [State.setFrames_self ht]
    subst hg
    refine Or.inl ⟨v, ⟨(({ U with heap := s₂.heap, slotsUsed := s₂.slotsUsed } : State).setVm s₂.vm), Ls ++ L, c0 + mc, s0 + ms⟩,
      ⟨X.admits, X.cas, X.clock, X.frames, X.room, X.hears, X.method, X.code, (X.here.setHeapUsed s₂.heap s₂.slotsUsed).setVm hW'.alike, X.tail, State.WarmedH.trans X.warmed hW', X.limits, X.bytes, X.same.trans (hsame.setVm s.vm)⟩,
      ⟨g, mk, s₂, L, rfl, rfl, hqc, rfl, hL, rfl, rfl⟩, ?_⟩
    show Steps p.tables e below _ ((({ U with heap := s₂.heap, slotsUsed := s₂.slotsUsed } : State).setVm s₂.vm).setTop { g with pc := g.pc + len₂, stack := v.toList ++ g.stack })
    rw [← hs₂]
    exact hsteps
  · obtain ⟨e2, q2, q3, q4, q5, q6⟩ := id hsm
    have e3 : s₂ = ({ (U.calling g mk a).setFrames s₂.frames with heap := s₂.heap, slotsUsed := s₂.slotsUsed } : State).setVm s₂.vm := by
      have : s₂ = ({ s₂ with vm := (U.calling g mk a).vm } : State).setVm s₂.vm := rfl
      rw [e2] at this
      exact this
    have hf₂ : s₂.frames = .throwing q :: .java g :: U.frames.tail := hend
    have hW' : U.WarmedH s₂.vm := hW₂
    have hs₂ : s₂ = ((({ U with heap := s₂.heap, slotsUsed := s₂.slotsUsed } : State).setVm s₂.vm).setTop g).pushFrame (.throwing q) := by
      refine e3.trans ?_
      rw [hf₂, State.calling_eq h.top, State.setFrames_setFrames, State.pushFrame, State.frames_setTop _ hr', State.setTop_of_frames _ hr', State.setFrames_setFrames, hr]
      rfl
    have hsame : U.sameButNew ({ U with heap := s₂.heap, slotsUsed := s₂.slotsUsed } : State) L mc ms := by
      refine ⟨?_, q2, q3, q4, q5, q6⟩
      obtain ⟨t, ht, -⟩ := State.frames_cons hr
      show ({ U with heap := s₂.heap, slotsUsed := s₂.slotsUsed } : State) = { U.setFrames U.frames with heap := s₂.heap, slotsUsed := s₂.slotsUsed }
      rw [State.setFrames_self ht]
    subst hg
    refine Or.inr ⟨q, ⟨(({ U with heap := s₂.heap, slotsUsed := s₂.slotsUsed } : State).setVm s₂.vm), Ls ++ L, c0 + mc, s0 + ms⟩,
      ⟨X.admits, X.cas, X.clock, X.frames, X.room, X.hears, X.method, X.code, (X.here.setHeapUsed s₂.heap s₂.slotsUsed).setVm hW'.alike, X.tail, State.WarmedH.trans X.warmed hW', X.limits, X.bytes, X.same.trans (hsame.setVm s.vm)⟩,
      ⟨g, mk, s₂, L, E, ce, rfl, rfl, hx, hce, hcv, hcl, rfl, hL, rfl, rfl⟩, ?_⟩
    show Steps p.tables e below _ (((({ U with heap := s₂.heap, slotsUsed := s₂.slotsUsed } : State).setVm s₂.vm).setTop g).pushFrame (.throwing q))
    rw [← hs₂]
    exact hsteps
end
variable {p : Program} {l : Launch} {e : Env} {R : Room} {s : State} {m : MethodId} {args : Array Value} {below : List Frame} {meth : Method} {c : Code} {T : State} {H : Heap} {locs : List Loc} {cells slots : Nat}
theorem vx_callVX (X : Stand p l e R s m args below meth c T locs cells slots) (hexec : p.tables.exec = Jvm.exec) {own C : String} {index : Nat} {y : MethodName} {bytes : ByteArray} {maxL : Nat} {ret : Option FieldType} {hh : List (Nat × Nat × Nat × Nat)}
    (hown : s.vm.findClass own = some m.cls) (hlink : (Cond.methodLink own index y).before args s = true) (hinst : (Cond.instanceMethod y).before args s = true) (hsel : (Cond.selects C y y).before args s = true)
    (hcode : (Cond.codeWith y bytes maxL ret hh).before args s = true) (hy : y.cls ≠ "java/lang/invoke/MethodHandle" ∧ y.cls ≠ "java/lang/invoke/VarHandle")
    {W9 : Nat} {Pre : Pt → Array Value → Prop} {Post : Pt → Array Value → Option Value → Pt → Prop} {PostX : Pt → Array Value → Addr → Pt → Prop} (hK : vx_Back l R p e below s args y 3 W9 Pre Post PostX)
    {b : Addr} {cellB : Cell} (hcell : T.heap[b]? = some cellB) (hobj : cellB.vm.isStatics = false) (hcls : s.vm.findClass C = some cellB.cls)
    {g : JFrame} (hg : g.method = m) (hsize : g.locals.size = c.maxLocals) {argsL rest : List Value} (hlen : ∀ sig, parseMethodDescriptor y.desc = some sig → argsL.length = sig.parameters.length)
    (hstack : g.stack = argsL.reverse ++ .ref b :: rest) (hW : 2 * g.monitorRoom + (rest.map fun v => v.category).sum ≤ W9) (hdg : decode c.code g.pc = .ok (.invokevirtual index, 3))
    (hpre : ∀ vm₁, s.WarmedH vm₁ → Pre ⟨T.setVm vm₁, locs, cells, slots⟩ (Value.ref b :: argsL).toArray) :
    (∃ (v : Option Value) (vm₁ : Vm) (B : Pt), s.WarmedH vm₁ ∧ Stand p l e R s m args below meth c B.U B.locs B.cells B.slots ∧ Post ⟨T.setVm vm₁, locs, cells, slots⟩ (Value.ref b :: argsL).toArray v B ∧
      ∀ target, Steps p.tables e below (B.U.setTop { g with pc := g.pc + 3, stack := v.toList ++ rest }) target → Steps p.tables e below (T.setTop g) target) ∨
    (∃ (q : Addr) (vm₁ : Vm) (B : Pt), s.WarmedH vm₁ ∧ Stand p l e R s m args below meth c B.U B.locs B.cells B.slots ∧ PostX ⟨T.setVm vm₁, locs, cells, slots⟩ (Value.ref b :: argsL).toArray q B ∧
      Steps p.tables e below (T.setTop g) ((B.U.setTop { g with stack := rest }).pushFrame (.throwing q))) := by
  obtain ⟨mk, methM, hnamed, hmethM, hstM, habM⟩ := Cond.instanceMethod_spec hinst
  obtain ⟨m8, methM', cM, hn8, hmethM', -, -, -, -, -, -, hsigM⟩ := Cond.codeWith_spec hcode
  cases Option.some.inj (hn8.symm.trans hnamed)
  cases hmethM.symm.trans hmethM'
  obtain ⟨c2, r2, m2, q1, q2, q3, q4, kP, hkP, hkPi⟩ := Cond.selects_spec hsel
  cases hcls.symm.trans q1
  cases (State.methodFound?_of_named hnamed hy).symm.trans q2
  cases hnamed.symm.trans q3
  have hselP : selectMethod e.platform s.vm cellB.cls mk = .method mk := by rw [Launch.admits_selectMethod X.admits]; exact q4
  obtain ⟨vm₁, X₁, hstep₁⟩ := X.invokevirtual hexec hown hlink hnamed hmethM hstM hkP hkPi hy (a := b) (cell := cellB) hcell
    (fun z h => by rw [h] at hobj; cases hobj) hselP hmethM habM hkP hkPi (g := g) hg (argsL := argsL) (rest := rest) (hlen _ hsigM) hstack hdg
  rcases hK m meth c ⟨T.setVm vm₁, locs, cells, slots⟩ { g with stack := rest } (.invokevirtual index) mk (Value.ref b :: argsL).toArray X₁ hg hsize hdg hW (X₁.named hnamed) (hpre vm₁ X₁.warmed) with ⟨v, B, X', hpost, hsteps⟩ | ⟨q, B, X', hpost, hsteps⟩
  · exact Or.inl ⟨v, vm₁, B, X₁.warmed, X', hpost, fun target h => hstep₁ _ fun acts => by rw [doInvoke_state]; exact hsteps.trans h⟩
  · exact Or.inr ⟨q, vm₁, B, X₁.warmed, X', hpost, hstep₁ _ fun acts => by rw [doInvoke_state]; exact hsteps⟩
theorem vx_callSX (X : Stand p l e R s m args below meth c T locs cells slots) (hexec : p.tables.exec = Jvm.exec) {own : String} {index : Nat} {y : MethodName} {bytes : ByteArray} {maxL : Nat} {ret : Option FieldType} {hh : List (Nat × Nat × Nat × Nat)}
    (hown : s.vm.findClass own = some m.cls) (hlink : (Cond.methodLink own index y).before args s = true) (hstat : (Cond.static y).before args s = true) (hinit : (Cond.initialized y.cls).before args s = true)
    (hcode : (Cond.codeWith y bytes maxL ret hh).before args s = true) (hy : y.cls ≠ "java/lang/invoke/MethodHandle" ∧ y.cls ≠ "java/lang/invoke/VarHandle")
    {W9 : Nat} {Pre : Pt → Array Value → Prop} {Post : Pt → Array Value → Option Value → Pt → Prop} {PostX : Pt → Array Value → Addr → Pt → Prop} (hK : vx_Back l R p e below s args y 3 W9 Pre Post PostX)
    {g : JFrame} (hg : g.method = m) (hsize : g.locals.size = c.maxLocals) {argsL rest : List Value} (hlen : ∀ sig, parseMethodDescriptor y.desc = some sig → argsL.length = sig.parameters.length)
    (hstack : g.stack = argsL.reverse ++ rest) (hW : 2 * g.monitorRoom + (rest.map fun v => v.category).sum ≤ W9) (hdg : decode c.code g.pc = .ok (.invokestatic index, 3))
    (hpre : ∀ vm₁, s.WarmedH vm₁ → Pre ⟨T.setVm vm₁, locs, cells, slots⟩ argsL.toArray) :
    (∃ (v : Option Value) (vm₁ : Vm) (B : Pt), s.WarmedH vm₁ ∧ Stand p l e R s m args below meth c B.U B.locs B.cells B.slots ∧ Post ⟨T.setVm vm₁, locs, cells, slots⟩ argsL.toArray v B ∧
      ∀ target, Steps p.tables e below (B.U.setTop { g with pc := g.pc + 3, stack := v.toList ++ rest }) target → Steps p.tables e below (T.setTop g) target) ∨
    (∃ (q : Addr) (vm₁ : Vm) (B : Pt), s.WarmedH vm₁ ∧ Stand p l e R s m args below meth c B.U B.locs B.cells B.slots ∧ PostX ⟨T.setVm vm₁, locs, cells, slots⟩ argsL.toArray q B ∧
      Steps p.tables e below (T.setTop g) ((B.U.setTop { g with stack := rest }).pushFrame (.throwing q))) := by
  obtain ⟨mk, methM, cM, hnamed, hmethM, -, -, -, -, -, -, hsigM⟩ := Cond.codeWith_spec hcode
  have hstatic : methM.isStatic = true := Cond.static_spec hnamed hmethM hstat
  obtain ⟨kP, hkP, -⟩ := className_of_methodNamed hnamed
  have hinitP : kP.init = .initialized := Cond.initialized_spec (findClass_of_methodNamed hnamed) hkP hinit
  obtain ⟨vm₁, X₁, hstep₁⟩ := X.invokestatic hexec hown hlink hnamed hmethM hstatic hkP hinitP hy (g := g) hg (argsL := argsL) (rest := rest) (hlen _ hsigM) hstack hdg
  rcases hK m meth c ⟨T.setVm vm₁, locs, cells, slots⟩ { g with stack := rest } (.invokestatic index) mk argsL.toArray X₁ hg hsize hdg hW (X₁.named hnamed) (hpre vm₁ X₁.warmed) with ⟨v, B, X', hpost, hsteps⟩ | ⟨q, B, X', hpost, hsteps⟩
  · exact Or.inl ⟨v, vm₁, B, X₁.warmed, X', hpost, fun target h => hstep₁ _ fun acts => by rw [doInvoke_state]; exact hsteps.trans h⟩
  · exact Or.inr ⟨q, vm₁, B, X₁.warmed, X', hpost, hstep₁ _ fun acts => by rw [doInvoke_state]; exact hsteps⟩
theorem vx_callVW (X : Stand p l e R s m args below meth c T locs cells slots) (hexec : p.tables.exec = Jvm.exec) {own C : String} {index : Nat} {y : MethodName} {bytes : ByteArray} {maxL : Nat} {ret : Option FieldType} {hh : List (Nat × Nat × Nat × Nat)}
    (hown : s.vm.findClass own = some m.cls) (hlink : (Cond.methodLink own index y).before args s = true) (hinst : (Cond.instanceMethod y).before args s = true) (hsel : (Cond.selects C y y).before args s = true)
    (hcode : (Cond.codeWith y bytes maxL ret hh).before args s = true) (hy : y.cls ≠ "java/lang/invoke/MethodHandle" ∧ y.cls ≠ "java/lang/invoke/VarHandle")
    {W9 : Nat} {Pre : Pt → Array Value → Prop} {Post : Pt → Array Value → Option Value → Pt → Prop} (hK : Back l R p e below s args y 3 W9 Pre Post)
    {b : Addr} {cellB : Cell} (hcell : T.heap[b]? = some cellB) (hobj : cellB.vm.isStatics = false) (hcls : s.vm.findClass C = some cellB.cls)
    {g : JFrame} (hg : g.method = m) (hsize : g.locals.size = c.maxLocals) {argsL rest : List Value} (hlen : ∀ sig, parseMethodDescriptor y.desc = some sig → argsL.length = sig.parameters.length)
    (hstack : g.stack = argsL.reverse ++ .ref b :: rest) (hW : 2 * g.monitorRoom + (rest.map fun v => v.category).sum ≤ W9) (hdg : decode c.code g.pc = .ok (.invokevirtual index, 3))
    (hpre : ∀ vm₁, s.WarmedH vm₁ → Pre ⟨T.setVm vm₁, locs, cells, slots⟩ (Value.ref b :: argsL).toArray) :
    ∃ (v : Option Value) (vm₁ : Vm) (B : Pt), s.WarmedH vm₁ ∧ Stand p l e R s m args below meth c B.U B.locs B.cells B.slots ∧ Post ⟨T.setVm vm₁, locs, cells, slots⟩ (Value.ref b :: argsL).toArray v B ∧
      ∀ target, Steps p.tables e below (B.U.setTop { g with pc := g.pc + 3, stack := v.toList ++ rest }) target → Steps p.tables e below (T.setTop g) target := by
  obtain ⟨mk, methM, hnamed, hmethM, hstM, habM⟩ := Cond.instanceMethod_spec hinst
  obtain ⟨m8, methM', cM, hn8, hmethM', -, -, -, -, -, -, hsigM⟩ := Cond.codeWith_spec hcode
  cases Option.some.inj (hn8.symm.trans hnamed)
  cases hmethM.symm.trans hmethM'
  obtain ⟨c2, r2, m2, q1, q2, q3, q4, kP, hkP, hkPi⟩ := Cond.selects_spec hsel
  cases hcls.symm.trans q1
  cases (State.methodFound?_of_named hnamed hy).symm.trans q2
  cases hnamed.symm.trans q3
  have hselP : selectMethod e.platform s.vm cellB.cls mk = .method mk := by rw [Launch.admits_selectMethod X.admits]; exact q4
  obtain ⟨vm₁, X₁, hstep₁⟩ := X.invokevirtual hexec hown hlink hnamed hmethM hstM hkP hkPi hy (a := b) (cell := cellB) hcell
    (fun z h => by rw [h] at hobj; cases hobj) hselP hmethM habM hkP hkPi (g := g) hg (argsL := argsL) (rest := rest) (hlen _ hsigM) hstack hdg
  obtain ⟨v, B, X', hpost, hsteps⟩ := hK m meth c ⟨T.setVm vm₁, locs, cells, slots⟩ { g with stack := rest } (.invokevirtual index) mk (Value.ref b :: argsL).toArray X₁ hg hsize hdg hW (X₁.named hnamed) (hpre vm₁ X₁.warmed)
  exact ⟨v, vm₁, B, X₁.warmed, X', hpost, fun target h => hstep₁ _ fun acts => by rw [doInvoke_state]; exact hsteps.trans h⟩
abbrev vx_CVW (R : Room) (s : State) (args : Array Value) (own C : String) (index : Nat) (y : MethodName) (bytes : ByteArray) (maxL : Nat) (ret : Option FieldType) (hh : List (Nat × Nat × Nat × Nat)) (ws : List Cond) (rm : Room) (mc ms n : Nat) : Prop :=
  (rm.cells = mc ∧ rm.slots = ms ∧ rm.frames + 1 ≤ R.frames ∧ 8 + (maxL + 11) + rm.locals ≤ R.locals ∧ (∀ w ∈ ws, ∀ (a' : Array Value) (U : State), s.WarmedH U.vm → w.before a' U = true) ∧ Cond.codeWith y bytes maxL ret hh ∈ ws) ∧
  (Cond.codeWith y bytes maxL ret hh).before args s = true ∧ (Cond.initialized y.cls).before args s = true ∧ (y.cls ≠ "java/lang/invoke/MethodHandle" ∧ y.cls ≠ "java/lang/invoke/VarHandle") ∧
  (∀ sig, parseMethodDescriptor y.desc = some sig → n = sig.parameters.length) ∧ (Cond.methodLink own index y).before args s = true ∧ (Cond.instanceMethod y).before args s = true ∧ (Cond.selects C y y).before args s = true
theorem vx_cwVW {own C : String} {index maxL mc ms : Nat} {y : MethodName} {bytes : ByteArray} {ret : Option FieldType} {hh : List (Nat × Nat × Nat × Nat)} {Ts ws ws' : List Cond} {rm : Room} (n : Nat) (ht : ∀ w ∈ Ts, w.before args s = true) (hT : GoodIn Ts (wsV own index C y ws)) (hw : ws = Cond.codeWith y bytes maxL ret hh :: ws') (hrc : rm.cells = mc) (hrs : rm.slots = ms)
    (hd : y.cls = C ∧ y.cls ≠ "java/lang/invoke/MethodHandle" ∧ y.cls ≠ "java/lang/invoke/VarHandle" ∧ (parseMethodDescriptor y.desc).map (fun d => d.parameters.length) = some n) (hR : rm.frames + 1 ≤ R.frames ∧ 8 + (maxL + 11) + rm.locals ≤ R.locals) :
    vx_CVW R s args own C index y bytes maxL ret hh ws rm mc ms n := by
  obtain ⟨hC, hd⟩ := hd
  subst hC
  have ok : ∀ w ∈ wsV own index y.cls y ws, w.before args s = true := fun w h => ht w (hT w h).1
  have hG : GoodIn Ts ws := fun w h => hT w (by unfold wsV; exact List.mem_append_right _ h)
  have hc : Cond.codeWith y bytes maxL ret hh ∈ ws := by rw [hw]; exact List.mem_cons_self
  refine ⟨⟨hrc, hrs, hR.1, hR.2, pay_in ht hG, hc⟩, ht _ (hG _ hc).1, ok _ (by simp [wsV]), ⟨hd.1, hd.2.1⟩, fun sig h => ?_, ok _ (by simp [wsV]), ok _ (by simp [wsV]), ok _ (by simp [wsV])⟩
  have h2 := hd.2.2
  rw [h] at h2
  exact (Option.some.inj h2).symm
theorem vx_runVW {y : MethodName} {bytes cc : ByteArray} {maxL nL mc ms n index : Nat} {ret : Option FieldType} {hh : List (Nat × Nat × Nat × Nat)} {ws : List Cond} {rm : Room} {Pc : Array Value → State → Prop} {Qc : Array Value → State → Outcome → State → Prop} {free : Addr → Prop} {Ts : List Cond} {own C : String} {b : Addr} {As rest : List Value} {g : JFrame}
    (S : CallFix p m c cc nL s args Ts own) (hM : Met l y ws rm Pc Qc mc ms free) (cw : vx_CVW R s args own C index y bytes maxL ret hh ws rm mc ms n) (hp : PreV s H C b Pc As)
    (hg : g.method = m) (hn : As.length = n) (hsize : g.locals.size = nL) (hstack : g.stack = As.reverse ++ .ref b :: rest) (hW : 2 * g.monitorRoom + (rest.map fun v => v.category).sum ≤ 8) (hdg : decode cc g.pc = .ok (.invokevirtual index, 3)) (hf : cells + mc ≤ R.cells ∧ slots + ms ≤ R.slots) :
    va_Run p l e R s m args below meth c H locs cells slots mc ms g rest (Qc (Value.ref b :: As).toArray) free := by
  obtain ⟨⟨hrc, hrs, hfr, hlo, hws, hcw⟩, hcode, hini, hy, hlen, hl, hin, hse⟩ := cw
  have hK : Back l R p e below s args y 3 8 (PreOf R mc ms Pc) (PostOf Qc mc ms free) := va_backW (hh := hh) (bytes := bytes) (maxL := maxL) (ret := ret) hM hp.1 hrc hrs hfr hlo hws hcw (fun a' U hW => word_at hW (Or.inl (by first | rfl | simp [Cond.onTables, Cond.keeps, Cond.steady])) hini)
  obtain ⟨hx, hb, hml, ho, -⟩ := S
  obtain ⟨-, ⟨cellB, hcB, hoB, hclB⟩, hPc⟩ := hp
  intro T hT X
  obtain ⟨v, vm₁, ⟨U', l2, c2, s2⟩, hW₁, X', ⟨g', mk, t, L, e1, e2, hq, h1, hL, h2, h3⟩, st⟩ := vx_callVW X hx (C := C) (hh := hh) (bytes := bytes) (maxL := maxL) (ret := ret) ho hl hin hse hcode hy hK (by rw [hT]; exact hcB) hoB hclB hg (hsize.trans hml.symm) (argsL := As) (rest := rest) (fun sig h => hn.trans (hlen sig h)) hstack hW (by rw [hb]; exact hdg)
    (fun vm₁ hW₁ => ⟨hf.1, hf.2, hPc (T.setVm vm₁) hT hW₁⟩)
  dsimp only [Pt.U, Pt.locs, Pt.cells, Pt.slots] at X' e1 e2 h1 h2 h3 st
  subst h1; subst h2; subst h3
  exact ⟨v, (T.setVm vm₁).calling g' mk (Value.ref b :: As).toArray, t, U', L, hT, X', hL, e1, e2, hq, st⟩
section
variable {y : MethodName} {bytes cc : ByteArray} {maxL nL mc ms n index : Nat} {ret : Option FieldType} {ws : List Cond} {rm : Room} {Pc : Array Value → State → Prop} {Qc : Array Value → State → Outcome → State → Prop} {XC : String → State → State → Prop} {free : Addr → Prop} {Ts : List Cond} {own C : String} {b : Addr} {As rest : List Value} {g : JFrame}
theorem vx_runVX {hh : List (Nat × Nat × Nat × Nat)} (S : CallFix p m c cc nL s args Ts own) (hM : vx_Met l y ws rm Pc Qc XC mc ms free) (cw : vx_CVW R s args own C index y bytes maxL ret hh ws rm mc ms n) (hp : PreV s H C b Pc As)
    (hg : g.method = m) (hn : As.length = n) (hsize : g.locals.size = nL) (hstack : g.stack = As.reverse ++ .ref b :: rest) (hW : 2 * g.monitorRoom + (rest.map fun v => v.category).sum ≤ 8) (hdg : decode cc g.pc = .ok (.invokevirtual index, 3)) (hf : cells + mc ≤ R.cells ∧ slots + ms ≤ R.slots) :
    vx_Run p l e R s m args below meth c H locs cells slots mc ms g rest (Qc (Value.ref b :: As).toArray) XC free := by
  obtain ⟨⟨hrc, hrs, hfr, hlo, hws, hcw⟩, hcode, hini, hy, hlen, hl, hin, hse⟩ := cw
  have hK : vx_Back l R p e below s args y 3 8 (PreOf R mc ms Pc) (PostOf Qc mc ms free) (vx_Post XC mc ms free) := vx_backW (hh := hh) (bytes := bytes) (maxL := maxL) (ret := ret) hM hp.1 hrc hrs hfr hlo hws hcw (fun a' U hW => word_at hW (Or.inl (by first | rfl | simp [Cond.onTables, Cond.keeps, Cond.steady])) hini)
  obtain ⟨hx, hb, hml, ho, -⟩ := S
  obtain ⟨-, ⟨cellB, hcB, hoB, hclB⟩, hPc⟩ := hp
  intro T hT X
  rcases vx_callVX X hx (C := C) (hh := hh) (bytes := bytes) (maxL := maxL) (ret := ret) ho hl hin hse hcode hy hK (by rw [hT]; exact hcB) hoB hclB hg (hsize.trans hml.symm) (argsL := As) (rest := rest) (fun sig h => hn.trans (hlen sig h)) hstack hW (by rw [hb]; exact hdg)
    (fun vm₁ hW₁ => ⟨hf.1, hf.2, hPc (T.setVm vm₁) hT hW₁⟩) with ⟨v, vm₁, ⟨U', l2, c2, s2⟩, hW₁, X', ⟨g', mk, t, L, e1, e2, hq, h1, hL, h2, h3⟩, st⟩ | ⟨q, vm₁, ⟨U', l2, c2, s2⟩, hW₁, X', ⟨g', mk, t, L, E, ce, e1, e2, hq, hce, hcv, hcl, h1, hL, h2, h3⟩, st⟩
  · dsimp only [Pt.U, Pt.locs, Pt.cells, Pt.slots] at X' e1 e2 h1 h2 h3 st
    subst h1; subst h2; subst h3
    exact Or.inl ⟨v, (T.setVm vm₁).calling g' mk (Value.ref b :: As).toArray, t, U', L, hT, X', hL, e1, e2, hq, st⟩
  · dsimp only [Pt.U, Pt.locs, Pt.cells, Pt.slots] at X' e1 e2 h1 h2 h3 st hcl
    subst h1; subst h2; subst h3
    exact Or.inr ⟨q, (T.setVm vm₁).calling g' mk (Value.ref b :: As).toArray, t, U', L, E, ce, hT, X', hL, e1, e2, hq, hce, hcv, vx_cls hW₁ hcl, st⟩
theorem vx_runSX {hh : List (Nat × Nat × Nat × Nat)} (S : CallFix p m c cc nL s args Ts own) (hM : vx_Met l y ws rm Pc Qc XC mc ms free) (cw : vx_CSW R s args own index y bytes maxL ret hh ws rm mc ms n) (hp : PreS s H Pc As)
    (hg : g.method = m) (hn : As.length = n) (hsize : g.locals.size = nL) (hstack : g.stack = As.reverse ++ rest) (hW : 2 * g.monitorRoom + (rest.map fun v => v.category).sum ≤ 8) (hdg : decode cc g.pc = .ok (.invokestatic index, 3)) (hf : cells + mc ≤ R.cells ∧ slots + ms ≤ R.slots) :
    vx_Run p l e R s m args below meth c H locs cells slots mc ms g rest (Qc As.toArray) XC free := by
  obtain ⟨⟨hrc, hrs, hfr, hlo, hws, hcw⟩, hcode, hini, hy, hlen, hl, hstt⟩ := cw
  have hK : vx_Back l R p e below s args y 3 8 (PreOf R mc ms Pc) (PostOf Qc mc ms free) (vx_Post XC mc ms free) := vx_backW (hh := hh) (bytes := bytes) (maxL := maxL) (ret := ret) hM hp.1 hrc hrs hfr hlo hws hcw (fun a' U hW => word_at hW (Or.inl (by first | rfl | simp [Cond.onTables, Cond.keeps, Cond.steady])) hini)
  obtain ⟨hx, hb, hml, ho, -⟩ := S
  intro T hT X
  rcases vx_callSX X hx (hh := hh) (bytes := bytes) (maxL := maxL) (ret := ret) ho hl hstt hini hcode hy hK hg (hsize.trans hml.symm) (argsL := As) (rest := rest) (fun sig h => hn.trans (hlen sig h)) hstack hW (by rw [hb]; exact hdg)
    (fun vm₁ hW₁ => ⟨hf.1, hf.2, hp.2 (T.setVm vm₁) hT hW₁⟩) with ⟨v, vm₁, ⟨U', l2, c2, s2⟩, hW₁, X', ⟨g', mk, t, L, e1, e2, hq, h1, hL, h2, h3⟩, st⟩ | ⟨q, vm₁, ⟨U', l2, c2, s2⟩, hW₁, X', ⟨g', mk, t, L, E, ce, e1, e2, hq, hce, hcv, hcl, h1, hL, h2, h3⟩, st⟩
  · dsimp only [Pt.U, Pt.locs, Pt.cells, Pt.slots] at X' e1 e2 h1 h2 h3 st
    subst h1; subst h2; subst h3
    exact Or.inl ⟨v, (T.setVm vm₁).calling g' mk As.toArray, t, U', L, hT, X', hL, e1, e2, hq, st⟩
  · dsimp only [Pt.U, Pt.locs, Pt.cells, Pt.slots] at X' e1 e2 h1 h2 h3 st hcl
    subst h1; subst h2; subst h3
    exact Or.inr ⟨q, (T.setVm vm₁).calling g' mk As.toArray, t, U', L, E, ce, hT, X', hL, e1, e2, hq, hce, hcv, vx_cls hW₁ hcl, st⟩
end
end VXH
theorem vx_ofWH {l : Launch} {y : MethodName} {ws ws' : List Cond} {rm : Room} {Pc : Array Value → State → Prop} {Qc : Array Value → State → Outcome → State → Prop} {XC : String → State → State → Prop} {mc ms : Nat} {free : Addr → Prop} {cc : ByteArray} {maxL : Nat} {ret : Option FieldType} {hh : List (Nat × Nat × Nat × Nat)}
    (hy : plainName y.cls = true) (hw : ws = Cond.codeWith y cc maxL ret hh :: ws')
    (body : ∀ p e s m args below meth c s₁, BodyLoose p l y (headSpec ws rm) cc maxL ret e s m args below meth c s₁ → c.maxLocals = maxL → Pc args s →
      W p l e (headSpec ws rm).room s m args below meth c s.heap [] 0 0 (vx_MQ below Qc XC args s mc ms free) (entryFrame m args maxL)) : vx_Met l y ws rm Pc Qc XC mc ms free := by
  refine MetFree.of_bodyS (code := cc) (maxLocals := maxL) (ret := ret) hy ?_ ?_
  · intro args s m h hn
    obtain ⟨m9, meth, c, hn9, h1, h2, h3, h4, -, h5, h6, -⟩ := Cond.codeWith_spec (atoms_spec (ws := ws) h _ (by rw [hw]; exact List.mem_cons_self))
    cases hn.symm.trans hn9
    exact ⟨meth, c, h1, h2, h3, h4, h5, h6⟩
  · intro p e s m args below meth c s₁ B hml hP _
    have hh0 : s₁.heap = s.heap := by rw [B.state]; rfl
    obtain ⟨t, a1, o, b1, b2, b3⟩ := body p e s m args below meth c s₁ B hml hP s₁ hh0 (Stand.of_body B)
    exact ⟨t, o, a1, b1, b2, b3⟩
/-! ===== END ===== -/

/-! ===== BEGIN what the machine throws by itself, no traces kept ===== -/
section VXM
set_option maxHeartbeats 1000000 in
/-- the machine throws cls with the message text, no traces kept: from its note over the frame g to 'throwing' over the same frame (follows the proofs of Stand.vmThrowsMessage, Shelf/KitTracedVmS.lean, and Stand.throwsMessageColdBareV, StandMessageColdV.lean, without the step out of the frame) -/
theorem vx_vmAt {p : Program} {l : Launch} {e : Env} {R : Room} {s : State} {m₀ : MethodId} {args : Array Value} {below : List Frame} {meth : Method} {c : Code} {W : State} {locs : List Loc} {cells slots : Nat}
    (X : Stand p l e R s m₀ args below meth c W locs cells slots) (hexec : p.tables.exec = Jvm.exec) (htr : e.platform.stackTraces = false) {cls : String} {names : List String} {text : String}
    (hcls : Bundle.fit cls = true) (hnames : ∀ n ∈ names, Bundle.fit n = true) (hsoe : (cls == "java/lang/StackOverflowError") = false) (hoom : (cls == "java/lang/OutOfMemoryError") = false)
    (h : ∀ a ∈ Bundle.messageArmAtoms cls names, a.before args s = true)
    (hlocs : ∀ x ∈ locs, ∀ cell, s.heap[x.base]? = some cell → cell.vm.isStatics = false)
    (htext : (text == notModelled) = false) (hlimit : ¬ (stringBytes (stringToUtf16 text)).size > e.platform.arrayLengthLimit) (hheap : ¬ (stringBytes (stringToUtf16 text)).size * componentBytes .byte > e.platform.maxHeapBytes)
    {g : JFrame} (hg : g.method = m₀) (hsize : g.locals.size = c.maxLocals)
    (hRframes : names.length + 4 < R.frames) (hRlocals : 2 * g.monitorRoom + (g.stack.map fun v => v.category).sum + 10240 ≤ R.locals) (hshort : 13 * names.length + 55 ≤ 10240)
    (hRcells : cells + 3 ≤ R.cells) (hRslots : slots + ((stringBytes (stringToUtf16 text)).size + 4 + 6) ≤ R.slots) (hlocks : meth.locks = false) :
    ∃ (S : State) (q : Addr) (ce : Cell), (∀ target, Steps p.tables e below ((S.setTop g).pushFrame (.throwing q)) target → Steps p.tables e below ((W.setTop g).pushFrame (.throwNew cls (some text) none)) target) ∧
      Stand p l e R s m₀ args below meth c S locs (cells + 3) (slots + ((stringBytes (stringToUtf16 text)).size + 4 + 6)) ∧ S.heap[q]? = some ce ∧ s.vm.findClass cls = some ce.cls ∧ ce.vm = .none := by
  have howns : e.platform.frameOwnsMonitors = true := by rw [X.admits.platform]
  have hfin : e.platform.finalization = false := by rw [X.admits.platform]
  have hpl : e.platform.magicAccessors = ({} : Platform).magicAccessors := by rw [X.admits.platform]
  have a : ∀ x, x ∈ Bundle.messageArmAtoms cls names → x.holds args s none s [] = true := fun x hx => h x hx
  obtain ⟨T, Z0, L, -, Y⟩ := ThrowableC.of_atoms (args := args) howns hfin hpl (fun x hx => h x (by simp [Bundle.messageArmAtoms, hx]))
  obtain ⟨Z, M, LZ, LM, hnZ⟩ := Init0T.ofS_atoms (args := args) hpl L Y (fun x hx => h x (by simp [Bundle.messageArmAtoms, hx]))
  obtain ⟨P1, Ps, hlen, L1, hL, hP1m, hlink1, hlink⟩ := Bundle.chainS (args := args) hpl hnZ names cls hcls hnames (fun x hx => h x (by simp [Bundle.messageArmAtoms, hx]))
  obtain ⟨Zs, LZs, hn4, hfitv, hfitc⟩ := StringT.of_atoms (args := args) (fun x hx => h x (by simp [Bundle.messageArmAtoms, hx]))
  have hfound : s.vm.findClass cls = some P1.m.cls := findClass_of_methodNamed hP1m
  obtain ⟨c1, kX, hc1, hk, hord, -, -, hn6⟩ := Cond.instantiable_spec (a (.instantiable cls 6) (by simp [Bundle.messageArmAtoms]))
  cases Option.some.inj (hc1.symm.trans hfound)
  have hinit := Cond.initialized_spec hfound hk (a (.initialized cls) (by simp [Bundle.messageArmAtoms]))
  have hctor : kX.findMethod "<init>" "(Ljava/lang/String;)V" = some P1.m.idx := findMethod_of_methodNamed hP1m hk
  have hsel0 : selectMethod e.platform s.vm P1.m.cls T.fill0 = .method T.fill0 := by
    obtain ⟨c2, r2, m2, q1, q2, q3, q4, -⟩ := Cond.selects_spec (a (.selects cls Bundle.tFill0 Bundle.tFill0) (by simp [Bundle.messageArmAtoms]))
    cases Option.some.inj (q1.symm.trans hfound)
    cases Option.some.inj (q2.symm.trans (State.methodFound?_of_named Y.fill0 (by decide)))
    cases Option.some.inj (q3.symm.trans Y.fill0)
    rw [Launch.admits_selectMethod X.admits]; exact q4
  have hselF : selectMethod e.platform s.vm P1.m.cls T.fill = .method T.fill := by
    obtain ⟨c2, r2, m2, q1, q2, q3, q4, -⟩ := Cond.selects_spec (a (.selects cls Bundle.tFill Bundle.tFill) (by simp [Bundle.messageArmAtoms]))
    cases Option.some.inj (q1.symm.trans hfound)
    cases Option.some.inj (q2.symm.trans (State.methodFound?_of_named Y.fill (by decide)))
    cases Option.some.inj (q3.symm.trans Y.fill)
    rw [Launch.admits_selectMethod X.admits]; exact q4
  obtain ⟨cellS0, hcS0, hiss⟩ := Y.statics
  obtain ⟨u0, hu0⟩ := Cond.staticRefV Y.unassigned L.unassignedStatic L.statics hcS0 hiss (a (.isRef (.static Bundle.tN "UNASSIGNED_STACK" Bundle.steD)) (by simp [Bundle.messageArmAtoms]))
  obtain ⟨sen, hsen⟩ := Cond.staticRefV Y.sentinel L.sentinelStatic L.statics hcS0 hiss (a (.isRef (.static Bundle.tN "SUPPRESSED_SENTINEL" Bundle.listD)) (by simp [Bundle.messageArmAtoms]))
  obtain ⟨ci198, i198, fB, hk198, hg198, ha198, hsB, -, hnB, htB, hffB⟩ := Cond.ownField (t := .object "java/lang/Object") Y.found L.cls (by decide +kernel) (a (.fieldLink Bundle.tN 198 Bundle.tN "backtrace" "Ljava/lang/Object;") (by simp [Bundle.messageArmAtoms])) (a (.lays Bundle.tN Bundle.tN "backtrace" "Ljava/lang/Object;") (by simp [Bundle.messageArmAtoms])) e.platform hpl
  obtain ⟨cellS, hcS', heS, -, hkeep⟩ := X.same.2.2.2.2.2 T.aS cellS0 hcS0
  have hcellS : W.heap[T.aS]? = some cellS := hcS'
  have hout' : ∀ i, (⟨T.aS, i⟩ : Loc) ∉ locs := fun i hmem => by
    have := hlocs _ hmem cellS0 hcS0
    rw [hiss] at this; cases this
  have hknownS : cellS.vm ≠ .unknown := by
    rw [heS]; intro hu
    rw [show cellS0.vm = .unknown from hu] at hiss
    cases hiss
  have hvU : cellS.slots[T.fUnassigned.slot]? = some u0.v := by rw [hkeep _ (hout' _)]; exact hu0
  have hvSen : cellS.slots[T.fSentinel.slot]? = some sen.v := by rw [hkeep _ (hout' _)]; exact hsen
  obtain ⟨iM, hffM⟩ := Y.msg
  obtain ⟨tyC, dC, hdC, hdnC⟩ := Cond.laysAt hfound hk Y.cause (a (.lays cls Bundle.tN "cause" "Ljava/lang/Throwable;") (by simp [Bundle.messageArmAtoms]))
  obtain ⟨tyS, dS, hdS, hdnS⟩ := Cond.laysAt hfound hk Y.stack (a (.lays cls Bundle.tN "stackTrace" Bundle.steD) (by simp [Bundle.messageArmAtoms]))
  obtain ⟨tyP, dP, hdP, hdnP⟩ := Cond.laysAt hfound hk Y.supp (a (.lays cls Bundle.tN "suppressedExceptions" Bundle.listD) (by simp [Bundle.messageArmAtoms]))
  obtain ⟨tyM, dM, hdM, hdnM⟩ := Cond.laysAt hfound hk hffM (a (.lays cls Bundle.tN "detailMessage" "Ljava/lang/String;") (by simp [Bundle.messageArmAtoms]))
  obtain ⟨tyB, dB, hdB, hdnB⟩ := Cond.laysAt hfound hk hffB (a (.lays cls Bundle.tN "backtrace" "Ljava/lang/Object;") (by simp [Bundle.messageArmAtoms]))
  have bC := Cond.laysApart hdB hdC hdnB hdnC (by rw [hnB, Y.causeName]; decide)
  have bS := Cond.laysApart hdB hdS hdnB hdnS (by rw [hnB, Y.stackName]; decide)
  have bP := Cond.laysApart hdB hdP hdnB hdnP (by rw [hnB, Y.suppName]; decide)
  have hbk : ((preparedCellV T.toThrowableT (freshCell P1.m.cls kX) (W.heap.size + 2) u0 sen).withEntry W.cur).slots[fB.slot]? = some .null := by
    have := fresh_default (c := P1.m.cls) tyB
    rw [htB] at this
    simpa [preparedCellV, Cell.setSlot, Cell.withEntry, Array.getElem?_setIfInBounds, bC, bS, bP, bC.symm, bS.symm, bP.symm, defaultValue] using this
  have tkC := Takes.of_laid (v := .ref (W.heap.size + 2)) hk hord tyC (by rw [Y.causeType]; rfl)
  have tkS := Takes.of_laid (v := u0.v) hk hord tyS (by rw [Y.stackType]; exact fits_refV_array _ u0)
  have tkP := Takes.of_laid (v := sen.v) hk hord tyP (by rw [Y.suppType]; exact fits_refV_object _ sen)
  have tkM := Takes.of_laid (v := .ref (W.heap.size + 1)) hk hord tyM (by rw [Y.msgType]; rfl)
  have hskip : SkipFacts T e.platform s (fun u => u) u0 ((preparedCellV T.toThrowableT (freshCell P1.m.cls kX) (W.heap.size + 2) u0 sen).withEntry W.cur) := ⟨{ ci198 := ci198, i198 := i198, fBack := fB }, ⟨hk198, hg198, ha198, hsB⟩, hbk, fun _ _ => rfl⟩
  have h0 : At W g.method c below := by rw [hg]; exact X.here
  obtain ⟨hbeyond, hfreeW⟩ := X.vmMayThrow hsize (.throwNew cls (some text) none) (fun f hf => by cases hf) rfl hRlocals
  have hfr' : W.frames.length + Ps.length + 4 < (e.platform.stackLimits W.me).1 := by have := X.framesAbove hRframes; omega
  have hwd' : (stackUse (.java g :: W.frames.tail)).2 + 13 * Ps.length + 55 ≤ (e.platform.stackLimits W.me).2 := by have := X.stackAbove hsize (K := 13 * Ps.length + 55) (by omega); omega
  have hslots : W.slotsUsed + (stringBytes (stringToUtf16 text)).size + Zs.kS.instanceTypes.size + kX.instanceTypes.size ≤ e.platform.maxSlots := by
    have := X.slotsAbove hRslots
    rw [hn4, hn6]
    omega
  obtain ⟨vm', hW', st⟩ := Steps.vmThrowsMessageColdByV p (s₀ := s) (S := W) (g := g) h0 hexec T L Z LZ M LM X.warmed (t := W.cur) rfl Zs LZs P1 L1 Ps hL hlink1 hlink hsoe hoom hfound hk hinit hord hctor
    (Launch.admits_hotImplicitExceptions X.admits) hbeyond hfreeW htext hlimit hheap (X.cellsAbove hRcells) hslots (hfitv _) (hfitc _)
    (Nn := fun u => u) heapOnly_id (fun _ _ => rfl) (fun _ => rfl) (fun u x y => setCell_twice _ _ _ _) (fun _ => Nat.le_refl _) (cN := ((preparedCellV T.toThrowableT (freshCell P1.m.cls kX) (W.heap.size + 2) u0 sen).withEntry W.cur))
    hsel0 hcellS hknownS hvU tkS (fun _ hu => hu) (fun _ hu => hu) rfl rfl rfl (by simp [preparedCellV, Cell.setSlot, Cell.withEntry]) hskip (fun _ _ hA hW _ hroom _ hrest => L.nativeOff p htr hA hW hroom hrest) hselF hvSen tkC tkP tkM Y.objLocals rfl hfr' hwd'
  rw [plainBareV_eq T.toThrowableT (W.heap.size + 2) u0 sen (.ref (W.heap.size + 1)) W.cur rfl rfl] at st
  obtain ⟨-, -, w3, w4, -, -, -⟩ := withThrown_facts e.platform W Zs text P1.m.cls kX
  have X3 := ((X.pushed (bytesOf Zs.cB (stringToUtf16 text))).pushed (stringAt Zs.cS Zs.kS Zs.fv Zs.fc (stringToUtf16 text) W.heap.size)).pushed (freshCell P1.m.cls kX)
  rw [← withString_eq] at X3
  have X4 := X3.noted hW'
  have ha : (W.heap.size + 2) < ((withThrown W Zs text P1.m.cls kX).setVm vm').heap.size := by show _ < (withThrown W Zs text P1.m.cls kX).heap.size; rw [w3]; omega
  have hcell : ((withThrown W Zs text P1.m.cls kX).setVm vm').heap[(W.heap.size + 2)]? = some (freshCell P1.m.cls kX) := w4
  have X5 := ((((X4.stored hcell T.fCause.slot (.ref (W.heap.size + 2))).storedAgain ha T.fStack.slot u0.v).storedAgain ha T.fSupp.slot sen.v).storedAgain ha T.fStack.slot u0.v).storedAgain ha T.fMsg.slot (.ref (W.heap.size + 1))
  obtain ⟨g₁, hfrM⟩ := X5.frames_eq
  have hU : ((((withThrown W Zs text P1.m.cls kX).setVm vm').setCell (W.heap.size + 2) (plainBareV T.toThrowableT (freshCell P1.m.cls kX) (W.heap.size + 2) u0 sen (.ref (W.heap.size + 1)))).setTop g).pushFrame (.throwing (W.heap.size + 2)) = (((withThrown W Zs text P1.m.cls kX).setVm vm').setCell (W.heap.size + 2) (plainBareV T.toThrowableT (freshCell P1.m.cls kX) (W.heap.size + 2) u0 sen (.ref (W.heap.size + 1)))).setFrames (.throwing (W.heap.size + 2) :: .java g :: below) := by
    rw [State.pushFrame, State.frames_setTop _ hfrM, State.setTop_of_frames _ hfrM, State.setFrames_setFrames]
  have b1 : (bytesOf Zs.cB (stringToUtf16 text)).slots.size = (stringBytes (stringToUtf16 text)).size := by
    rw [(Cell.writeAll_facts _ _).2.2]; simp [bytes0]
  have b2 : (stringAt Zs.cS Zs.kS Zs.fv Zs.fc (stringToUtf16 text) W.heap.size).slots.size = 4 := by simp [string0, Cell.setSlot, hn4]
  have b3 : (freshCell P1.m.cls kX).slots.size = 6 := by simp [hn6]
  rw [b1, b2, b3] at X5
  have e9 : slots + (stringBytes (stringToUtf16 text)).size + 4 + 6 = slots + ((stringBytes (stringToUtf16 text)).size + 4 + 6) := by omega
  rw [e9] at X5
  simp only [List.append_assoc, List.cons_append, List.nil_append] at X5
  refine ⟨((withThrown W Zs text P1.m.cls kX).setVm vm').setCell (W.heap.size + 2) (plainBareV T.toThrowableT (freshCell P1.m.cls kX) (W.heap.size + 2) u0 sen (.ref (W.heap.size + 1))), W.heap.size + 2, _, fun target ht => st _ (by rw [X.tail, ← hU]; exact ht),
    X5.forget (fun y hy => ?_), heapAt_setCell_self _ ha, hfound, rfl⟩
  simp only [List.mem_cons, List.not_mem_nil, or_false] at hy
  have hge : s.heap.size ≤ W.heap.size := X.same.2.1
  rcases hy with rfl | rfl | rfl | rfl | rfl <;> exact Nat.le_trans hge (Nat.le_add_right _ 2)
set_option maxHeartbeats 1000000 in
/-- the machine throws NullPointerException, no traces kept: from its note over the frame g to 'throwing' over the same frame (follows the proof of Stand.vmThrowsNpe, Shelf42/KT2.lean; throwsNpeColdBareVAt, Shelf42/NT91.lean, called) -/
theorem vx_npeAt {p : Program} {l : Launch} {e : Env} {R : Room} {s : State} {m₀ : MethodId} {args : Array Value} {below : List Frame} {meth : Method} {c : Code} {W : State} {locs : List Loc} {cells slots : Nat}
    (X : Stand p l e R s m₀ args below meth c W locs cells slots) (hexec : p.tables.exec = Jvm.exec) (htr : e.platform.stackTraces = false) {n : Nat}
    (h : ∀ a ∈ Bundle.npeArmAtoms n, a.before args s = true)
    (hlocs : ∀ x ∈ locs, ∀ cell, s.heap[x.base]? = some cell → cell.vm.isStatics = false)
    {g : JFrame} (hg : g.method = m₀) (hsize : g.locals.size = c.maxLocals)
    (hRframes : 7 < R.frames) (hRlocals : 2 * g.monitorRoom + (g.stack.map fun v => v.category).sum + 10240 ≤ R.locals)
    (hRcells : cells + 1 ≤ R.cells) (hRslots : slots + n ≤ R.slots) (hlocks : meth.locks = false) :
    ∃ (S : State) (q : Addr) (ce : Cell), (∀ target, Steps p.tables e below ((S.setTop g).pushFrame (.throwing q)) target → Steps p.tables e below ((W.setTop g).pushFrame (.throwNew "java/lang/NullPointerException" none none)) target) ∧
      Stand p l e R s m₀ args below meth c S locs (cells + 1) (slots + n) ∧ S.heap[q]? = some ce ∧ s.vm.findClass "java/lang/NullPointerException" = some ce.cls ∧ ce.vm = .none := by
  have howns : e.platform.frameOwnsMonitors = true := by rw [X.admits.platform]
  have hfin : e.platform.finalization = false := by rw [X.admits.platform]
  have hpl : e.platform.magicAccessors = ({} : Platform).magicAccessors := by rw [X.admits.platform]
  have hpl2 : e.platform.arrayCloneIsPublic = true := by rw [X.admits.platform]
  have a' : ∀ x, x ∈ Bundle.npeArmAtoms n → x.holds args s none s [] = true := fun x hx => h x hx
  obtain ⟨T, Z, L, LZ, Y⟩ := ThrowableC.of_atoms (args := args) howns hfin hpl (fun x hx => h x (by simp [Bundle.npeArmAtoms, hx]))
  obtain ⟨N, LN, hcN, hnNF, hordN, hffS⟩ := NpeC.of_atoms (args := args) hpl hpl2 L Y (fun x hx => h x (by simp [Bundle.npeArmAtoms, hx]))
  obtain ⟨P1, L1, hP1m, hP1s⟩ := PassC.of_atoms (args := args) (s := s) hpl (X := Bundle.nN) (Y := Bundle.rN) (by decide) (by decide) LibCode.NullPointerException.Init0.at_0 LibCode.NullPointerException.Init0.at_1 LibCode.NullPointerException.Init0.at_4 (fun x hx => h x (by simp [Bundle.npeArmAtoms, hx]))
  obtain ⟨PR, LR, hPRm, hPRs⟩ := PassC.of_atoms (args := args) (s := s) hpl (X := Bundle.rN) (Y := Bundle.eN) (by decide) (by decide) LibCode.RuntimeException.Init0.at_0 LibCode.RuntimeException.Init0.at_1 LibCode.RuntimeException.Init0.at_4 (fun x hx => h x (by simp [Bundle.npeArmAtoms, hx]))
  obtain ⟨PE, LEx, hPEm, hPEs⟩ := PassC.of_atoms (args := args) (s := s) hpl (X := Bundle.eN) (Y := Bundle.tN) (by decide) (by decide) LibCode.Exception.Init0.at_0 LibCode.Exception.Init0.at_1 LibCode.Exception.Init0.at_4 (fun x hx => h x (by simp [Bundle.npeArmAtoms, hx]))
  have hfound : s.vm.findClass Bundle.nN = some P1.m.cls := findClass_of_methodNamed hP1m
  have ecls : N.cN = P1.m.cls := Option.some.inj (hcN.symm.trans hfound)
  have hk : s.vm.classes[P1.m.cls]? = some N.kN := by rw [← ecls]; exact LN.cls
  have hinit := Cond.initialized_spec hfound hk (a' (.initialized Bundle.nN) (by simp [Bundle.npeArmAtoms]))
  have hctor : N.kN.findMethod "<init>" "()V" = some P1.m.idx := findMethod_of_methodNamed hP1m hk
  obtain ⟨c1, k1, hc1, hk1, -, -, -, hn⟩ := Cond.instantiable_spec (a' (.instantiable Bundle.nN n) (by simp [Bundle.npeArmAtoms]))
  cases Option.some.inj (hc1.symm.trans hfound)
  cases Option.some.inj (hk1.symm.trans hk)
  have hfsz : (freshCell P1.m.cls N.kN).slots.size = n := by simp [hn]
  have hlink1 : P1.sup = PR.m := Option.some.inj (hP1s.symm.trans hPRm)
  have hlinkR : PR.sup = PE.m := Option.some.inj (hPRs.symm.trans hPEm)
  have hlinkE : PE.sup = Z.m T.toThrowableT := Option.some.inj (hPEs.symm.trans Y.init0)
  have hLs : ∀ P, P ∈ [PR, PE] → P.Links0 e.platform s := fun P hP => by
    simp only [List.mem_cons, List.not_mem_nil, or_false] at hP
    rcases hP with rfl | rfl
    · exact LR
    · exact LEx
  have hsel0 : selectMethod e.platform s.vm P1.m.cls T.fill0 = .method T.fill0 := by
    obtain ⟨c2, r2, m2, q1, q2, q3, q4, -⟩ := Cond.selects_spec (a' (.selects Bundle.nN Bundle.tFill0 Bundle.tFill0) (by simp [Bundle.npeArmAtoms]))
    cases Option.some.inj (q1.symm.trans hfound)
    cases Option.some.inj (q2.symm.trans (State.methodFound?_of_named Y.fill0 (by decide)))
    cases Option.some.inj (q3.symm.trans Y.fill0)
    rw [Launch.admits_selectMethod X.admits]; exact q4
  have hselF : selectMethod e.platform s.vm P1.m.cls T.fill = .method N.fill := by
    obtain ⟨c2, r2, m2, q1, q2, q3, q4, -⟩ := Cond.selects_spec (a' (.selects Bundle.nN Bundle.tFill Bundle.nFill) (by simp [Bundle.npeArmAtoms]))
    cases Option.some.inj (q1.symm.trans hfound)
    cases Option.some.inj (q2.symm.trans (State.methodFound?_of_named Y.fill (by decide)))
    cases Option.some.inj (q3.symm.trans hnNF)
    rw [Launch.admits_selectMethod X.admits]; exact q4
  obtain ⟨cellS0, hcS0, hiss⟩ := Y.statics
  obtain ⟨u0, hu0⟩ := Cond.staticRefV Y.unassigned L.unassignedStatic L.statics hcS0 hiss (a' (.isRef (.static Bundle.tN "UNASSIGNED_STACK" Bundle.steD)) (by simp [Bundle.npeArmAtoms]))
  obtain ⟨sen, hsen⟩ := Cond.staticRefV Y.sentinel L.sentinelStatic L.statics hcS0 hiss (a' (.isRef (.static Bundle.tN "SUPPRESSED_SENTINEL" Bundle.listD)) (by simp [Bundle.npeArmAtoms]))
  obtain ⟨ci198, i198, fB, hk198, hg198, ha198, hsB, -, hnB, htB, hffB⟩ := Cond.ownField (t := .object "java/lang/Object") Y.found L.cls (by decide +kernel) (a' (.fieldLink Bundle.tN 198 Bundle.tN "backtrace" Bundle.objD) (by simp [Bundle.npeArmAtoms])) (a' (.lays Bundle.tN Bundle.tN "backtrace" Bundle.objD) (by simp [Bundle.npeArmAtoms])) e.platform hpl
  obtain ⟨cellS, hcS', heS, -, hkeep⟩ := X.same.2.2.2.2.2 T.aS cellS0 hcS0
  have hcellS : W.heap[T.aS]? = some cellS := hcS'
  have hout' : ∀ i, (⟨T.aS, i⟩ : Loc) ∉ locs := fun i hmem => by
    have := hlocs _ hmem cellS0 hcS0
    rw [hiss] at this; cases this
  have hknownS : cellS.vm ≠ .unknown := by
    rw [heS]; intro hu
    rw [show cellS0.vm = .unknown from hu] at hiss
    cases hiss
  have hvU : cellS.slots[T.fUnassigned.slot]? = some u0.v := by rw [hkeep _ (hout' _)]; exact hu0
  have hvSen : cellS.slots[T.fSentinel.slot]? = some sen.v := by rw [hkeep _ (hout' _)]; exact hsen
  obtain ⟨tyC, dC, hdC, hdnC⟩ := Cond.laysAt hfound hk Y.cause (a' (.lays Bundle.nN Bundle.tN "cause" "Ljava/lang/Throwable;") (by simp [Bundle.npeArmAtoms]))
  obtain ⟨tyS, dS, hdS, hdnS⟩ := Cond.laysAt hfound hk Y.stack (a' (.lays Bundle.nN Bundle.tN "stackTrace" Bundle.steD) (by simp [Bundle.npeArmAtoms]))
  obtain ⟨tyP, dP, hdP, hdnP⟩ := Cond.laysAt hfound hk Y.supp (a' (.lays Bundle.nN Bundle.tN "suppressedExceptions" Bundle.listD) (by simp [Bundle.npeArmAtoms]))
  obtain ⟨tyX, dX, hdX, hdnX⟩ := Cond.laysAt hfound hk hffS (a' (.lays Bundle.nN Bundle.nN "extendedMessageState" "I") (by simp [Bundle.npeArmAtoms, Bundle.npeAtoms]))
  obtain ⟨hnX, htX⟩ := State.fieldFound?_type hffS (t := .int) (by decide +kernel)
  have xC := Cond.laysApart hdC hdX hdnC hdnX (by rw [hnX, Y.causeName]; decide)
  have xS := Cond.laysApart hdS hdX hdnS hdnX (by rw [hnX, Y.stackName]; decide)
  have xP := Cond.laysApart hdP hdX hdnP hdnX (by rw [hnX, Y.suppName]; decide)
  have hv0 : (freshCell P1.m.cls N.kN).slots[N.fState.slot]? = some (.int 0) := by
    have := fresh_default (c := P1.m.cls) tyX
    rw [htX] at this; exact this
  obtain ⟨tyB, dB, hdB, hdnB⟩ := Cond.laysAt hfound hk hffB (a' (.lays Bundle.nN Bundle.tN "backtrace" Bundle.objD) (by simp [Bundle.npeArmAtoms]))
  have bC := Cond.laysApart hdB hdC hdnB hdnC (by rw [hnB, Y.causeName]; decide)
  have bS := Cond.laysApart hdB hdS hdnB hdnS (by rw [hnB, Y.stackName]; decide)
  have bP := Cond.laysApart hdB hdP hdnB hdnP (by rw [hnB, Y.suppName]; decide)
  have bX := Cond.laysApart hdB hdX hdnB hdnX (by rw [hnB, hnX]; decide)
  have hbk : ((npeCell N.toNpeT (preparedCellV T.toThrowableT (freshCell P1.m.cls N.kN) W.heap.size u0 sen) W.cur).withEntry W.cur).slots[fB.slot]? = some .null := by
    have := fresh_default (c := P1.m.cls) tyB
    rw [htB] at this
    simpa [npeCell, preparedCellV, Cell.setSlot, Cell.withEntry, Array.getElem?_setIfInBounds, bC, bS, bP, bX, bC.symm, bS.symm, bP.symm, bX.symm, defaultValue] using this
  have tkC := Takes.of_laid (v := .ref W.heap.size) hk hordN tyC (by rw [Y.causeType]; rfl)
  have tkS := Takes.of_laid (v := u0.v) hk hordN tyS (by rw [Y.stackType]; exact fits_refV_array _ u0)
  have tkP := Takes.of_laid (v := sen.v) hk hordN tyP (by rw [Y.suppType]; exact fits_refV_object _ sen)
  have tkX := Takes.of_laid (v := .int 1) hk hordN tyX (by rw [htX]; rfl)
  have hskip : SkipFacts T e.platform s (fun u => u) u0 ((npeCell N.toNpeT (preparedCellV T.toThrowableT (freshCell P1.m.cls N.kN) W.heap.size u0 sen) W.cur).withEntry W.cur) := ⟨{ ci198 := ci198, i198 := i198, fBack := fB }, ⟨hk198, hg198, ha198, hsB⟩, hbk, fun _ _ => rfl⟩
  obtain ⟨vm', X3, st, -⟩ := X.throwsNpeColdBareVAt hexec hg hsize T L Z LZ N LN P1 L1 [PR, PE] hLs hlink1 ⟨hlinkR, hlinkE, trivial⟩ hfound hk hinit hordN hctor hsel0 hselF hcellS hknownS hvU hvSen
    hv0 xC xS xP tkC tkS tkP tkX Y.objLocals hskip (fun _ _ hA hW _ hroom _ hrest => L.nativeOff p htr hA hW hroom hrest) (by simpa using hRframes) hRlocals (by simp) hRcells (by rw [hn]; exact hRslots)
  have hlt : W.heap.size < ((W.pushCell (freshCell P1.m.cls N.kN)).setVm vm').heap.size := by
    show W.heap.size < (W.pushCell (freshCell P1.m.cls N.kN)).heap.size
    rw [State.heap_size_pushCell]; omega
  rw [hfsz] at X3
  obtain ⟨g₁, hfrM⟩ := X3.frames_eq
  have hU : ((((W.pushCell (freshCell P1.m.cls N.kN)).setVm vm').setCell W.heap.size (npeBareV T.toThrowableT N.toNpeT (freshCell P1.m.cls N.kN) W.heap.size u0 sen)).setTop g).pushFrame (.throwing W.heap.size) = (((W.pushCell (freshCell P1.m.cls N.kN)).setVm vm').setCell W.heap.size (npeBareV T.toThrowableT N.toNpeT (freshCell P1.m.cls N.kN) W.heap.size u0 sen)).setFrames (.throwing W.heap.size :: .java g :: below) := by
    rw [State.pushFrame, State.frames_setTop _ hfrM, State.setTop_of_frames _ hfrM, State.setFrames_setFrames]
  refine ⟨_, W.heap.size, _, fun target ht => st.trans (by rw [← hU]; exact ht), X3.forget (fun y hy => ?_), heapAt_setCell_self _ hlt, hfound, rfl⟩
  simp only [List.mem_cons, List.not_mem_nil, or_false] at hy
  have hge : s.heap.size ≤ W.heap.size := X.same.2.1
  rcases hy with rfl | rfl | rfl | rfl | rfl <;> exact hge
/-- the words of a machine's NullPointerException, but the four that speak of the heap -/
def vx_atN (n : Nat) : List Cond := (Bundle.npeArmAtoms n).filter vx_no
/-- the words of a machine's throw with a message, but the four that speak of the heap -/
def vx_atM (X : String) (names : List String) : List Cond := (Bundle.messageArmAtoms X names).filter vx_no
section
variable {p : Program} {l : Launch} {e : Env} {R : Room} {s : State} {m : MethodId} {args : Array Value} {below : List Frame} {meth : Method} {c : Code} {H : Heap} {locs : List Loc} {cells slots : Nat}
/-- a frame seen from a rebased start, seen from the first start again -/
theorem vx_back9 {T S : State} {R' : Room} {k n : Nat} (X : Stand p l e R s m args below meth c T locs cells slots) (Y : Stand p l e R' ((T.setVm s.vm).setFrames (.invoking m args :: below)) m args below meth c T [] 0 0) (Z : Stand p l e R' ((T.setVm s.vm).setFrames (.invoking m args :: below)) m args below meth c S [] k n) :
    Stand p l e R s m args below meth c S locs (cells + k) (slots + n) := by
  have hW0 : s.WarmedH ((T.setVm s.vm).setFrames (.invoking m args :: below)).vm := State.WarmedH.refl s
  refine { admits := X.admits, cas := X.cas, clock := X.clock, frames := X.frames, room := X.room, hears := X.hears, method := X.method, code := X.code, here := Z.here, tail := Z.tail, warmed := State.WarmedH.trans hW0 Z.warmed, limits := Z.limits.trans (Y.limits.symm.trans X.limits), bytes := Z.bytes.trans (Y.bytes.symm.trans X.bytes), same := ?_ }
  obtain ⟨e1, e2⟩ := Z.same
  rw [State.setFrames_setFrames] at e1
  have h2 : (T.setVm s.vm).sameButNew (S.setVm s.vm) [] k n := ⟨e1, e2⟩
  have h3 := X.same.trans h2
  rw [List.append_nil] at h3
  exact h3
/-- from the machine's note that E is thrown here with this text -/
def vx_Note (p : Program) (l : Launch) (e : Env) (R : Room) (s : State) (m : MethodId) (args : Array Value) (below : List Frame) (meth : Method) (c : Code) (H : Heap) (locs : List Loc) (cells slots : Nat) (Q : State → Prop) (g : JFrame) (E text : String) : Prop :=
  ∀ T : State, T.heap = H → Stand p l e R s m args below meth c T locs cells slots → ∃ t, Steps p.tables e below ((T.setTop g).pushFrame (.throwNew E (some text) none)) t ∧ Q t
theorem vx_vm {pc : Nat} {ls : Array Slot} {rest : List Value} {Q : State → Prop} (hexec : p.tables.exec = Jvm.exec) (hl : l.stackTraces = false) {cls text : String} {names : List String} {nb : Nat} {A : Nat → Prop}
    (hcls : Bundle.fit cls = true) (hnames : ∀ n ∈ names, Bundle.fit n = true) (hsoe : (cls == "java/lang/StackOverflowError") = false) (hoom : (cls == "java/lang/OutOfMemoryError") = false)
    (hat : ∀ w ∈ vx_atM cls names, w.before args s = true) (hgood : ∀ w ∈ vx_atM cls names, vx_ot w = true)
    (hU : vx_Zq Bundle.tN "UNASSIGNED_STACK" Bundle.steD A s s.heap) (hN : vx_Zq Bundle.tN "SUPPRESSED_SENTINEL" Bundle.listD A s s.heap) (hS : va_S A s.heap H locs) (hsize : ls.size = c.maxLocals)
    (htext : (text == notModelled) = false) (hnb : (stringBytes (stringToUtf16 text)).size ≤ nb) (hnb1 : nb ≤ 1000)
    (hRframes : names.length + 4 < R.frames) (hRlocals : (rest.map fun v => v.category).sum + 10240 ≤ R.locals) (hshort : 13 * names.length + 55 ≤ 10240) (hRcells : cells + 3 ≤ R.cells) (hRslots : slots + (nb + 10) ≤ R.slots) (hlocks : meth.locks = false)
    (k : ∀ (H1 : Heap) (q9 : Addr) (ce : Cell), H.size ≤ H1.size → (∀ q : Nat, q < H.size → H1[q]? = H[q]?) → va_S A s.heap H1 locs → H1[q9]? = some ce → ce.vm = .none → s.vm.findClass cls = some ce.cls → vx_W p l e R s m args below meth c H1 locs (cells + 3) (slots + (nb + 10)) Q (F0 m pc ls rest) q9) :
    vx_Note p l e R s m args below meth c H locs cells slots Q (F0 m pc ls rest) cls text := by
  intro T hT X
  have htr : e.platform.stackTraces = false := (show e.platform.stackTraces = l.stackTraces by rw [X.admits.platform]).trans hl
  have Y := vx_rebase X (R' := { frames := R.frames, locals := R.locals, cells := 3, slots := nb + 10 }) (Nat.le_refl _) (Nat.le_refl _) hRcells hRslots
  have hhp : ((T.setVm s.vm).setFrames (.invoking m args :: below)).heap = H := hT
  have hW0 : s.WarmedH ((T.setVm s.vm).setFrames (.invoking m args :: below)).vm := State.WarmedH.refl s
  have hat' : ∀ w ∈ vx_atM cls names, w.before args ((T.setVm s.vm).setFrames (.invoking m args :: below)) = true := fun w hw => vx_ot_at hW0 rfl (hgood w hw) (hat w hw)
  have hU' : vx_Zq Bundle.tN "UNASSIGNED_STACK" Bundle.steD A ((T.setVm s.vm).setFrames (.invoking m args :: below)) ((T.setVm s.vm).setFrames (.invoking m args :: below)).heap := by rw [hhp]; exact vx_Zq.moved hW0.alike (hU.kept hS.2.1)
  have hN' : vx_Zq Bundle.tN "SUPPRESSED_SENTINEL" Bundle.listD A ((T.setVm s.vm).setFrames (.invoking m args :: below)) ((T.setVm s.vm).setFrames (.invoking m args :: below)).heap := by rw [hhp]; exact vx_Zq.moved hW0.alike (hN.kept hS.2.1)
  obtain ⟨S, q, ce, st, Z, hce, hcl', hv⟩ := vx_vmAt Y hexec htr (cls := cls) (names := names) (text := text) hcls hnames hsoe hoom (vx_own hat' (vx_isRefq hU'.1) (vx_isRefq hN'.1) hU'.2.word hN'.2.word) (fun x hx => nomatch hx) htext
    (by rw [Launch.admits_arrayLengthLimit X.admits]; omega) (by rw [Launch.admits_maxHeapBytes X.admits]; simp only [componentBytes]; omega)
    (g := F0 m pc ls rest) rfl hsize hRframes (by show 2 * 0 + (rest.map fun v => v.category).sum + 10240 ≤ R.locals; omega) hshort (by show 0 + 3 ≤ 3; omega) (by show 0 + (_ + 4 + 6) ≤ nb + 10; omega) hlocks
  obtain ⟨f1, f2⟩ := vx_frame Z.same
  have f1' : H.size ≤ S.heap.size := by rw [← hT]; exact f1
  have f2' : ∀ q : Nat, q < H.size → S.heap[q]? = H[q]? := fun q hq => by
    rw [← hT]
    exact f2 q (by rw [← hT] at hq; exact hq) (fun z hz => nomatch hz)
  have X5 := vx_back9 X Y Z
  have X6 : Stand p l e R s m args below meth c S locs (cells + 3) (slots + (nb + 10)) := { X5 with same := X5.same.mono (by omega) (by omega) }
  obtain ⟨t, a1, b1⟩ := k S.heap q ce f1' f2' ⟨Nat.le_trans hS.1 f1', fun q h1 h2 => (f2' q (Nat.lt_of_lt_of_le h1 hS.1)).trans (hS.2.1 q h1 h2), hS.2.2⟩ hce hv hcl' S rfl X6
  exact ⟨t, st t a1, b1⟩
/-- from the machine's note that NullPointerException is thrown here -/
def vx_NoteN (p : Program) (l : Launch) (e : Env) (R : Room) (s : State) (m : MethodId) (args : Array Value) (below : List Frame) (meth : Method) (c : Code) (H : Heap) (locs : List Loc) (cells slots : Nat) (Q : State → Prop) (g : JFrame) : Prop :=
  ∀ T : State, T.heap = H → Stand p l e R s m args below meth c T locs cells slots → ∃ t, Steps p.tables e below ((T.setTop g).pushFrame (.throwNew "java/lang/NullPointerException" none none)) t ∧ Q t
theorem vx_npe {pc : Nat} {ls : Array Slot} {rest : List Value} {Q : State → Prop} (hexec : p.tables.exec = Jvm.exec) (hl : l.stackTraces = false) {nb : Nat} {A : Nat → Prop}
    (hat : ∀ w ∈ vx_atN nb, w.before args s = true) (hgood : ∀ w ∈ vx_atN nb, vx_ot w = true)
    (hU : vx_Zq Bundle.tN "UNASSIGNED_STACK" Bundle.steD A s s.heap) (hN : vx_Zq Bundle.tN "SUPPRESSED_SENTINEL" Bundle.listD A s s.heap) (hS : va_S A s.heap H locs) (hsize : ls.size = c.maxLocals)
    (hRframes : 7 < R.frames) (hRlocals : (rest.map fun v => v.category).sum + 10240 ≤ R.locals) (hRcells : cells + 1 ≤ R.cells) (hRslots : slots + nb ≤ R.slots) (hlocks : meth.locks = false)
    (k : ∀ (H1 : Heap) (q9 : Addr) (ce : Cell), H.size ≤ H1.size → (∀ q : Nat, q < H.size → H1[q]? = H[q]?) → va_S A s.heap H1 locs → H1[q9]? = some ce → ce.vm = .none → s.vm.findClass "java/lang/NullPointerException" = some ce.cls → vx_W p l e R s m args below meth c H1 locs (cells + 1) (slots + nb) Q (F0 m pc ls rest) q9) :
    vx_NoteN p l e R s m args below meth c H locs cells slots Q (F0 m pc ls rest) := by
  intro T hT X
  have htr : e.platform.stackTraces = false := (show e.platform.stackTraces = l.stackTraces by rw [X.admits.platform]).trans hl
  have Y := vx_rebase X (R' := { frames := R.frames, locals := R.locals, cells := 1, slots := nb }) (Nat.le_refl _) (Nat.le_refl _) hRcells hRslots
  have hhp : ((T.setVm s.vm).setFrames (.invoking m args :: below)).heap = H := hT
  have hW0 : s.WarmedH ((T.setVm s.vm).setFrames (.invoking m args :: below)).vm := State.WarmedH.refl s
  have hat' : ∀ w ∈ vx_atN nb, w.before args ((T.setVm s.vm).setFrames (.invoking m args :: below)) = true := fun w hw => vx_ot_at hW0 rfl (hgood w hw) (hat w hw)
  have hU' : vx_Zq Bundle.tN "UNASSIGNED_STACK" Bundle.steD A ((T.setVm s.vm).setFrames (.invoking m args :: below)) ((T.setVm s.vm).setFrames (.invoking m args :: below)).heap := by rw [hhp]; exact vx_Zq.moved hW0.alike (hU.kept hS.2.1)
  have hN' : vx_Zq Bundle.tN "SUPPRESSED_SENTINEL" Bundle.listD A ((T.setVm s.vm).setFrames (.invoking m args :: below)) ((T.setVm s.vm).setFrames (.invoking m args :: below)).heap := by rw [hhp]; exact vx_Zq.moved hW0.alike (hN.kept hS.2.1)
  obtain ⟨S, q, ce, st, Z, hce, hcl', hv⟩ := vx_npeAt Y hexec htr (n := nb) (vx_own hat' (vx_isRefq hU'.1) (vx_isRefq hN'.1) hU'.2.word hN'.2.word) (fun x hx => nomatch hx)
    (g := F0 m pc ls rest) rfl hsize hRframes (by show 2 * 0 + (rest.map fun v => v.category).sum + 10240 ≤ R.locals; omega) (by show 0 + 1 ≤ 1; omega) (by show 0 + nb ≤ nb; omega) hlocks
  obtain ⟨f1, f2⟩ := vx_frame Z.same
  have f1' : H.size ≤ S.heap.size := by rw [← hT]; exact f1
  have f2' : ∀ q : Nat, q < H.size → S.heap[q]? = H[q]? := fun q hq => by
    rw [← hT]
    exact f2 q (by rw [← hT] at hq; exact hq) (fun z hz => nomatch hz)
  have X5 := vx_back9 X Y Z
  have X6 : Stand p l e R s m args below meth c S locs (cells + 1) (slots + nb) := { X5 with same := X5.same.mono (by omega) (by omega) }
  obtain ⟨t, a1, b1⟩ := k S.heap q ce f1' f2' ⟨Nat.le_trans hS.1 f1', fun q h1 h2 => (f2' q (Nat.lt_of_lt_of_le h1 hS.1)).trans (hS.2.1 q h1 h2), hS.2.2⟩ hce hv hcl' S rfl X6
  exact ⟨t, st t a1, b1⟩
variable {Q : State → Prop} {cc : ByteArray} {pc : Nat} {ls : Array Slot} {rest : List Value}
theorem vx_idivZ (hexec : p.tables.exec = Jvm.exec) (hb : c.code = cc) {a b : Int32} (h0 : b = 0) (d : decode cc pc = .ok (.idiv, 1)) (k : vx_Note p l e R s m args below meth c H locs cells slots Q (F0 m pc ls rest) "java/lang/ArithmeticException" "/ by zero") :
    W p l e R s m args below meth c H locs cells slots Q (F0 m pc ls (.int b :: .int a :: rest)) := by
  intro T hT X
  obtain ⟨t, st, q⟩ := k T hT X
  exact ⟨t, X.idivZero hexec (g := F0 m pc ls (.int b :: .int a :: rest)) rfl (a := a) (rest := rest) (by rw [h0]) (by rw [hb]; exact d) t st, q⟩
theorem vx_iremZ (hexec : p.tables.exec = Jvm.exec) (hb : c.code = cc) {a b : Int32} (h0 : b = 0) (d : decode cc pc = .ok (.irem, 1)) (k : vx_Note p l e R s m args below meth c H locs cells slots Q (F0 m pc ls rest) "java/lang/ArithmeticException" "/ by zero") :
    W p l e R s m args below meth c H locs cells slots Q (F0 m pc ls (.int b :: .int a :: rest)) := by
  intro T hT X
  obtain ⟨t, st, q⟩ := k T hT X
  exact ⟨t, X.iremZero hexec (g := F0 m pc ls (.int b :: .int a :: rest)) rfl (a := a) (rest := rest) (by rw [h0]) (by rw [hb]; exact d) t st, q⟩
theorem vx_ldivZ (hexec : p.tables.exec = Jvm.exec) (hb : c.code = cc) {a b : Int64} (h0 : b = 0) (d : decode cc pc = .ok (.ldiv, 1)) (k : vx_Note p l e R s m args below meth c H locs cells slots Q (F0 m pc ls rest) "java/lang/ArithmeticException" "/ by zero") :
    W p l e R s m args below meth c H locs cells slots Q (F0 m pc ls (.long b :: .long a :: rest)) := by
  intro T hT X
  obtain ⟨t, st, q⟩ := k T hT X
  exact ⟨t, X.ldivZero hexec (g := F0 m pc ls (.long b :: .long a :: rest)) rfl (a := a) (rest := rest) (by rw [h0]) (by rw [hb]; exact d) t st, q⟩
theorem vx_lremZ (hexec : p.tables.exec = Jvm.exec) (hb : c.code = cc) {a b : Int64} (h0 : b = 0) (d : decode cc pc = .ok (.lrem, 1)) (k : vx_Note p l e R s m args below meth c H locs cells slots Q (F0 m pc ls rest) "java/lang/ArithmeticException" "/ by zero") :
    W p l e R s m args below meth c H locs cells slots Q (F0 m pc ls (.long b :: .long a :: rest)) := by
  intro T hT X
  obtain ⟨t, st, q⟩ := k T hT X
  exact ⟨t, X.lremZero hexec (g := F0 m pc ls (.long b :: .long a :: rest)) rfl (a := a) (rest := rest) (by rw [h0]) (by rw [hb]; exact d) t st, q⟩
theorem vx_ialdZ {D : va_G} {cl : List vw_C} {ws : va_W} {tys : List (ClassId × FieldType)} {a : Nat} (hexec : p.tables.exec = Jvm.exec) (hb : c.code = cc) (hK : va_K D cl tys s) (hP : va_P D cl ws H) (q0 t0 : Nat) {cA : ClassId} {n : Nat} {f : Nat → Int32} (ha : ws[q0]? = some (a, .inl (cA, n, .inl f))) (ht : tys[t0]? = some (cA, .int)) {i : Int32} (hout : ¬ vp_in i n) (hdg : decode cc pc = .ok (.iaload, 1))
    (k : ∀ tx : String, tx = (toString "Index " ++ toString i ++ toString " out of bounds for length " ++ toString n : String) → vx_Note p l e R s m args below meth c H locs cells slots Q (F0 m pc ls rest) "java/lang/ArrayIndexOutOfBoundsException" tx) : W p l e R s m args below meth c H locs cells slots Q (F0 m pc ls (.int i :: .ref a :: rest)) := by
  intro T hT X
  obtain ⟨t, st, q⟩ := k _ rfl T hT X
  refine ⟨t, ?_, q⟩
  have h1 := X.ialoadOut hexec (by rw [hT]; exact hP q0 _ ha) ((hK.2 t0 _ ht).1 n (fun j => .int (f j))) (j := i) (by show (i < 0 ∨ (arrV _ _ _).slots.size ≤ _); rw [arrV_size]; exact Classical.byContradiction hout) (g := F0 m pc ls (.int i :: .ref a :: rest)) rfl (rest := rest) rfl (by rw [hb]; exact hdg) t
  simp only [arrV_size] at h1
  exact h1 st
theorem vx_iastZ {D : va_G} {cl : List vw_C} {ws : va_W} {tys : List (ClassId × FieldType)} {a : Nat} (hexec : p.tables.exec = Jvm.exec) (hb : c.code = cc) (hK : va_K D cl tys s) (hP : va_P D cl ws H) (q0 t0 : Nat) {cA : ClassId} {n : Nat} {f : Nat → Int32} (ha : ws[q0]? = some (a, .inl (cA, n, .inl f))) (ht : tys[t0]? = some (cA, .int)) {i : Int32} {x : Int32} (hout : ¬ vp_in i n) (hdg : decode cc pc = .ok (.iastore, 1))
    (k : ∀ tx : String, tx = (toString "Index " ++ toString i ++ toString " out of bounds for length " ++ toString n : String) → vx_Note p l e R s m args below meth c H locs cells slots Q (F0 m pc ls rest) "java/lang/ArrayIndexOutOfBoundsException" tx) : W p l e R s m args below meth c H locs cells slots Q (F0 m pc ls (.int x :: .int i :: .ref a :: rest)) := by
  intro T hT X
  obtain ⟨t, st, q⟩ := k _ rfl T hT X
  refine ⟨t, ?_, q⟩
  have h1 := X.iastoreOut hexec (by rw [hT]; exact hP q0 _ ha) ((hK.2 t0 _ ht).1 n (fun j => .int (f j))) (j := i) (by show (i < 0 ∨ (arrV _ _ _).slots.size ≤ _); rw [arrV_size]; exact Classical.byContradiction hout) (g := F0 m pc ls (.int x :: .int i :: .ref a :: rest)) rfl (rest := rest) rfl (by rw [hb]; exact hdg) t
  simp only [arrV_size] at h1
  exact h1 st
theorem vx_baldZ {D : va_G} {cl : List vw_C} {ws : va_W} {tys : List (ClassId × FieldType)} {a : Nat} (hexec : p.tables.exec = Jvm.exec) (hb : c.code = cc) (hK : va_K D cl tys s) (hP : va_P D cl ws H) (q0 t0 : Nat) {cA : ClassId} {n : Nat} {f : Nat → Int32} (ha : ws[q0]? = some (a, .inl (cA, n, .inl f))) (ht : tys[t0]? = some (cA, .byte)) {i : Int32} (hout : ¬ vp_in i n) (hdg : decode cc pc = .ok (.baload, 1))
    (k : ∀ tx : String, tx = (toString "Index " ++ toString i ++ toString " out of bounds for length " ++ toString n : String) → vx_Note p l e R s m args below meth c H locs cells slots Q (F0 m pc ls rest) "java/lang/ArrayIndexOutOfBoundsException" tx) : W p l e R s m args below meth c H locs cells slots Q (F0 m pc ls (.int i :: .ref a :: rest)) := by
  intro T hT X
  obtain ⟨t, st, q⟩ := k _ rfl T hT X
  refine ⟨t, ?_, q⟩
  have h1 := X.baloadOut hexec (by rw [hT]; exact hP q0 _ ha) ((hK.2 t0 _ ht).1 n (fun j => .int (f j))) (j := i) (by show (i < 0 ∨ (arrV _ _ _).slots.size ≤ _); rw [arrV_size]; exact Classical.byContradiction hout) (g := F0 m pc ls (.int i :: .ref a :: rest)) rfl (rest := rest) rfl (by rw [hb]; exact hdg) t
  simp only [arrV_size] at h1
  exact h1 st
theorem vx_bastZ {D : va_G} {cl : List vw_C} {ws : va_W} {tys : List (ClassId × FieldType)} {a : Nat} (hexec : p.tables.exec = Jvm.exec) (hb : c.code = cc) (hK : va_K D cl tys s) (hP : va_P D cl ws H) (q0 t0 : Nat) {cA : ClassId} {n : Nat} {f : Nat → Int32} (ha : ws[q0]? = some (a, .inl (cA, n, .inl f))) (ht : tys[t0]? = some (cA, .byte)) {i : Int32} {x : Int32} (hout : ¬ vp_in i n) (hdg : decode cc pc = .ok (.bastore, 1))
    (k : ∀ tx : String, tx = (toString "Index " ++ toString i ++ toString " out of bounds for length " ++ toString n : String) → vx_Note p l e R s m args below meth c H locs cells slots Q (F0 m pc ls rest) "java/lang/ArrayIndexOutOfBoundsException" tx) : W p l e R s m args below meth c H locs cells slots Q (F0 m pc ls (.int x :: .int i :: .ref a :: rest)) := by
  intro T hT X
  obtain ⟨t, st, q⟩ := k _ rfl T hT X
  refine ⟨t, ?_, q⟩
  have h1 := X.bastoreOut hexec (by rw [hT]; exact hP q0 _ ha) ((hK.2 t0 _ ht).1 n (fun j => .int (f j))) (j := i) (by show (i < 0 ∨ (arrV _ _ _).slots.size ≤ _); rw [arrV_size]; exact Classical.byContradiction hout) (g := F0 m pc ls (.int x :: .int i :: .ref a :: rest)) rfl (rest := rest) rfl (by rw [hb]; exact hdg) t
  simp only [arrV_size] at h1
  exact h1 st
theorem vx_zaldZ {D : va_G} {cl : List vw_C} {ws : va_W} {tys : List (ClassId × FieldType)} {a : Nat} (hexec : p.tables.exec = Jvm.exec) (hb : c.code = cc) (hK : va_K D cl tys s) (hP : va_P D cl ws H) (q0 t0 : Nat) {cA : ClassId} {n : Nat} {f : Nat → Int32} (ha : ws[q0]? = some (a, .inl (cA, n, .inl f))) (ht : tys[t0]? = some (cA, .boolean)) {i : Int32} (hout : ¬ vp_in i n) (hdg : decode cc pc = .ok (.baload, 1))
    (k : ∀ tx : String, tx = (toString "Index " ++ toString i ++ toString " out of bounds for length " ++ toString n : String) → vx_Note p l e R s m args below meth c H locs cells slots Q (F0 m pc ls rest) "java/lang/ArrayIndexOutOfBoundsException" tx) : W p l e R s m args below meth c H locs cells slots Q (F0 m pc ls (.int i :: .ref a :: rest)) := by
  intro T hT X
  obtain ⟨t, st, q⟩ := k _ rfl T hT X
  refine ⟨t, ?_, q⟩
  have h1 := X.baloadOut hexec (by rw [hT]; exact hP q0 _ ha) ((hK.2 t0 _ ht).1 n (fun j => .int (f j))) (j := i) (by show (i < 0 ∨ (arrV _ _ _).slots.size ≤ _); rw [arrV_size]; exact Classical.byContradiction hout) (g := F0 m pc ls (.int i :: .ref a :: rest)) rfl (rest := rest) rfl (by rw [hb]; exact hdg) t
  simp only [arrV_size] at h1
  exact h1 st
theorem vx_zastZ {D : va_G} {cl : List vw_C} {ws : va_W} {tys : List (ClassId × FieldType)} {a : Nat} (hexec : p.tables.exec = Jvm.exec) (hb : c.code = cc) (hK : va_K D cl tys s) (hP : va_P D cl ws H) (q0 t0 : Nat) {cA : ClassId} {n : Nat} {f : Nat → Int32} (ha : ws[q0]? = some (a, .inl (cA, n, .inl f))) (ht : tys[t0]? = some (cA, .boolean)) {i : Int32} {x : Int32} (hout : ¬ vp_in i n) (hdg : decode cc pc = .ok (.bastore, 1))
    (k : ∀ tx : String, tx = (toString "Index " ++ toString i ++ toString " out of bounds for length " ++ toString n : String) → vx_Note p l e R s m args below meth c H locs cells slots Q (F0 m pc ls rest) "java/lang/ArrayIndexOutOfBoundsException" tx) : W p l e R s m args below meth c H locs cells slots Q (F0 m pc ls (.int x :: .int i :: .ref a :: rest)) := by
  intro T hT X
  obtain ⟨t, st, q⟩ := k _ rfl T hT X
  refine ⟨t, ?_, q⟩
  have h1 := X.bastoreOut hexec (by rw [hT]; exact hP q0 _ ha) ((hK.2 t0 _ ht).1 n (fun j => .int (f j))) (j := i) (by show (i < 0 ∨ (arrV _ _ _).slots.size ≤ _); rw [arrV_size]; exact Classical.byContradiction hout) (g := F0 m pc ls (.int x :: .int i :: .ref a :: rest)) rfl (rest := rest) rfl (by rw [hb]; exact hdg) t
  simp only [arrV_size] at h1
  exact h1 st
theorem vx_caldZ {D : va_G} {cl : List vw_C} {ws : va_W} {tys : List (ClassId × FieldType)} {a : Nat} (hexec : p.tables.exec = Jvm.exec) (hb : c.code = cc) (hK : va_K D cl tys s) (hP : va_P D cl ws H) (q0 t0 : Nat) {cA : ClassId} {n : Nat} {f : Nat → Int32} (ha : ws[q0]? = some (a, .inl (cA, n, .inl f))) (ht : tys[t0]? = some (cA, .char)) {i : Int32} (hout : ¬ vp_in i n) (hdg : decode cc pc = .ok (.caload, 1))
    (k : ∀ tx : String, tx = (toString "Index " ++ toString i ++ toString " out of bounds for length " ++ toString n : String) → vx_Note p l e R s m args below meth c H locs cells slots Q (F0 m pc ls rest) "java/lang/ArrayIndexOutOfBoundsException" tx) : W p l e R s m args below meth c H locs cells slots Q (F0 m pc ls (.int i :: .ref a :: rest)) := by
  intro T hT X
  obtain ⟨t, st, q⟩ := k _ rfl T hT X
  refine ⟨t, ?_, q⟩
  have h1 := X.caloadOut hexec (by rw [hT]; exact hP q0 _ ha) ((hK.2 t0 _ ht).1 n (fun j => .int (f j))) (j := i) (by show (i < 0 ∨ (arrV _ _ _).slots.size ≤ _); rw [arrV_size]; exact Classical.byContradiction hout) (g := F0 m pc ls (.int i :: .ref a :: rest)) rfl (rest := rest) rfl (by rw [hb]; exact hdg) t
  simp only [arrV_size] at h1
  exact h1 st
theorem vx_castZ {D : va_G} {cl : List vw_C} {ws : va_W} {tys : List (ClassId × FieldType)} {a : Nat} (hexec : p.tables.exec = Jvm.exec) (hb : c.code = cc) (hK : va_K D cl tys s) (hP : va_P D cl ws H) (q0 t0 : Nat) {cA : ClassId} {n : Nat} {f : Nat → Int32} (ha : ws[q0]? = some (a, .inl (cA, n, .inl f))) (ht : tys[t0]? = some (cA, .char)) {i : Int32} {x : Int32} (hout : ¬ vp_in i n) (hdg : decode cc pc = .ok (.castore, 1))
    (k : ∀ tx : String, tx = (toString "Index " ++ toString i ++ toString " out of bounds for length " ++ toString n : String) → vx_Note p l e R s m args below meth c H locs cells slots Q (F0 m pc ls rest) "java/lang/ArrayIndexOutOfBoundsException" tx) : W p l e R s m args below meth c H locs cells slots Q (F0 m pc ls (.int x :: .int i :: .ref a :: rest)) := by
  intro T hT X
  obtain ⟨t, st, q⟩ := k _ rfl T hT X
  refine ⟨t, ?_, q⟩
  have h1 := X.castoreOut hexec (by rw [hT]; exact hP q0 _ ha) ((hK.2 t0 _ ht).1 n (fun j => .int (f j))) (j := i) (by show (i < 0 ∨ (arrV _ _ _).slots.size ≤ _); rw [arrV_size]; exact Classical.byContradiction hout) (g := F0 m pc ls (.int x :: .int i :: .ref a :: rest)) rfl (rest := rest) rfl (by rw [hb]; exact hdg) t
  simp only [arrV_size] at h1
  exact h1 st
theorem vx_saldZ {D : va_G} {cl : List vw_C} {ws : va_W} {tys : List (ClassId × FieldType)} {a : Nat} (hexec : p.tables.exec = Jvm.exec) (hb : c.code = cc) (hK : va_K D cl tys s) (hP : va_P D cl ws H) (q0 t0 : Nat) {cA : ClassId} {n : Nat} {f : Nat → Int32} (ha : ws[q0]? = some (a, .inl (cA, n, .inl f))) (ht : tys[t0]? = some (cA, .short)) {i : Int32} (hout : ¬ vp_in i n) (hdg : decode cc pc = .ok (.saload, 1))
    (k : ∀ tx : String, tx = (toString "Index " ++ toString i ++ toString " out of bounds for length " ++ toString n : String) → vx_Note p l e R s m args below meth c H locs cells slots Q (F0 m pc ls rest) "java/lang/ArrayIndexOutOfBoundsException" tx) : W p l e R s m args below meth c H locs cells slots Q (F0 m pc ls (.int i :: .ref a :: rest)) := by
  intro T hT X
  obtain ⟨t, st, q⟩ := k _ rfl T hT X
  refine ⟨t, ?_, q⟩
  have h1 := X.saloadOut hexec (by rw [hT]; exact hP q0 _ ha) ((hK.2 t0 _ ht).1 n (fun j => .int (f j))) (j := i) (by show (i < 0 ∨ (arrV _ _ _).slots.size ≤ _); rw [arrV_size]; exact Classical.byContradiction hout) (g := F0 m pc ls (.int i :: .ref a :: rest)) rfl (rest := rest) rfl (by rw [hb]; exact hdg) t
  simp only [arrV_size] at h1
  exact h1 st
theorem vx_sastZ {D : va_G} {cl : List vw_C} {ws : va_W} {tys : List (ClassId × FieldType)} {a : Nat} (hexec : p.tables.exec = Jvm.exec) (hb : c.code = cc) (hK : va_K D cl tys s) (hP : va_P D cl ws H) (q0 t0 : Nat) {cA : ClassId} {n : Nat} {f : Nat → Int32} (ha : ws[q0]? = some (a, .inl (cA, n, .inl f))) (ht : tys[t0]? = some (cA, .short)) {i : Int32} {x : Int32} (hout : ¬ vp_in i n) (hdg : decode cc pc = .ok (.sastore, 1))
    (k : ∀ tx : String, tx = (toString "Index " ++ toString i ++ toString " out of bounds for length " ++ toString n : String) → vx_Note p l e R s m args below meth c H locs cells slots Q (F0 m pc ls rest) "java/lang/ArrayIndexOutOfBoundsException" tx) : W p l e R s m args below meth c H locs cells slots Q (F0 m pc ls (.int x :: .int i :: .ref a :: rest)) := by
  intro T hT X
  obtain ⟨t, st, q⟩ := k _ rfl T hT X
  refine ⟨t, ?_, q⟩
  have h1 := X.sastoreOut hexec (by rw [hT]; exact hP q0 _ ha) ((hK.2 t0 _ ht).1 n (fun j => .int (f j))) (j := i) (by show (i < 0 ∨ (arrV _ _ _).slots.size ≤ _); rw [arrV_size]; exact Classical.byContradiction hout) (g := F0 m pc ls (.int x :: .int i :: .ref a :: rest)) rfl (rest := rest) rfl (by rw [hb]; exact hdg) t
  simp only [arrV_size] at h1
  exact h1 st
theorem vx_laldZ {D : va_G} {cl : List vw_C} {ws : va_W} {tys : List (ClassId × FieldType)} {a : Nat} (hexec : p.tables.exec = Jvm.exec) (hb : c.code = cc) (hK : va_K D cl tys s) (hP : va_P D cl ws H) (q0 t0 : Nat) {cA : ClassId} {n : Nat} {f : Nat → Int64} (ha : ws[q0]? = some (a, .inl (cA, n, .inr (.inl f)))) (ht : tys[t0]? = some (cA, .long)) {i : Int32} (hout : ¬ vp_in i n) (hdg : decode cc pc = .ok (.laload, 1))
    (k : ∀ tx : String, tx = (toString "Index " ++ toString i ++ toString " out of bounds for length " ++ toString n : String) → vx_Note p l e R s m args below meth c H locs cells slots Q (F0 m pc ls rest) "java/lang/ArrayIndexOutOfBoundsException" tx) : W p l e R s m args below meth c H locs cells slots Q (F0 m pc ls (.int i :: .ref a :: rest)) := by
  intro T hT X
  obtain ⟨t, st, q⟩ := k _ rfl T hT X
  refine ⟨t, ?_, q⟩
  have h1 := X.laloadOut hexec (by rw [hT]; exact hP q0 _ ha) ((hK.2 t0 _ ht).1 n (fun j => .long (f j))) (j := i) (by show (i < 0 ∨ (arrV _ _ _).slots.size ≤ _); rw [arrV_size]; exact Classical.byContradiction hout) (g := F0 m pc ls (.int i :: .ref a :: rest)) rfl (rest := rest) rfl (by rw [hb]; exact hdg) t
  simp only [arrV_size] at h1
  exact h1 st
theorem vx_lastZ {D : va_G} {cl : List vw_C} {ws : va_W} {tys : List (ClassId × FieldType)} {a : Nat} (hexec : p.tables.exec = Jvm.exec) (hb : c.code = cc) (hK : va_K D cl tys s) (hP : va_P D cl ws H) (q0 t0 : Nat) {cA : ClassId} {n : Nat} {f : Nat → Int64} (ha : ws[q0]? = some (a, .inl (cA, n, .inr (.inl f)))) (ht : tys[t0]? = some (cA, .long)) {i : Int32} {x : Int64} (hout : ¬ vp_in i n) (hdg : decode cc pc = .ok (.lastore, 1))
    (k : ∀ tx : String, tx = (toString "Index " ++ toString i ++ toString " out of bounds for length " ++ toString n : String) → vx_Note p l e R s m args below meth c H locs cells slots Q (F0 m pc ls rest) "java/lang/ArrayIndexOutOfBoundsException" tx) : W p l e R s m args below meth c H locs cells slots Q (F0 m pc ls (.long x :: .int i :: .ref a :: rest)) := by
  intro T hT X
  obtain ⟨t, st, q⟩ := k _ rfl T hT X
  refine ⟨t, ?_, q⟩
  have h1 := X.lastoreOut hexec (by rw [hT]; exact hP q0 _ ha) ((hK.2 t0 _ ht).1 n (fun j => .long (f j))) (j := i) (by show (i < 0 ∨ (arrV _ _ _).slots.size ≤ _); rw [arrV_size]; exact Classical.byContradiction hout) (g := F0 m pc ls (.long x :: .int i :: .ref a :: rest)) rfl (rest := rest) rfl (by rw [hb]; exact hdg) t
  simp only [arrV_size] at h1
  exact h1 st
theorem vx_faldZ {D : va_G} {cl : List vw_C} {ws : va_W} {tys : List (ClassId × FieldType)} {a : Nat} (hexec : p.tables.exec = Jvm.exec) (hb : c.code = cc) (hK : va_K D cl tys s) (hP : va_P D cl ws H) (q0 t0 : Nat) {cA : ClassId} {n : Nat} {f : Nat → UInt32} (ha : ws[q0]? = some (a, .inl (cA, n, .inr (.inr (.inl f))))) (ht : tys[t0]? = some (cA, .float)) {i : Int32} (hout : ¬ vp_in i n) (hdg : decode cc pc = .ok (.faload, 1))
    (k : ∀ tx : String, tx = (toString "Index " ++ toString i ++ toString " out of bounds for length " ++ toString n : String) → vx_Note p l e R s m args below meth c H locs cells slots Q (F0 m pc ls rest) "java/lang/ArrayIndexOutOfBoundsException" tx) : W p l e R s m args below meth c H locs cells slots Q (F0 m pc ls (.int i :: .ref a :: rest)) := by
  intro T hT X
  obtain ⟨t, st, q⟩ := k _ rfl T hT X
  refine ⟨t, ?_, q⟩
  have h1 := X.faloadOut hexec (by rw [hT]; exact hP q0 _ ha) ((hK.2 t0 _ ht).1 n (fun j => .float (f j))) (j := i) (by show (i < 0 ∨ (arrV _ _ _).slots.size ≤ _); rw [arrV_size]; exact Classical.byContradiction hout) (g := F0 m pc ls (.int i :: .ref a :: rest)) rfl (rest := rest) rfl (by rw [hb]; exact hdg) t
  simp only [arrV_size] at h1
  exact h1 st
theorem vx_fastZ {D : va_G} {cl : List vw_C} {ws : va_W} {tys : List (ClassId × FieldType)} {a : Nat} (hexec : p.tables.exec = Jvm.exec) (hb : c.code = cc) (hK : va_K D cl tys s) (hP : va_P D cl ws H) (q0 t0 : Nat) {cA : ClassId} {n : Nat} {f : Nat → UInt32} (ha : ws[q0]? = some (a, .inl (cA, n, .inr (.inr (.inl f))))) (ht : tys[t0]? = some (cA, .float)) {i : Int32} {x : UInt32} (hout : ¬ vp_in i n) (hdg : decode cc pc = .ok (.fastore, 1))
    (k : ∀ tx : String, tx = (toString "Index " ++ toString i ++ toString " out of bounds for length " ++ toString n : String) → vx_Note p l e R s m args below meth c H locs cells slots Q (F0 m pc ls rest) "java/lang/ArrayIndexOutOfBoundsException" tx) : W p l e R s m args below meth c H locs cells slots Q (F0 m pc ls (.float x :: .int i :: .ref a :: rest)) := by
  intro T hT X
  obtain ⟨t, st, q⟩ := k _ rfl T hT X
  refine ⟨t, ?_, q⟩
  have h1 := X.fastoreOut hexec (by rw [hT]; exact hP q0 _ ha) ((hK.2 t0 _ ht).1 n (fun j => .float (f j))) (j := i) (by show (i < 0 ∨ (arrV _ _ _).slots.size ≤ _); rw [arrV_size]; exact Classical.byContradiction hout) (g := F0 m pc ls (.float x :: .int i :: .ref a :: rest)) rfl (rest := rest) rfl (by rw [hb]; exact hdg) t
  simp only [arrV_size] at h1
  exact h1 st
theorem vx_daldZ {D : va_G} {cl : List vw_C} {ws : va_W} {tys : List (ClassId × FieldType)} {a : Nat} (hexec : p.tables.exec = Jvm.exec) (hb : c.code = cc) (hK : va_K D cl tys s) (hP : va_P D cl ws H) (q0 t0 : Nat) {cA : ClassId} {n : Nat} {f : Nat → UInt64} (ha : ws[q0]? = some (a, .inl (cA, n, .inr (.inr (.inr (.inl f)))))) (ht : tys[t0]? = some (cA, .double)) {i : Int32} (hout : ¬ vp_in i n) (hdg : decode cc pc = .ok (.daload, 1))
    (k : ∀ tx : String, tx = (toString "Index " ++ toString i ++ toString " out of bounds for length " ++ toString n : String) → vx_Note p l e R s m args below meth c H locs cells slots Q (F0 m pc ls rest) "java/lang/ArrayIndexOutOfBoundsException" tx) : W p l e R s m args below meth c H locs cells slots Q (F0 m pc ls (.int i :: .ref a :: rest)) := by
  intro T hT X
  obtain ⟨t, st, q⟩ := k _ rfl T hT X
  refine ⟨t, ?_, q⟩
  have h1 := X.daloadOut hexec (by rw [hT]; exact hP q0 _ ha) ((hK.2 t0 _ ht).1 n (fun j => .double (f j))) (j := i) (by show (i < 0 ∨ (arrV _ _ _).slots.size ≤ _); rw [arrV_size]; exact Classical.byContradiction hout) (g := F0 m pc ls (.int i :: .ref a :: rest)) rfl (rest := rest) rfl (by rw [hb]; exact hdg) t
  simp only [arrV_size] at h1
  exact h1 st
theorem vx_dastZ {D : va_G} {cl : List vw_C} {ws : va_W} {tys : List (ClassId × FieldType)} {a : Nat} (hexec : p.tables.exec = Jvm.exec) (hb : c.code = cc) (hK : va_K D cl tys s) (hP : va_P D cl ws H) (q0 t0 : Nat) {cA : ClassId} {n : Nat} {f : Nat → UInt64} (ha : ws[q0]? = some (a, .inl (cA, n, .inr (.inr (.inr (.inl f)))))) (ht : tys[t0]? = some (cA, .double)) {i : Int32} {x : UInt64} (hout : ¬ vp_in i n) (hdg : decode cc pc = .ok (.dastore, 1))
    (k : ∀ tx : String, tx = (toString "Index " ++ toString i ++ toString " out of bounds for length " ++ toString n : String) → vx_Note p l e R s m args below meth c H locs cells slots Q (F0 m pc ls rest) "java/lang/ArrayIndexOutOfBoundsException" tx) : W p l e R s m args below meth c H locs cells slots Q (F0 m pc ls (.double x :: .int i :: .ref a :: rest)) := by
  intro T hT X
  obtain ⟨t, st, q⟩ := k _ rfl T hT X
  refine ⟨t, ?_, q⟩
  have h1 := X.dastoreOut hexec (by rw [hT]; exact hP q0 _ ha) ((hK.2 t0 _ ht).1 n (fun j => .double (f j))) (j := i) (by show (i < 0 ∨ (arrV _ _ _).slots.size ≤ _); rw [arrV_size]; exact Classical.byContradiction hout) (g := F0 m pc ls (.double x :: .int i :: .ref a :: rest)) rfl (rest := rest) rfl (by rw [hb]; exact hdg) t
  simp only [arrV_size] at h1
  exact h1 st
theorem vx_arraylengthN (hexec : p.tables.exec = Jvm.exec) (hb : c.code = cc) (hdg : decode cc pc = .ok (.arraylength, 1)) (k : vx_NoteN p l e R s m args below meth c H locs cells slots Q (F0 m pc ls rest)) : W p l e R s m args below meth c H locs cells slots Q (F0 m pc ls (.null :: rest)) := by
  intro T hT X
  obtain ⟨t, st, q⟩ := k T hT X
  exact ⟨t, X.arraylengthNull hexec (g := F0 m pc ls (.null :: rest)) rfl (rest := rest) rfl (by rw [hb]; exact hdg) t st, q⟩
theorem vx_ialoadN (hexec : p.tables.exec = Jvm.exec) (hb : c.code = cc) {i : Int32} (hdg : decode cc pc = .ok (.iaload, 1)) (k : vx_NoteN p l e R s m args below meth c H locs cells slots Q (F0 m pc ls rest)) : W p l e R s m args below meth c H locs cells slots Q (F0 m pc ls (.int i :: .null :: rest)) := by
  intro T hT X
  obtain ⟨t, st, q⟩ := k T hT X
  exact ⟨t, X.ialoadNull hexec (g := F0 m pc ls (.int i :: .null :: rest)) rfl (rest := rest) rfl (by rw [hb]; exact hdg) t st, q⟩
theorem vx_laloadN (hexec : p.tables.exec = Jvm.exec) (hb : c.code = cc) {i : Int32} (hdg : decode cc pc = .ok (.laload, 1)) (k : vx_NoteN p l e R s m args below meth c H locs cells slots Q (F0 m pc ls rest)) : W p l e R s m args below meth c H locs cells slots Q (F0 m pc ls (.int i :: .null :: rest)) := by
  intro T hT X
  obtain ⟨t, st, q⟩ := k T hT X
  exact ⟨t, X.laloadNull hexec (g := F0 m pc ls (.int i :: .null :: rest)) rfl (rest := rest) rfl (by rw [hb]; exact hdg) t st, q⟩
theorem vx_faloadN (hexec : p.tables.exec = Jvm.exec) (hb : c.code = cc) {i : Int32} (hdg : decode cc pc = .ok (.faload, 1)) (k : vx_NoteN p l e R s m args below meth c H locs cells slots Q (F0 m pc ls rest)) : W p l e R s m args below meth c H locs cells slots Q (F0 m pc ls (.int i :: .null :: rest)) := by
  intro T hT X
  obtain ⟨t, st, q⟩ := k T hT X
  exact ⟨t, X.faloadNull hexec (g := F0 m pc ls (.int i :: .null :: rest)) rfl (rest := rest) rfl (by rw [hb]; exact hdg) t st, q⟩
theorem vx_daloadN (hexec : p.tables.exec = Jvm.exec) (hb : c.code = cc) {i : Int32} (hdg : decode cc pc = .ok (.daload, 1)) (k : vx_NoteN p l e R s m args below meth c H locs cells slots Q (F0 m pc ls rest)) : W p l e R s m args below meth c H locs cells slots Q (F0 m pc ls (.int i :: .null :: rest)) := by
  intro T hT X
  obtain ⟨t, st, q⟩ := k T hT X
  exact ⟨t, X.daloadNull hexec (g := F0 m pc ls (.int i :: .null :: rest)) rfl (rest := rest) rfl (by rw [hb]; exact hdg) t st, q⟩
theorem vx_aaloadN (hexec : p.tables.exec = Jvm.exec) (hb : c.code = cc) {i : Int32} (hdg : decode cc pc = .ok (.aaload, 1)) (k : vx_NoteN p l e R s m args below meth c H locs cells slots Q (F0 m pc ls rest)) : W p l e R s m args below meth c H locs cells slots Q (F0 m pc ls (.int i :: .null :: rest)) := by
  intro T hT X
  obtain ⟨t, st, q⟩ := k T hT X
  exact ⟨t, X.aaloadNull hexec (g := F0 m pc ls (.int i :: .null :: rest)) rfl (rest := rest) rfl (by rw [hb]; exact hdg) t st, q⟩
theorem vx_baloadN (hexec : p.tables.exec = Jvm.exec) (hb : c.code = cc) {i : Int32} (hdg : decode cc pc = .ok (.baload, 1)) (k : vx_NoteN p l e R s m args below meth c H locs cells slots Q (F0 m pc ls rest)) : W p l e R s m args below meth c H locs cells slots Q (F0 m pc ls (.int i :: .null :: rest)) := by
  intro T hT X
  obtain ⟨t, st, q⟩ := k T hT X
  exact ⟨t, X.baloadNull hexec (g := F0 m pc ls (.int i :: .null :: rest)) rfl (rest := rest) rfl (by rw [hb]; exact hdg) t st, q⟩
theorem vx_caloadN (hexec : p.tables.exec = Jvm.exec) (hb : c.code = cc) {i : Int32} (hdg : decode cc pc = .ok (.caload, 1)) (k : vx_NoteN p l e R s m args below meth c H locs cells slots Q (F0 m pc ls rest)) : W p l e R s m args below meth c H locs cells slots Q (F0 m pc ls (.int i :: .null :: rest)) := by
  intro T hT X
  obtain ⟨t, st, q⟩ := k T hT X
  exact ⟨t, X.caloadNull hexec (g := F0 m pc ls (.int i :: .null :: rest)) rfl (rest := rest) rfl (by rw [hb]; exact hdg) t st, q⟩
theorem vx_saloadN (hexec : p.tables.exec = Jvm.exec) (hb : c.code = cc) {i : Int32} (hdg : decode cc pc = .ok (.saload, 1)) (k : vx_NoteN p l e R s m args below meth c H locs cells slots Q (F0 m pc ls rest)) : W p l e R s m args below meth c H locs cells slots Q (F0 m pc ls (.int i :: .null :: rest)) := by
  intro T hT X
  obtain ⟨t, st, q⟩ := k T hT X
  exact ⟨t, X.saloadNull hexec (g := F0 m pc ls (.int i :: .null :: rest)) rfl (rest := rest) rfl (by rw [hb]; exact hdg) t st, q⟩
theorem vx_iastoreN (hexec : p.tables.exec = Jvm.exec) (hb : c.code = cc) {x : Int32} {i : Int32} (hdg : decode cc pc = .ok (.iastore, 1)) (k : vx_NoteN p l e R s m args below meth c H locs cells slots Q (F0 m pc ls rest)) : W p l e R s m args below meth c H locs cells slots Q (F0 m pc ls (.int x :: .int i :: .null :: rest)) := by
  intro T hT X
  obtain ⟨t, st, q⟩ := k T hT X
  exact ⟨t, X.iastoreNull hexec (g := F0 m pc ls (.int x :: .int i :: .null :: rest)) rfl (rest := rest) rfl (by rw [hb]; exact hdg) t st, q⟩
theorem vx_lastoreN (hexec : p.tables.exec = Jvm.exec) (hb : c.code = cc) {x : Int64} {i : Int32} (hdg : decode cc pc = .ok (.lastore, 1)) (k : vx_NoteN p l e R s m args below meth c H locs cells slots Q (F0 m pc ls rest)) : W p l e R s m args below meth c H locs cells slots Q (F0 m pc ls (.long x :: .int i :: .null :: rest)) := by
  intro T hT X
  obtain ⟨t, st, q⟩ := k T hT X
  exact ⟨t, X.lastoreNull hexec (g := F0 m pc ls (.long x :: .int i :: .null :: rest)) rfl (rest := rest) rfl (by rw [hb]; exact hdg) t st, q⟩
theorem vx_fastoreN (hexec : p.tables.exec = Jvm.exec) (hb : c.code = cc) {x : UInt32} {i : Int32} (hdg : decode cc pc = .ok (.fastore, 1)) (k : vx_NoteN p l e R s m args below meth c H locs cells slots Q (F0 m pc ls rest)) : W p l e R s m args below meth c H locs cells slots Q (F0 m pc ls (.float x :: .int i :: .null :: rest)) := by
  intro T hT X
  obtain ⟨t, st, q⟩ := k T hT X
  exact ⟨t, X.fastoreNull hexec (g := F0 m pc ls (.float x :: .int i :: .null :: rest)) rfl (rest := rest) rfl (by rw [hb]; exact hdg) t st, q⟩
theorem vx_dastoreN (hexec : p.tables.exec = Jvm.exec) (hb : c.code = cc) {x : UInt64} {i : Int32} (hdg : decode cc pc = .ok (.dastore, 1)) (k : vx_NoteN p l e R s m args below meth c H locs cells slots Q (F0 m pc ls rest)) : W p l e R s m args below meth c H locs cells slots Q (F0 m pc ls (.double x :: .int i :: .null :: rest)) := by
  intro T hT X
  obtain ⟨t, st, q⟩ := k T hT X
  exact ⟨t, X.dastoreNull hexec (g := F0 m pc ls (.double x :: .int i :: .null :: rest)) rfl (rest := rest) rfl (by rw [hb]; exact hdg) t st, q⟩
theorem vx_bastoreN (hexec : p.tables.exec = Jvm.exec) (hb : c.code = cc) {x : Int32} {i : Int32} (hdg : decode cc pc = .ok (.bastore, 1)) (k : vx_NoteN p l e R s m args below meth c H locs cells slots Q (F0 m pc ls rest)) : W p l e R s m args below meth c H locs cells slots Q (F0 m pc ls (.int x :: .int i :: .null :: rest)) := by
  intro T hT X
  obtain ⟨t, st, q⟩ := k T hT X
  exact ⟨t, X.bastoreNull hexec (g := F0 m pc ls (.int x :: .int i :: .null :: rest)) rfl (rest := rest) rfl (by rw [hb]; exact hdg) t st, q⟩
theorem vx_castoreN (hexec : p.tables.exec = Jvm.exec) (hb : c.code = cc) {x : Int32} {i : Int32} (hdg : decode cc pc = .ok (.castore, 1)) (k : vx_NoteN p l e R s m args below meth c H locs cells slots Q (F0 m pc ls rest)) : W p l e R s m args below meth c H locs cells slots Q (F0 m pc ls (.int x :: .int i :: .null :: rest)) := by
  intro T hT X
  obtain ⟨t, st, q⟩ := k T hT X
  exact ⟨t, X.castoreNull hexec (g := F0 m pc ls (.int x :: .int i :: .null :: rest)) rfl (rest := rest) rfl (by rw [hb]; exact hdg) t st, q⟩
theorem vx_sastoreN (hexec : p.tables.exec = Jvm.exec) (hb : c.code = cc) {x : Int32} {i : Int32} (hdg : decode cc pc = .ok (.sastore, 1)) (k : vx_NoteN p l e R s m args below meth c H locs cells slots Q (F0 m pc ls rest)) : W p l e R s m args below meth c H locs cells slots Q (F0 m pc ls (.int x :: .int i :: .null :: rest)) := by
  intro T hT X
  obtain ⟨t, st, q⟩ := k T hT X
  exact ⟨t, X.sastoreNull hexec (g := F0 m pc ls (.int x :: .int i :: .null :: rest)) rfl (rest := rest) rfl (by rw [hb]; exact hdg) t st, q⟩
theorem vx_invokeN {own C : String} {index maxL : Nat} {y : MethodName} {bytes : ByteArray} {ret : Option FieldType} (hexec : p.tables.exec = Jvm.exec) (hb : c.code = cc) (hown : s.vm.findClass own = some m.cls) (hlink : (Cond.methodLink own index y).before args s = true) (hinst : (Cond.instanceMethod y).before args s = true) (hcode : (Cond.code y bytes maxL ret).before args s = true) (hsel : (Cond.selects C y y).before args s = true)
    (hx : y.cls ≠ "java/lang/invoke/MethodHandle" ∧ y.cls ≠ "java/lang/invoke/VarHandle") {As : List Value} (hlen : (parseMethodDescriptor y.desc).map (fun d => d.parameters.length) = some As.length) (hdg : decode cc pc = .ok (.invokevirtual index, 3))
    (k : vx_NoteN p l e R s m args below meth c H locs cells slots Q (F0 m pc ls rest)) {st0 : List Value} (hst : st0 = As.reverse ++ .null :: rest) : W p l e R s m args below meth c H locs cells slots Q (F0 m pc ls st0) := by
  intro T hT X
  obtain ⟨r0, r, hn, hrm, hstR, hsigR⟩ := va_Decl.of hinst hcode
  obtain ⟨c2, r2, m2, q1, q2, q3, q4, kP, hkP, hkPi⟩ := Cond.selects_spec hsel
  cases hn.symm.trans q3
  have hl9 : As.length = r.sig.parameters.length := by
    rw [hsigR] at hlen
    exact (Option.some.inj hlen).symm
  obtain ⟨vm', X1, st1⟩ := X.invokevirtualNull hexec hown hlink hn hrm hstR hkP hkPi hx (g := F0 m pc ls st0) rfl (argsL := As) (rest := rest) hl9 hst (by rw [hb]; exact hdg)
  obtain ⟨t, st, q⟩ := k (T.setVm vm') hT X1
  exact ⟨t, st1 t st, q⟩
theorem vx_newarrayZ {atype : ArrayType} (hexec : p.tables.exec = Jvm.exec) (hb : c.code = cc) {n : Int32} (h0 : n < 0) (hdg : decode cc pc = .ok (.newarray atype, 2)) (k : ∀ tx : String, tx = toString n → vx_Note p l e R s m args below meth c H locs cells slots Q (F0 m pc ls rest) "java/lang/NegativeArraySizeException" tx) : W p l e R s m args below meth c H locs cells slots Q (F0 m pc ls (.int n :: rest)) := by
  intro T hT X
  obtain ⟨t, st, q⟩ := k _ rfl T hT X
  exact ⟨t, X.newarrayNegative hexec (g := F0 m pc ls (.int n :: rest)) rfl h0 (rest := rest) rfl (by rw [hb]; exact hdg) t st, q⟩
end
end VXM
/-! ===== END ===== -/

def RX0 : String := "WayMarker$Boards"
def TX0 : u_T := fun k => match k with
  | 0 => ("WayMarker$Boards", "fork", "[I", true)
  | 1 => ("WayMarker$Boards", "place", "[I", true)
  | 2 => ("WayMarker$Boards", "trail", "[I", true)
  | 3 => ("WayMarker$Boards", "minutesTold", "[I", true)
  | 4 => ("WayMarker$Boards", "covered", "[Z", true)
  | 5 => ("WayMarker$Boards", "count", "I", false)
  | _ => ("WayMarker$Boards", "wood", "I", false)
def tyX0 : Nat → FieldType := fun k => match k with
  | 0 => .array .int
  | 1 => .array .int
  | 2 => .array .int
  | 3 => .array .int
  | 4 => .array .boolean
  | 5 => .int
  | _ => .int
abbrev wsX00 : List Cond := u_ws RX0 TX0 7
theorem nmX0 : ∀ a, a < 7 → ∀ b, b < 7 → a ≠ b → (TX0 a).2.1 ≠ (TX0 b).2.1 := by decide +kernel
theorem tyX0_ok : ∀ k, k < 7 → parseFieldDescriptor (TX0 k).2.2.1 = some (tyX0 k) := by decide +kernel
abbrev cX0_init : ByteArray := prog_2_method_1_code
def yX0_init : MethodName := ⟨RX0, "<init>", "()V"⟩
abbrev cX0_dangerBy : ByteArray := prog_2_method_2_code
def yX0_dangerBy : MethodName := ⟨RX0, "dangerBy", "(ILWayMarker$Net;LWayMarker$View;)I"⟩
def RX1 : String := "WayMarker$Maps"
def TX1 : u_T := fun k => match k with
  | 0 => ("WayMarker$Maps", "drawn", "[Z", true)
  | 1 => ("WayMarker$Maps", "printedOn", "[I", true)
  | _ => ("WayMarker$Maps", "count", "I", false)
def tyX1 : Nat → FieldType := fun k => match k with
  | 0 => .array .boolean
  | 1 => .array .int
  | _ => .int
abbrev wsX10 : List Cond := u_ws RX1 TX1 3
theorem nmX1 : ∀ a, a < 3 → ∀ b, b < 3 → a ≠ b → (TX1 a).2.1 ≠ (TX1 b).2.1 := by decide +kernel
theorem tyX1_ok : ∀ k, k < 3 → parseFieldDescriptor (TX1 k).2.2.1 = some (tyX1 k) := by decide +kernel
abbrev cX1_init : ByteArray := prog_3_method_1_code
def yX1_init : MethodName := ⟨RX1, "<init>", "()V"⟩
abbrev cX1_draw : ByteArray := prog_3_method_2_code
def yX1_draw : MethodName := ⟨RX1, "draw", "(LWayMarker$Net;I)I"⟩
abbrev cX1_isDrawn : ByteArray := prog_3_method_3_code
def yX1_isDrawn : MethodName := ⟨RX1, "isDrawn", "(II)Z"⟩
def RX2 : String := "WayMarker$Net"
def TX2 : u_T := fun k => match k with
  | 0 => ("WayMarker$Net", "isPlace", "[Z", true)
  | 1 => ("WayMarker$Net", "first", "[I", true)
  | 2 => ("WayMarker$Net", "second", "[I", true)
  | 3 => ("WayMarker$Net", "forthMinutes", "[I", true)
  | 4 => ("WayMarker$Net", "backMinutes", "[I", true)
  | 5 => ("WayMarker$Net", "truth", "LWayMarker$View;", true)
  | 6 => ("WayMarker$Net", "taken", "LWayMarker$View;", true)
  | 7 => ("WayMarker$Net", "compared", "[I", true)
  | 8 => ("WayMarker$Net", "forks", "I", false)
  | _ => ("WayMarker$Net", "trails", "I", false)
def tyX2 : Nat → FieldType := fun k => match k with
  | 0 => .array .boolean
  | 1 => .array .int
  | 2 => .array .int
  | 3 => .array .int
  | 4 => .array .int
  | 5 => .object "WayMarker$View"
  | 6 => .object "WayMarker$View"
  | 7 => .array .int
  | 8 => .int
  | _ => .int
abbrev wsX20 : List Cond := u_ws RX2 TX2 10
theorem nmX2 : ∀ a, a < 10 → ∀ b, b < 10 → a ≠ b → (TX2 a).2.1 ≠ (TX2 b).2.1 := by decide +kernel
theorem tyX2_ok : ∀ k, k < 10 → parseFieldDescriptor (TX2 k).2.2.1 = some (tyX2 k) := by decide +kernel
abbrev cX2_init : ByteArray := prog_4_method_1_code
def yX2_init : MethodName := ⟨RX2, "<init>", "()V"⟩
abbrev cX2_view : ByteArray := prog_4_method_2_code
def yX2_view : MethodName := ⟨RX2, "view", "(Z)LWayMarker$View;"⟩
abbrev cX2_join : ByteArray := prog_4_method_3_code
def yX2_join : MethodName := ⟨RX2, "join", "(IIII)I"⟩
abbrev cX2_setGone : ByteArray := prog_4_method_4_code
def yX2_setGone : MethodName := ⟨RX2, "setGone", "(LWayMarker$View;IZ)V"⟩
abbrev cX2_otherEnd : ByteArray := prog_4_method_5_code
def yX2_otherEnd : MethodName := ⟨RX2, "otherEnd", "(II)I"⟩
abbrev cX2_minutesFrom : ByteArray := prog_4_method_6_code
def yX2_minutesFrom : MethodName := ⟨RX2, "minutesFrom", "(II)I"⟩
abbrev cX2_trailTowards : ByteArray := prog_4_method_7_code
def yX2_trailTowards : MethodName := ⟨RX2, "trailTowards", "(II)I"⟩
abbrev cX2_minutesBy : ByteArray := prog_4_method_8_code
def yX2_minutesBy : MethodName := ⟨RX2, "minutesBy", "(IIILWayMarker$View;)I"⟩
abbrev cX2_findWays : ByteArray := prog_4_method_9_code
def yX2_findWays : MethodName := ⟨RX2, "findWays", "(LWayMarker$View;)V"⟩
abbrev cX2_shortenBy : ByteArray := prog_4_method_10_code
def yX2_shortenBy : MethodName := ⟨RX2, "shortenBy", "(I[I)Z"⟩
abbrev cX2_hasLeastMinutes : ByteArray := prog_4_method_11_code
def yX2_hasLeastMinutes : MethodName := ⟨RX2, "hasLeastMinutes", "(LWayMarker$View;)Z"⟩
abbrev cX2_startComparing : ByteArray := prog_4_method_12_code
def yX2_startComparing : MethodName := ⟨RX2, "startComparing", "(LWayMarker$View;)V"⟩
abbrev cX2_allowBetween : ByteArray := prog_4_method_13_code
def yX2_allowBetween : MethodName := ⟨RX2, "allowBetween", "(I)V"⟩
def RX3 : String := "WayMarker$Rangers"
def TX3 : u_T := fun k => match k with
  | 0 => ("WayMarker$Rangers", "fork", "[I", true)
  | 1 => ("WayMarker$Rangers", "tools", "[I", true)
  | 2 => ("WayMarker$Rangers", "minutesWorked", "[I", true)
  | 3 => ("WayMarker$Rangers", "count", "I", false)
  | _ => ("WayMarker$Rangers", "minutesLeft", "I", false)
def tyX3 : Nat → FieldType := fun k => match k with
  | 0 => .array .int
  | 1 => .array .int
  | 2 => .array .int
  | 3 => .int
  | _ => .int
abbrev wsX30 : List Cond := u_ws RX3 TX3 5
theorem nmX3 : ∀ a, a < 5 → ∀ b, b < 5 → a ≠ b → (TX3 a).2.1 ≠ (TX3 b).2.1 := by decide +kernel
theorem tyX3_ok : ∀ k, k < 5 → parseFieldDescriptor (TX3 k).2.2.1 = some (tyX3 k) := by decide +kernel
abbrev cX3_init : ByteArray := prog_5_method_1_code
def yX3_init : MethodName := ⟨RX3, "<init>", "()V"⟩
abbrev cX3_enlist : ByteArray := prog_5_method_2_code
def yX3_enlist : MethodName := ⟨RX3, "enlist", "(II)I"⟩
abbrev cX3_hasTool : ByteArray := prog_5_method_3_code
def yX3_hasTool : MethodName := ⟨RX3, "hasTool", "(II)Z"⟩
abbrev cX3_spend : ByteArray := prog_5_method_4_code
def yX3_spend : MethodName := ⟨RX3, "spend", "(II)V"⟩
def RX4 : String := "WayMarker$Tasks"
def TX4 : u_T := fun k => match k with
  | 0 => ("WayMarker$Tasks", "kind", "[C", true)
  | 1 => ("WayMarker$Tasks", "number", "[I", true)
  | 2 => ("WayMarker$Tasks", "danger", "[I", true)
  | 3 => ("WayMarker$Tasks", "doer", "[I", true)
  | _ => ("WayMarker$Tasks", "count", "I", false)
def tyX4 : Nat → FieldType := fun k => match k with
  | 0 => .array .char
  | 1 => .array .int
  | 2 => .array .int
  | 3 => .array .int
  | _ => .int
abbrev wsX40 : List Cond := u_ws RX4 TX4 5
theorem nmX4 : ∀ a, a < 5 → ∀ b, b < 5 → a ≠ b → (TX4 a).2.1 ≠ (TX4 b).2.1 := by decide +kernel
theorem tyX4_ok : ∀ k, k < 5 → parseFieldDescriptor (TX4 k).2.2.1 = some (tyX4 k) := by decide +kernel
abbrev cX4_init : ByteArray := prog_6_method_1_code
def yX4_init : MethodName := ⟨RX4, "<init>", "()V"⟩
abbrev cX4_hasRoom : ByteArray := prog_6_method_2_code
def yX4_hasRoom : MethodName := ⟨RX4, "hasRoom", "()Z"⟩
abbrev cX4_make : ByteArray := prog_6_method_3_code
def yX4_make : MethodName := ⟨RX4, "make", "(CII)I"⟩
abbrev cX4_isOpen : ByteArray := prog_6_method_4_code
def yX4_isOpen : MethodName := ⟨RX4, "isOpen", "(I)Z"⟩
abbrev cX4_isAsked : ByteArray := prog_6_method_5_code
def yX4_isAsked : MethodName := ⟨RX4, "isAsked", "(CI)Z"⟩
abbrev cX4_areDoneByOneOf : ByteArray := prog_6_method_6_code
def yX4_areDoneByOneOf : MethodName := ⟨RX4, "areDoneByOneOf", "(I)Z"⟩
def RX5 : String := "WayMarker$View"
def TX5 : u_T := fun k => match k with
  | 0 => ("WayMarker$View", "gone", "[Z", true)
  | _ => ("WayMarker$View", "least", "[I", true)
def tyX5 : Nat → FieldType := fun k => match k with
  | 0 => .array .boolean
  | _ => .array .int
abbrev wsX50 : List Cond := u_ws RX5 TX5 2
theorem nmX5 : ∀ a, a < 2 → ∀ b, b < 2 → a ≠ b → (TX5 a).2.1 ≠ (TX5 b).2.1 := by decide +kernel
theorem tyX5_ok : ∀ k, k < 2 → parseFieldDescriptor (TX5 k).2.2.1 = some (tyX5 k) := by decide +kernel
abbrev cX5_init : ByteArray := prog_7_method_1_code
def yX5_init : MethodName := ⟨RX5, "<init>", "()V"⟩
abbrev cX5_forgetWays : ByteArray := prog_7_method_2_code
def yX5_forgetWays : MethodName := ⟨RX5, "forgetWays", "()V"⟩
abbrev cX5_leastMinutes : ByteArray := prog_7_method_3_code
def yX5_leastMinutes : MethodName := ⟨RX5, "leastMinutes", "(II)I"⟩
def RX6 : String := "WayMarker$Walkers"
def TX6 : u_T := fun k => match k with
  | 0 => ("WayMarker$Walkers", "trustIn", "[I", true)
  | _ => ("WayMarker$Walkers", "said", "[I", true)
def tyX6 : Nat → FieldType := fun k => match k with
  | 0 => .array .int
  | _ => .array .int
abbrev wsX60 : List Cond := u_ws RX6 TX6 2
theorem nmX6 : ∀ a, a < 2 → ∀ b, b < 2 → a ≠ b → (TX6 a).2.1 ≠ (TX6 b).2.1 := by decide +kernel
theorem tyX6_ok : ∀ k, k < 2 → parseFieldDescriptor (TX6 k).2.2.1 = some (tyX6 k) := by decide +kernel
abbrev cX6_init : ByteArray := prog_8_method_1_code
def yX6_init : MethodName := ⟨RX6, "<init>", "()V"⟩
abbrev cX6_note : ByteArray := prog_8_method_2_code
def yX6_note : MethodName := ⟨RX6, "note", "(IIZ)V"⟩
abbrev cX6_countNotes : ByteArray := prog_8_method_3_code
def yX6_countNotes : MethodName := ⟨RX6, "countNotes", "(I)I"⟩
abbrev cX6_believe : ByteArray := prog_8_method_4_code
def yX6_believe : MethodName := ⟨RX6, "believe", "(IZ)Z"⟩
abbrev cX6_trustOfAll : ByteArray := prog_8_method_5_code
def yX6_trustOfAll : MethodName := ⟨RX6, "trustOfAll", "(II)I"⟩
abbrev cX6_judge : ByteArray := prog_8_method_6_code
def yX6_judge : MethodName := ⟨RX6, "judge", "(IZ)V"⟩
def RX7 : String := "WayMarker"
def TX7 : u_T := fun k => match k with
  | 0 => ("WayMarker", "net", "LWayMarker$Net;", true)
  | 1 => ("WayMarker", "boards", "LWayMarker$Boards;", true)
  | 2 => ("WayMarker", "walkers", "LWayMarker$Walkers;", true)
  | 3 => ("WayMarker", "tasks", "LWayMarker$Tasks;", true)
  | 4 => ("WayMarker", "rangers", "LWayMarker$Rangers;", true)
  | 5 => ("WayMarker", "maps", "LWayMarker$Maps;", true)
  | _ => ("WayMarker", "today", "I", false)
def tyX7 : Nat → FieldType := fun k => match k with
  | 0 => .object "WayMarker$Net"
  | 1 => .object "WayMarker$Boards"
  | 2 => .object "WayMarker$Walkers"
  | 3 => .object "WayMarker$Tasks"
  | 4 => .object "WayMarker$Rangers"
  | 5 => .object "WayMarker$Maps"
  | _ => .int
abbrev wsX70 : List Cond := u_ws RX7 TX7 7
theorem nmX7 : ∀ a, a < 7 → ∀ b, b < 7 → a ≠ b → (TX7 a).2.1 ≠ (TX7 b).2.1 := by decide +kernel
theorem tyX7_ok : ∀ k, k < 7 → parseFieldDescriptor (TX7 k).2.2.1 = some (tyX7 k) := by decide +kernel
abbrev cX7_init : ByteArray := prog_1_method_1_code
def yX7_init : MethodName := ⟨RX7, "<init>", "()V"⟩
abbrev cX7_addFork : ByteArray := prog_1_method_2_code
def yX7_addFork : MethodName := ⟨RX7, "addFork", "(Z)I"⟩
abbrev cX7_addTrail : ByteArray := prog_1_method_3_code
def yX7_addTrail : MethodName := ⟨RX7, "addTrail", "(IIII)I"⟩
abbrev cX7_washOut : ByteArray := prog_1_method_4_code
def yX7_washOut : MethodName := ⟨RX7, "washOut", "(I)Z"⟩
abbrev cX7_isGone : ByteArray := prog_1_method_5_code
def yX7_isGone : MethodName := ⟨RX7, "isGone", "(IZ)Z"⟩
abbrev cX7_minutes : ByteArray := prog_1_method_6_code
def yX7_minutes : MethodName := ⟨RX7, "minutes", "(IIZ)I"⟩
abbrev cX7_firstTrail : ByteArray := prog_1_method_7_code
def yX7_firstTrail : MethodName := ⟨RX7, "firstTrail", "(II)I"⟩
abbrev cX7_addWood : ByteArray := prog_1_method_8_code
def yX7_addWood : MethodName := ⟨RX7, "addWood", "(I)I"⟩
abbrev cX7_cut : ByteArray := prog_1_method_9_code
def yX7_cut : MethodName := ⟨RX7, "cut", "(II)I"⟩
abbrev cX7_trailOf : ByteArray := prog_1_method_10_code
def yX7_trailOf : MethodName := ⟨RX7, "trailOf", "(I)I"⟩
abbrev cX7_told : ByteArray := prog_1_method_11_code
def yX7_told : MethodName := ⟨RX7, "told", "(I)I"⟩
abbrev cX7_isCovered : ByteArray := prog_1_method_12_code
def yX7_isCovered : MethodName := ⟨RX7, "isCovered", "(I)Z"⟩
abbrev cX7_danger : ByteArray := prog_1_method_13_code
def yX7_danger : MethodName := ⟨RX7, "danger", "(IZ)I"⟩
abbrev cX7_unsafe : ByteArray := prog_1_method_14_code
def yX7_unsafe : MethodName := site_1068
abbrev cX7_report : ByteArray := prog_1_method_15_code
def yX7_report : MethodName := ⟨RX7, "report", "(IIZ)Z"⟩
abbrev cX7_trust : ByteArray := prog_1_method_16_code
def yX7_trust : MethodName := ⟨RX7, "trust", "(I)I"⟩
abbrev cX7_reports : ByteArray := prog_1_method_17_code
def yX7_reports : MethodName := ⟨RX7, "reports", "(I)I"⟩
abbrev cX7_addTask : ByteArray := prog_1_method_18_code
def yX7_addTask : MethodName := ⟨RX7, "addTask", "(CII)I"⟩
abbrev cX7_plan : ByteArray := prog_1_method_19_code
def yX7_plan : MethodName := ⟨RX7, "plan", "()I"⟩
abbrev cX7_kindOf : ByteArray := prog_1_method_20_code
def yX7_kindOf : MethodName := ⟨RX7, "kindOf", "(I)C"⟩
abbrev cX7_numberOf : ByteArray := prog_1_method_21_code
def yX7_numberOf : MethodName := ⟨RX7, "numberOf", "(I)I"⟩
abbrev cX7_doneBy : ByteArray := prog_1_method_22_code
def yX7_doneBy : MethodName := ⟨RX7, "doneBy", "(I)I"⟩
abbrev cX7_openTasks : ByteArray := prog_1_method_23_code
def yX7_openTasks : MethodName := ⟨RX7, "openTasks", "()I"⟩
abbrev cX7_addRanger : ByteArray := prog_1_method_24_code
def yX7_addRanger : MethodName := ⟨RX7, "addRanger", "(II)I"⟩
abbrev cX7_forkOf : ByteArray := prog_1_method_25_code
def yX7_forkOf : MethodName := ⟨RX7, "forkOf", "(I)I"⟩
abbrev cX7_worked : ByteArray := prog_1_method_26_code
def yX7_worked : MethodName := ⟨RX7, "worked", "(I)I"⟩
abbrev cX7_day : ByteArray := prog_1_method_27_code
def yX7_day : MethodName := ⟨RX7, "day", "()I"⟩
abbrev cX7_print : ByteArray := prog_1_method_28_code
def yX7_print : MethodName := ⟨RX7, "print", "()I"⟩
abbrev cX7_shows : ByteArray := prog_1_method_29_code
def yX7_shows : MethodName := ⟨RX7, "shows", "(II)Z"⟩
abbrev cX7_age : ByteArray := prog_1_method_30_code
def yX7_age : MethodName := ⟨RX7, "age", "(I)I"⟩
abbrev cX7_knownShare : ByteArray := prog_1_method_31_code
def yX7_knownShare : MethodName := ⟨RX7, "knownShare", "()F"⟩
abbrev cX7_meanDanger : ByteArray := prog_1_method_32_code
def yX7_meanDanger : MethodName := ⟨RX7, "meanDanger", "()D"⟩
abbrev cX7_isSound : ByteArray := prog_1_method_33_code
def yX7_isSound : MethodName := ⟨RX7, "isSound", "()Z"⟩
abbrev cX7_requireFork : ByteArray := prog_1_method_34_code
def yX7_requireFork : MethodName := ⟨RX7, "requireFork", "(I)V"⟩
abbrev cX7_requireTrail : ByteArray := prog_1_method_35_code
def yX7_requireTrail : MethodName := ⟨RX7, "requireTrail", "(I)V"⟩
abbrev cX7_requireBoard : ByteArray := prog_1_method_36_code
def yX7_requireBoard : MethodName := ⟨RX7, "requireBoard", "(I)V"⟩
abbrev cX7_requireTask : ByteArray := prog_1_method_37_code
def yX7_requireTask : MethodName := ⟨RX7, "requireTask", "(I)V"⟩
abbrev cX7_requireRanger : ByteArray := prog_1_method_38_code
def yX7_requireRanger : MethodName := ⟨RX7, "requireRanger", "(I)V"⟩
abbrev cX7_requireMap : ByteArray := prog_1_method_39_code
def yX7_requireMap : MethodName := ⟨RX7, "requireMap", "(I)V"⟩
abbrev cX7_requireWalker : ByteArray := prog_1_method_40_code
def yX7_requireWalker : MethodName := ⟨RX7, "requireWalker", "(I)V"⟩
abbrev cX7_requireTrailMinutes : ByteArray := prog_1_method_41_code
def yX7_requireTrailMinutes : MethodName := ⟨RX7, "requireTrailMinutes", "(I)V"⟩
abbrev cX7_canTell : ByteArray := prog_1_method_42_code
def yX7_canTell : MethodName := ⟨RX7, "canTell", "(II)Z"⟩
abbrev cX7_putUp : ByteArray := prog_1_method_43_code
def yX7_putUp : MethodName := ⟨RX7, "putUp", "(I)V"⟩
abbrev cX7_roundUp : ByteArray := prog_1_method_44_code
def yX7_roundUp : MethodName := ⟨RX7, "roundUp", "(I)I"⟩
abbrev cX7_nextToPlan : ByteArray := prog_1_method_45_code
def yX7_nextToPlan : MethodName := ⟨RX7, "nextToPlan", "()I"⟩
abbrev cX7_kindToPlan : ByteArray := prog_1_method_46_code
def yX7_kindToPlan : MethodName := ⟨RX7, "kindToPlan", "(I)C"⟩
abbrev cX7_sendOut : ByteArray := prog_1_method_47_code
def yX7_sendOut : MethodName := ⟨RX7, "sendOut", "(I)I"⟩
abbrev cX7_chooseTask : ByteArray := prog_1_method_48_code
def yX7_chooseTask : MethodName := ⟨RX7, "chooseTask", "(I)I"⟩
abbrev cX7_makesSense : ByteArray := prog_1_method_49_code
def yX7_makesSense : MethodName := ⟨RX7, "makesSense", "(I)Z"⟩
abbrev cX7_hasTimeFor : ByteArray := prog_1_method_50_code
def yX7_hasTimeFor : MethodName := ⟨RX7, "hasTimeFor", "(II)Z"⟩
abbrev cX7_goalOf : ByteArray := prog_1_method_51_code
def yX7_goalOf : MethodName := ⟨RX7, "goalOf", "(I)I"⟩
abbrev cX7_minutesFor : ByteArray := prog_1_method_52_code
def yX7_minutesFor : MethodName := ⟨RX7, "minutesFor", "(C)I"⟩
abbrev cX7_toolFor : ByteArray := prog_1_method_53_code
def yX7_toolFor : MethodName := ⟨RX7, "toolFor", "(C)I"⟩
abbrev cX7_comesTo : ByteArray := prog_1_method_54_code
def yX7_comesTo : MethodName := ⟨RX7, "comesTo", "(II)Z"⟩
abbrev cX7_see : ByteArray := prog_1_method_55_code
def yX7_see : MethodName := ⟨RX7, "see", "(I)V"⟩
abbrev cX7_carryOut : ByteArray := prog_1_method_56_code
def yX7_carryOut : MethodName := ⟨RX7, "carryOut", "(II)V"⟩
def RX8 : String := "WayMarkerModel"
def TX8 : u_T := fun k => match k with
  | 0 => ("WayMarkerModel", "thrown", "I", false)
  | 1 => ("WayMarkerModel", "forks", "I", false)
  | 2 => ("WayMarkerModel", "trails", "I", false)
  | 3 => ("WayMarkerModel", "boards", "I", false)
  | 4 => ("WayMarkerModel", "tasks", "I", false)
  | 5 => ("WayMarkerModel", "rangers", "I", false)
  | 6 => ("WayMarkerModel", "maps", "I", false)
  | 7 => ("WayMarkerModel", "wood", "I", false)
  | 8 => ("WayMarkerModel", "day", "I", false)
  | 9 => ("WayMarkerModel", "isPlace", "[Z", true)
  | 10 => ("WayMarkerModel", "from", "[I", true)
  | 11 => ("WayMarkerModel", "to", "[I", true)
  | 12 => ("WayMarkerModel", "forth", "[I", true)
  | 13 => ("WayMarkerModel", "back", "[I", true)
  | 14 => ("WayMarkerModel", "isOut", "[Z", true)
  | 15 => ("WayMarkerModel", "isTaken", "[Z", true)
  | 16 => ("WayMarkerModel", "fork", "[I", true)
  | 17 => ("WayMarkerModel", "place", "[I", true)
  | 18 => ("WayMarkerModel", "trail", "[I", true)
  | 19 => ("WayMarkerModel", "told", "[I", true)
  | 20 => ("WayMarkerModel", "isCovered", "[Z", true)
  | 21 => ("WayMarkerModel", "said", "[I", true)
  | 22 => ("WayMarkerModel", "trust", "[I", true)
  | 23 => ("WayMarkerModel", "kind", "[C", true)
  | 24 => ("WayMarkerModel", "number", "[I", true)
  | 25 => ("WayMarkerModel", "dangers", "[I", true)
  | 26 => ("WayMarkerModel", "doneBy", "[I", true)
  | 27 => ("WayMarkerModel", "at", "[I", true)
  | 28 => ("WayMarkerModel", "tools", "[I", true)
  | 29 => ("WayMarkerModel", "worked", "[I", true)
  | 30 => ("WayMarkerModel", "map", "[Z", true)
  | 31 => ("WayMarkerModel", "printed", "[I", true)
  | 32 => ("WayMarkerModel", "far", "[I", true)
  | _ => ("WayMarkerModel", "left", "I", false)
def tyX8 : Nat → FieldType := fun k => match k with
  | 0 => .int
  | 1 => .int
  | 2 => .int
  | 3 => .int
  | 4 => .int
  | 5 => .int
  | 6 => .int
  | 7 => .int
  | 8 => .int
  | 9 => .array .boolean
  | 10 => .array .int
  | 11 => .array .int
  | 12 => .array .int
  | 13 => .array .int
  | 14 => .array .boolean
  | 15 => .array .boolean
  | 16 => .array .int
  | 17 => .array .int
  | 18 => .array .int
  | 19 => .array .int
  | 20 => .array .boolean
  | 21 => .array .int
  | 22 => .array .int
  | 23 => .array .char
  | 24 => .array .int
  | 25 => .array .int
  | 26 => .array .int
  | 27 => .array .int
  | 28 => .array .int
  | 29 => .array .int
  | 30 => .array .boolean
  | 31 => .array .int
  | 32 => .array .int
  | _ => .int
abbrev wsX80 : List Cond := u_ws RX8 TX8 34
theorem nmX8 : ∀ a, a < 34 → ∀ b, b < 34 → a ≠ b → (TX8 a).2.1 ≠ (TX8 b).2.1 := by decide +kernel
theorem tyX8_ok : ∀ k, k < 34 → parseFieldDescriptor (TX8 k).2.2.1 = some (tyX8 k) := by decide +kernel
abbrev cX8_init : ByteArray := prog_10_method_1_code
def yX8_init : MethodName := ⟨RX8, "<init>", "()V"⟩
abbrev cX8_thrown : ByteArray := prog_10_method_2_code
def yX8_thrown : MethodName := ⟨RX8, "thrown", "()I"⟩
abbrev cX8_in : ByteArray := prog_10_method_3_code
def yX8_in : MethodName := ⟨RX8, "in", "(III)Z"⟩
abbrev cX8_least : ByteArray := prog_10_method_4_code
def yX8_least : MethodName := ⟨RX8, "least", "(II)I"⟩
abbrev cX8_fails : ByteArray := prog_10_method_5_code
def yX8_fails : MethodName := ⟨RX8, "fails", "(I)I"⟩
abbrev cX8_tells : ByteArray := prog_10_method_6_code
def yX8_tells : MethodName := ⟨RX8, "tells", "(I)I"⟩
abbrev cX8_isFork : ByteArray := prog_10_method_7_code
def yX8_isFork : MethodName := ⟨RX8, "isFork", "(I)Z"⟩
abbrev cX8_isTrail : ByteArray := prog_10_method_8_code
def yX8_isTrail : MethodName := ⟨RX8, "isTrail", "(I)Z"⟩
abbrev cX8_isBoard : ByteArray := prog_10_method_9_code
def yX8_isBoard : MethodName := ⟨RX8, "isBoard", "(I)Z"⟩
abbrev cX8_isTask : ByteArray := prog_10_method_10_code
def yX8_isTask : MethodName := ⟨RX8, "isTask", "(I)Z"⟩
abbrev cX8_isRanger : ByteArray := prog_10_method_11_code
def yX8_isRanger : MethodName := ⟨RX8, "isRanger", "(I)Z"⟩
abbrev cX8_addFork : ByteArray := prog_10_method_12_code
def yX8_addFork : MethodName := ⟨RX8, "addFork", "(Z)I"⟩
abbrev cX8_addTrail : ByteArray := prog_10_method_13_code
def yX8_addTrail : MethodName := ⟨RX8, "addTrail", "(IIII)I"⟩
abbrev cX8_washOut : ByteArray := prog_10_method_14_code
def yX8_washOut : MethodName := ⟨RX8, "washOut", "(I)Z"⟩
abbrev cX8_isShut : ByteArray := prog_10_method_15_code
def yX8_isShut : MethodName := ⟨RX8, "isShut", "(IZ)Z"⟩
abbrev cX8_isGone : ByteArray := prog_10_method_16_code
def yX8_isGone : MethodName := ⟨RX8, "isGone", "(IZ)Z"⟩
abbrev cX8_of : ByteArray := prog_10_method_17_code
def yX8_of : MethodName := ⟨RX8, "of", "(II)I"⟩
abbrev cX8_other : ByteArray := prog_10_method_18_code
def yX8_other : MethodName := ⟨RX8, "other", "(II)I"⟩
abbrev cX8_reckons : ByteArray := prog_10_method_19_code
def yX8_reckons : MethodName := ⟨RX8, "reckons", "(IZ)V"⟩
abbrev cX8_way : ByteArray := prog_10_method_20_code
def yX8_way : MethodName := ⟨RX8, "way", "(IIZ)I"⟩
abbrev cX8_next : ByteArray := prog_10_method_21_code
def yX8_next : MethodName := ⟨RX8, "next", "(II)I"⟩
abbrev cX8_minutes : ByteArray := prog_10_method_22_code
def yX8_minutes : MethodName := ⟨RX8, "minutes", "(IIZ)I"⟩
abbrev cX8_firstTrail : ByteArray := prog_10_method_23_code
def yX8_firstTrail : MethodName := ⟨RX8, "firstTrail", "(II)I"⟩
abbrev cX8_addWood : ByteArray := prog_10_method_24_code
def yX8_addWood : MethodName := ⟨RX8, "addWood", "(I)I"⟩
abbrev cX8_canBeCut : ByteArray := prog_10_method_25_code
def yX8_canBeCut : MethodName := ⟨RX8, "canBeCut", "(II)Z"⟩
abbrev cX8_cuts : ByteArray := prog_10_method_26_code
def yX8_cuts : MethodName := ⟨RX8, "cuts", "(III)V"⟩
abbrev cX8_cut : ByteArray := prog_10_method_27_code
def yX8_cut : MethodName := ⟨RX8, "cut", "(II)I"⟩
abbrev cX8_trailOf : ByteArray := prog_10_method_28_code
def yX8_trailOf : MethodName := ⟨RX8, "trailOf", "(I)I"⟩
abbrev cX8_told : ByteArray := prog_10_method_29_code
def yX8_told : MethodName := ⟨RX8, "told", "(I)I"⟩
abbrev cX8_isCovered : ByteArray := prog_10_method_30_code
def yX8_isCovered : MethodName := ⟨RX8, "isCovered", "(I)Z"⟩
abbrev cX8_dangerOf : ByteArray := prog_10_method_31_code
def yX8_dangerOf : MethodName := ⟨RX8, "dangerOf", "(IZ)I"⟩
abbrev cX8_danger : ByteArray := prog_10_method_32_code
def yX8_danger : MethodName := ⟨RX8, "danger", "(IZ)I"⟩
abbrev cX8_unsafe : ByteArray := prog_10_method_33_code
def yX8_unsafe : MethodName := site_1086
abbrev cX8_report : ByteArray := prog_10_method_34_code
def yX8_report : MethodName := ⟨RX8, "report", "(IIZ)Z"⟩
abbrev cX8_sees : ByteArray := prog_10_method_35_code
def yX8_sees : MethodName := ⟨RX8, "sees", "(I)V"⟩
abbrev cX8_trust : ByteArray := prog_10_method_36_code
def yX8_trust : MethodName := ⟨RX8, "trust", "(I)I"⟩
abbrev cX8_reports : ByteArray := prog_10_method_37_code
def yX8_reports : MethodName := ⟨RX8, "reports", "(I)I"⟩
abbrev cX8_adds : ByteArray := prog_10_method_38_code
def yX8_adds : MethodName := ⟨RX8, "adds", "(CII)I"⟩
abbrev cX8_addTask : ByteArray := prog_10_method_39_code
def yX8_addTask : MethodName := ⟨RX8, "addTask", "(CII)I"⟩
abbrev cX8_hasOpen : ByteArray := prog_10_method_40_code
def yX8_hasOpen : MethodName := ⟨RX8, "hasOpen", "(CI)Z"⟩
abbrev cX8_wants : ByteArray := prog_10_method_41_code
def yX8_wants : MethodName := ⟨RX8, "wants", "(I)Z"⟩
abbrev cX8_plan : ByteArray := prog_10_method_42_code
def yX8_plan : MethodName := ⟨RX8, "plan", "()I"⟩
abbrev cX8_kindOf : ByteArray := prog_10_method_43_code
def yX8_kindOf : MethodName := ⟨RX8, "kindOf", "(I)C"⟩
abbrev cX8_numberOf : ByteArray := prog_10_method_44_code
def yX8_numberOf : MethodName := ⟨RX8, "numberOf", "(I)I"⟩
abbrev cX8_doneBy : ByteArray := prog_10_method_45_code
def yX8_doneBy : MethodName := ⟨RX8, "doneBy", "(I)I"⟩
abbrev cX8_openTasks : ByteArray := prog_10_method_46_code
def yX8_openTasks : MethodName := ⟨RX8, "openTasks", "()I"⟩
abbrev cX8_addRanger : ByteArray := prog_10_method_47_code
def yX8_addRanger : MethodName := ⟨RX8, "addRanger", "(II)I"⟩
abbrev cX8_forkOf : ByteArray := prog_10_method_48_code
def yX8_forkOf : MethodName := ⟨RX8, "forkOf", "(I)I"⟩
abbrev cX8_worked : ByteArray := prog_10_method_49_code
def yX8_worked : MethodName := ⟨RX8, "worked", "(I)I"⟩
abbrev cX8_placeOf : ByteArray := prog_10_method_50_code
def yX8_placeOf : MethodName := ⟨RX8, "placeOf", "(I)I"⟩
abbrev cX8_timeOf : ByteArray := prog_10_method_51_code
def yX8_timeOf : MethodName := ⟨RX8, "timeOf", "(I)I"⟩
abbrev cX8_canBeDone : ByteArray := prog_10_method_52_code
def yX8_canBeDone : MethodName := ⟨RX8, "canBeDone", "(I)Z"⟩
abbrev cX8_hasTool : ByteArray := prog_10_method_53_code
def yX8_hasTool : MethodName := ⟨RX8, "hasTool", "(II)Z"⟩
abbrev cX8_isInTime : ByteArray := prog_10_method_54_code
def yX8_isInTime : MethodName := ⟨RX8, "isInTime", "(II)Z"⟩
abbrev cX8_chosen : ByteArray := prog_10_method_55_code
def yX8_chosen : MethodName := ⟨RX8, "chosen", "(I)I"⟩
abbrev cX8_comes : ByteArray := prog_10_method_56_code
def yX8_comes : MethodName := ⟨RX8, "comes", "(II)Z"⟩
abbrev cX8_does : ByteArray := prog_10_method_57_code
def yX8_does : MethodName := ⟨RX8, "does", "(II)V"⟩
abbrev cX8_day : ByteArray := prog_10_method_58_code
def yX8_day : MethodName := ⟨RX8, "day", "()I"⟩
abbrev cX8_print : ByteArray := prog_10_method_59_code
def yX8_print : MethodName := ⟨RX8, "print", "()I"⟩
abbrev cX8_isMap : ByteArray := prog_10_method_60_code
def yX8_isMap : MethodName := ⟨RX8, "isMap", "(I)Z"⟩
abbrev cX8_shows : ByteArray := prog_10_method_61_code
def yX8_shows : MethodName := ⟨RX8, "shows", "(II)Z"⟩
abbrev cX8_age : ByteArray := prog_10_method_62_code
def yX8_age : MethodName := ⟨RX8, "age", "(I)I"⟩
abbrev cX8_knownShare : ByteArray := prog_10_method_63_code
def yX8_knownShare : MethodName := ⟨RX8, "knownShare", "()F"⟩
abbrev cX8_meanDanger : ByteArray := prog_10_method_64_code
def yX8_meanDanger : MethodName := ⟨RX8, "meanDanger", "()D"⟩
abbrev cX8_isSound : ByteArray := prog_10_method_65_code
def yX8_isSound : MethodName := ⟨RX8, "isSound", "()Z"⟩
def RJx145de : String := "java/io/Serializable"
def TJx145de : u_T := fun k => match k with
  | _ => ("", "", "", false)
def tyJx145de : Nat → FieldType := fun k => match k with
  | _ => .int
abbrev wsJx145de0 : List Cond := u_ws RJx145de TJx145de 0
theorem nmJx145de : ∀ a, a < 0 → ∀ b, b < 0 → a ≠ b → (TJx145de a).2.1 ≠ (TJx145de b).2.1 := by decide +kernel
theorem tyJx145de_ok : ∀ k, k < 0 → parseFieldDescriptor (TJx145de k).2.2.1 = some (tyJx145de k) := by decide +kernel
def RJx00060 : String := "java/lang/ArrayIndexOutOfBoundsException"
def TJx00060 : u_T := fun k => match k with
  | 0 => ("java/lang/Throwable", "backtrace", "Ljava/lang/Object;", false)
  | 1 => ("java/lang/Throwable", "detailMessage", "Ljava/lang/String;", false)
  | 2 => ("java/lang/Throwable", "cause", "Ljava/lang/Throwable;", false)
  | 3 => ("java/lang/Throwable", "stackTrace", "[Ljava/lang/StackTraceElement;", false)
  | 4 => ("java/lang/Throwable", "depth", "I", false)
  | _ => ("java/lang/Throwable", "suppressedExceptions", "Ljava/util/List;", false)
def tyJx00060 : Nat → FieldType := fun k => match k with
  | 0 => .object "java/lang/Object"
  | 1 => .object "java/lang/String"
  | 2 => .object "java/lang/Throwable"
  | 3 => .array (.object "java/lang/StackTraceElement")
  | 4 => .int
  | _ => .object "java/util/List"
abbrev wsJx000600 : List Cond := u_ws RJx00060 TJx00060 6
theorem nmJx00060 : ∀ a, a < 6 → ∀ b, b < 6 → a ≠ b → (TJx00060 a).2.1 ≠ (TJx00060 b).2.1 := by decide +kernel
theorem tyJx00060_ok : ∀ k, k < 6 → parseFieldDescriptor (TJx00060 k).2.2.1 = some (tyJx00060 k) := by decide +kernel
abbrev cJx00060_init_a7421 : ByteArray := prog_13_method_2_code
def yJx00060_init_a7421 : MethodName := ⟨RJx00060, "<init>", "(Ljava/lang/String;)V"⟩
def RJ9 : String := "java/lang/Math"
def TJ9 : u_T := fun k => match k with
  | _ => ("", "", "", false)
def tyJ9 : Nat → FieldType := fun k => match k with
  | _ => .int
abbrev wsJ90 : List Cond := u_ws RJ9 TJ9 0
theorem nmJ9 : ∀ a, a < 0 → ∀ b, b < 0 → a ≠ b → (TJ9 a).2.1 ≠ (TJ9 b).2.1 := by decide +kernel
theorem tyJ9_ok : ∀ k, k < 0 → parseFieldDescriptor (TJ9 k).2.2.1 = some (tyJ9 k) := by decide +kernel
abbrev cJ9_max_7cf53 : ByteArray := prog_18_method_65_code
def yJ9_max_7cf53 : MethodName := ⟨RJ9, "max", "(II)I"⟩
abbrev cJ9_min_7cf53 : ByteArray := prog_18_method_69_code
def yJ9_min_7cf53 : MethodName := ⟨RJ9, "min", "(II)I"⟩
def RJ0 : String := "java/lang/String"
def TJ0 : u_T := fun k => match k with
  | 0 => ("java/lang/String", "value", "[B", true)
  | _ => ("java/lang/String", "coder", "B", true)
def tyJ0 : Nat → FieldType := fun k => match k with
  | 0 => .array .byte
  | _ => .byte
abbrev wsJ00 : List Cond := u_ws RJ0 TJ0 2
theorem nmJ0 : ∀ a, a < 2 → ∀ b, b < 2 → a ≠ b → (TJ0 a).2.1 ≠ (TJ0 b).2.1 := by decide +kernel
theorem tyJ0_ok : ∀ k, k < 2 → parseFieldDescriptor (TJ0 k).2.2.1 = some (tyJ0 k) := by decide +kernel
def RL : String := "WayMarkerLaw"
abbrev cL_addFork : ByteArray := method_3_code
def yL_addFork : MethodName := ⟨RL, "addFork", "(LWayMarker;Z[J)I"⟩
abbrev cL_addTrail : ByteArray := method_4_code
def yL_addTrail : MethodName := ⟨RL, "addTrail", "(LWayMarker;IIII[J)I"⟩
abbrev cL_washOut : ByteArray := method_5_code
def yL_washOut : MethodName := ⟨RL, "washOut", "(LWayMarker;I[J)I"⟩
abbrev cL_isGone : ByteArray := method_6_code
def yL_isGone : MethodName := ⟨RL, "isGone", "(LWayMarker;IZ[J)I"⟩
abbrev cL_minutes : ByteArray := method_7_code
def yL_minutes : MethodName := ⟨RL, "minutes", "(LWayMarker;IIZ[J)I"⟩
abbrev cL_firstTrail : ByteArray := method_8_code
def yL_firstTrail : MethodName := ⟨RL, "firstTrail", "(LWayMarker;II[J)I"⟩
abbrev cL_addWood : ByteArray := method_9_code
def yL_addWood : MethodName := ⟨RL, "addWood", "(LWayMarker;I[J)I"⟩
abbrev cL_cut : ByteArray := method_10_code
def yL_cut : MethodName := ⟨RL, "cut", "(LWayMarker;II[J)I"⟩
abbrev cL_trailOf : ByteArray := method_11_code
def yL_trailOf : MethodName := ⟨RL, "trailOf", "(LWayMarker;I[J)I"⟩
abbrev cL_told : ByteArray := method_12_code
def yL_told : MethodName := ⟨RL, "told", "(LWayMarker;I[J)I"⟩
abbrev cL_isCovered : ByteArray := method_13_code
def yL_isCovered : MethodName := ⟨RL, "isCovered", "(LWayMarker;I[J)I"⟩
abbrev cL_danger : ByteArray := method_14_code
def yL_danger : MethodName := ⟨RL, "danger", "(LWayMarker;IZ[J)I"⟩
abbrev cL_report : ByteArray := method_15_code
def yL_report : MethodName := ⟨RL, "report", "(LWayMarker;IIZ[J)I"⟩
abbrev cL_trust : ByteArray := method_16_code
def yL_trust : MethodName := ⟨RL, "trust", "(LWayMarker;I[J)I"⟩
abbrev cL_reports : ByteArray := method_17_code
def yL_reports : MethodName := ⟨RL, "reports", "(LWayMarker;I[J)I"⟩
abbrev cL_addTask : ByteArray := method_18_code
def yL_addTask : MethodName := ⟨RL, "addTask", "(LWayMarker;CII[J)I"⟩
abbrev cL_kindOf : ByteArray := method_19_code
def yL_kindOf : MethodName := ⟨RL, "kindOf", "(LWayMarker;I[J)I"⟩
abbrev cL_numberOf : ByteArray := method_20_code
def yL_numberOf : MethodName := ⟨RL, "numberOf", "(LWayMarker;I[J)I"⟩
abbrev cL_doneBy : ByteArray := method_21_code
def yL_doneBy : MethodName := ⟨RL, "doneBy", "(LWayMarker;I[J)I"⟩
abbrev cL_addRanger : ByteArray := method_22_code
def yL_addRanger : MethodName := ⟨RL, "addRanger", "(LWayMarker;II[J)I"⟩
abbrev cL_forkOf : ByteArray := method_23_code
def yL_forkOf : MethodName := ⟨RL, "forkOf", "(LWayMarker;I[J)I"⟩
abbrev cL_worked : ByteArray := method_24_code
def yL_worked : MethodName := ⟨RL, "worked", "(LWayMarker;I[J)I"⟩
abbrev cL_day : ByteArray := method_25_code
def yL_day : MethodName := ⟨RL, "day", "(LWayMarker;[J)I"⟩
abbrev cL_print : ByteArray := method_26_code
def yL_print : MethodName := ⟨RL, "print", "(LWayMarker;[J)I"⟩
abbrev cL_shows : ByteArray := method_27_code
def yL_shows : MethodName := ⟨RL, "shows", "(LWayMarker;II[J)I"⟩
abbrev cL_age : ByteArray := method_28_code
def yL_age : MethodName := ⟨RL, "age", "(LWayMarker;I[J)I"⟩
abbrev cL_knownShare : ByteArray := method_29_code
def yL_knownShare : MethodName := ⟨RL, "knownShare", "(LWayMarker;[D)I"⟩
abbrev cL_meanDanger : ByteArray := method_30_code
def yL_meanDanger : MethodName := ⟨RL, "meanDanger", "(LWayMarker;[D)I"⟩
abbrev cL_law : ByteArray := code
def yL_law : MethodName := ⟨RL, "law", "([I)Z"⟩
abbrev vwCl : List vw_C := [(RJ0, TJ0, 2), (RJx00060, TJx00060, 6), (RX0, TX0, 7), (RX1, TX1, 3), (RX2, TX2, 10), (RX3, TX3, 5), (RX4, TX4, 5), (RX5, TX5, 2), (RX6, TX6, 2), (RX7, TX7, 7), (RX8, TX8, 34)]
end
section
def wALL : List Cond := lw_tbl.filter goodWord
theorem wALL_of {w : Cond} (i : Nat) (h : tables_1[i]? = some w) (g : goodWord w = true) : w ∈ wALL := List.mem_filter.mpr ⟨List.mem_append_right _ (List.mem_of_getElem? h), g⟩
theorem wALL_pr {w : Cond} (i : Nat) (h : (k2_sels lw_privs)[i]? = some w) (g : goodWord w = true) : w ∈ wALL := List.mem_filter.mpr ⟨List.mem_append_left _ (List.mem_of_getElem? h), g⟩
theorem wALL_tbl {w : Cond} (h : w ∈ wALL) : w ∈ lw_tbl := (List.mem_filter.mp h).1
theorem wALL_good {w : Cond} (h : w ∈ wALL) : goodWord w = true := (List.mem_filter.mp h).2
theorem in_L : Cond.initialized RL ∈ wALL := wALL_of 0 (by decide +kernel) (by decide +kernel)
theorem in_X7 : Cond.initialized RX7 ∈ wALL := wALL_of 1 (by decide +kernel) (by decide +kernel)
theorem in_X2 : Cond.initialized RX2 ∈ wALL := wALL_of 2 (by decide +kernel) (by decide +kernel)
theorem in_X5 : Cond.initialized RX5 ∈ wALL := wALL_of 3 (by decide +kernel) (by decide +kernel)
theorem in_X0 : Cond.initialized RX0 ∈ wALL := wALL_of 4 (by decide +kernel) (by decide +kernel)
theorem in_X6 : Cond.initialized RX6 ∈ wALL := wALL_of 5 (by decide +kernel) (by decide +kernel)
theorem in_X4 : Cond.initialized RX4 ∈ wALL := wALL_of 6 (by decide +kernel) (by decide +kernel)
theorem in_X3 : Cond.initialized RX3 ∈ wALL := wALL_of 7 (by decide +kernel) (by decide +kernel)
theorem in_X1 : Cond.initialized RX1 ∈ wALL := wALL_of 8 (by decide +kernel) (by decide +kernel)
theorem in_X8 : Cond.initialized RX8 ∈ wALL := wALL_of 9 (by decide +kernel) (by decide +kernel)
theorem in_java_lang_Throwable : Cond.initialized "java/lang/Throwable" ∈ wALL := wALL_of 10 (by decide +kernel) (by decide +kernel)
theorem in_java_lang_Exception : Cond.initialized "java/lang/Exception" ∈ wALL := wALL_of 11 (by decide +kernel) (by decide +kernel)
theorem in_java_lang_RuntimeException : Cond.initialized "java/lang/RuntimeException" ∈ wALL := wALL_of 12 (by decide +kernel) (by decide +kernel)
theorem in_java_lang_IllegalStateException : Cond.initialized "java/lang/IllegalStateException" ∈ wALL := wALL_of 13 (by decide +kernel) (by decide +kernel)
theorem in_java_lang_IndexOutOfBoundsException : Cond.initialized "java/lang/IndexOutOfBoundsException" ∈ wALL := wALL_of 14 (by decide +kernel) (by decide +kernel)
theorem in_Jx00060 : Cond.initialized RJx00060 ∈ wALL := wALL_of 15 (by decide +kernel) (by decide +kernel)
theorem in_J0 : Cond.initialized RJ0 ∈ wALL := wALL_of 16 (by decide +kernel) (by decide +kernel)
theorem in_java_lang_IllegalArgumentException : Cond.initialized "java/lang/IllegalArgumentException" ∈ wALL := wALL_of 17 (by decide +kernel) (by decide +kernel)
theorem in_java_util_NoSuchElementException : Cond.initialized "java/util/NoSuchElementException" ∈ wALL := wALL_of 18 (by decide +kernel) (by decide +kernel)
theorem in_java_lang_UnsupportedOperationException : Cond.initialized "java/lang/UnsupportedOperationException" ∈ wALL := wALL_of 19 (by decide +kernel) (by decide +kernel)
theorem in_J9 : Cond.initialized RJ9 ∈ wALL := wALL_of 20 (by decide +kernel) (by decide +kernel)
theorem in_java_lang_ArithmeticException : Cond.initialized "java/lang/ArithmeticException" ∈ wALL := wALL_of 21 (by decide +kernel) (by decide +kernel)
theorem cl_L_8 : Cond.classLink RL 8 RX7 ∈ wALL := wALL_of 22 (by decide +kernel) (by decide +kernel)
theorem it_X7 : Cond.instantiable RX7 7 ∈ wALL := wALL_of 23 (by decide +kernel) (by decide +kernel)
theorem ml_L_120 : Cond.methodLink RL 120 yX7_init ∈ wALL := wALL_of 24 (by decide +kernel) (by decide +kernel)
theorem im_X7_init : Cond.instanceMethod yX7_init ∈ wALL := wALL_of 25 (by decide +kernel) (by decide +kernel)
theorem co_X7_init : Cond.code yX7_init cX7_init 1 none ∈ wALL := wALL_of 26 (by decide +kernel) (by decide +kernel)
theorem ml_X7_1 : Cond.methodLink RX7 1 objectInit ∈ wALL := wALL_of 27 (by decide +kernel) (by decide +kernel)
theorem im_objectInit : Cond.instanceMethod objectInit ∈ wALL := wALL_of 28 (by decide +kernel) (by decide +kernel)
theorem co_objectInit : Cond.code objectInit object_method_1_code 1 none ∈ wALL := wALL_of 29 (by decide +kernel) (by decide +kernel)
theorem cl_X7_7 : Cond.classLink RX7 7 RX2 ∈ wALL := wALL_of 30 (by decide +kernel) (by decide +kernel)
theorem it_X2 : Cond.instantiable RX2 10 ∈ wALL := wALL_of 31 (by decide +kernel) (by decide +kernel)
theorem im_X2_init : Cond.instanceMethod yX2_init ∈ wALL := wALL_of 33 (by decide +kernel) (by decide +kernel)
theorem co_X2_init : Cond.code yX2_init cX2_init 1 none ∈ wALL := wALL_of 34 (by decide +kernel) (by decide +kernel)
theorem ml_X2_3 : Cond.methodLink RX2 3 objectInit ∈ wALL := wALL_of 35 (by decide +kernel) (by decide +kernel)
theorem cl_X2_28 : Cond.classLink RX2 28 RX5 ∈ wALL := wALL_of 36 (by decide +kernel) (by decide +kernel)
theorem it_X5 : Cond.instantiable RX5 2 ∈ wALL := wALL_of 37 (by decide +kernel) (by decide +kernel)
theorem ml_X2_30 : Cond.methodLink RX2 30 yX5_init ∈ wALL := wALL_of 38 (by decide +kernel) (by decide +kernel)
theorem im_X5_init : Cond.instanceMethod yX5_init ∈ wALL := wALL_of 39 (by decide +kernel) (by decide +kernel)
theorem co_X5_init : Cond.code yX5_init cX5_init 1 none ∈ wALL := wALL_of 40 (by decide +kernel) (by decide +kernel)
theorem ml_X5_3 : Cond.methodLink RX5 3 objectInit ∈ wALL := wALL_of 41 (by decide +kernel) (by decide +kernel)
theorem ml_X5_19 : Cond.methodLink RX5 19 yX5_forgetWays ∈ wALL := wALL_of 42 (by decide +kernel) (by decide +kernel)
theorem im_X5_forgetWays : Cond.instanceMethod yX5_forgetWays ∈ wALL := wALL_of 43 (by decide +kernel) (by decide +kernel)
theorem se_X5_forgetWays : Cond.selects RX5 yX5_forgetWays yX5_forgetWays ∈ wALL := wALL_of 44 (by decide +kernel) (by decide +kernel)
theorem co_X5_forgetWays : Cond.code yX5_forgetWays cX5_forgetWays 3 none ∈ wALL := wALL_of 45 (by decide +kernel) (by decide +kernel)
theorem kc_X5_22 : Cond.constant RX5 22 (1000000 : Int32) ∈ wALL := wALL_of 46 (by decide +kernel) (by decide +kernel)
theorem fl_X5_9 : Cond.fieldLink RX5 9 "WayMarker$View" "gone" "[Z" ∈ wALL := wALL_of 47 (by decide +kernel) (by decide +kernel)
theorem fl_X0_35 : Cond.fieldLink RX0 35 "WayMarker$View" "gone" "[Z" ∈ wALL := wALL_of 48 (by decide +kernel) (by decide +kernel)
theorem fl_X1_32 : Cond.fieldLink RX1 32 "WayMarker$View" "gone" "[Z" ∈ wALL := wALL_of 49 (by decide +kernel) (by decide +kernel)
theorem fl_X2_52 : Cond.fieldLink RX2 52 "WayMarker$View" "gone" "[Z" ∈ wALL := wALL_of 50 (by decide +kernel) (by decide +kernel)
theorem fl_X7_97 : Cond.fieldLink RX7 97 "WayMarker$View" "gone" "[Z" ∈ wALL := wALL_of 51 (by decide +kernel) (by decide +kernel)
theorem fl_X5_15 : Cond.fieldLink RX5 15 "WayMarker$View" "least" "[I" ∈ wALL := wALL_of 52 (by decide +kernel) (by decide +kernel)
theorem fl_X2_73 : Cond.fieldLink RX2 73 "WayMarker$View" "least" "[I" ∈ wALL := wALL_of 53 (by decide +kernel) (by decide +kernel)
theorem ly_X5_gone : Cond.laysFinal RX5 "WayMarker$View" "gone" "[Z" ∈ wALL := wALL_of 54 (by decide +kernel) (by decide +kernel)
theorem ly_X5_least : Cond.laysFinal RX5 "WayMarker$View" "least" "[I" ∈ wALL := wALL_of 56 (by decide +kernel) (by decide +kernel)
theorem ac_boolean : Cond.arrayClass Jvm.ClassFile.FieldType.boolean ∈ wALL := wALL_of 59 (by decide +kernel) (by decide +kernel)
theorem ac_int : Cond.arrayClass Jvm.ClassFile.FieldType.int ∈ wALL := wALL_of 60 (by decide +kernel) (by decide +kernel)
theorem fl_X2_9 : Cond.fieldLink RX2 9 "WayMarker$Net" "isPlace" "[Z" ∈ wALL := wALL_of 61 (by decide +kernel) (by decide +kernel)
theorem fl_X7_65 : Cond.fieldLink RX7 65 "WayMarker$Net" "isPlace" "[Z" ∈ wALL := wALL_of 62 (by decide +kernel) (by decide +kernel)
theorem fl_X2_15 : Cond.fieldLink RX2 15 "WayMarker$Net" "first" "[I" ∈ wALL := wALL_of 63 (by decide +kernel) (by decide +kernel)
theorem fl_X7_348 : Cond.fieldLink RX7 348 "WayMarker$Net" "first" "[I" ∈ wALL := wALL_of 64 (by decide +kernel) (by decide +kernel)
theorem fl_X2_19 : Cond.fieldLink RX2 19 "WayMarker$Net" "second" "[I" ∈ wALL := wALL_of 65 (by decide +kernel) (by decide +kernel)
theorem fl_X2_22 : Cond.fieldLink RX2 22 "WayMarker$Net" "forthMinutes" "[I" ∈ wALL := wALL_of 66 (by decide +kernel) (by decide +kernel)
theorem fl_X2_25 : Cond.fieldLink RX2 25 "WayMarker$Net" "backMinutes" "[I" ∈ wALL := wALL_of 67 (by decide +kernel) (by decide +kernel)
theorem fl_X2_31 : Cond.fieldLink RX2 31 "WayMarker$Net" "truth" "LWayMarker$View;" ∈ wALL := wALL_of 68 (by decide +kernel) (by decide +kernel)
theorem fl_X7_93 : Cond.fieldLink RX7 93 "WayMarker$Net" "truth" "LWayMarker$View;" ∈ wALL := wALL_of 69 (by decide +kernel) (by decide +kernel)
theorem fl_X2_35 : Cond.fieldLink RX2 35 "WayMarker$Net" "taken" "LWayMarker$View;" ∈ wALL := wALL_of 70 (by decide +kernel) (by decide +kernel)
theorem fl_X1_28 : Cond.fieldLink RX1 28 "WayMarker$Net" "taken" "LWayMarker$View;" ∈ wALL := wALL_of 71 (by decide +kernel) (by decide +kernel)
theorem fl_X7_181 : Cond.fieldLink RX7 181 "WayMarker$Net" "taken" "LWayMarker$View;" ∈ wALL := wALL_of 72 (by decide +kernel) (by decide +kernel)
theorem fl_X2_38 : Cond.fieldLink RX2 38 "WayMarker$Net" "compared" "[I" ∈ wALL := wALL_of 73 (by decide +kernel) (by decide +kernel)
theorem fl_X2_41 : Cond.fieldLink RX2 41 "WayMarker$Net" "forks" "I" ∈ wALL := wALL_of 74 (by decide +kernel) (by decide +kernel)
theorem fl_X7_55 : Cond.fieldLink RX7 55 "WayMarker$Net" "forks" "I" ∈ wALL := wALL_of 75 (by decide +kernel) (by decide +kernel)
theorem fl_X2_45 : Cond.fieldLink RX2 45 "WayMarker$Net" "trails" "I" ∈ wALL := wALL_of 76 (by decide +kernel) (by decide +kernel)
theorem fl_X1_23 : Cond.fieldLink RX1 23 "WayMarker$Net" "trails" "I" ∈ wALL := wALL_of 77 (by decide +kernel) (by decide +kernel)
theorem fl_X7_81 : Cond.fieldLink RX7 81 "WayMarker$Net" "trails" "I" ∈ wALL := wALL_of 78 (by decide +kernel) (by decide +kernel)
theorem ly_X2_isPlace : Cond.laysFinal RX2 "WayMarker$Net" "isPlace" "[Z" ∈ wALL := wALL_of 79 (by decide +kernel) (by decide +kernel)
theorem ly_X2_first : Cond.laysFinal RX2 "WayMarker$Net" "first" "[I" ∈ wALL := wALL_of 81 (by decide +kernel) (by decide +kernel)
theorem ly_X2_second : Cond.laysFinal RX2 "WayMarker$Net" "second" "[I" ∈ wALL := wALL_of 83 (by decide +kernel) (by decide +kernel)
theorem ly_X2_forthMinutes : Cond.laysFinal RX2 "WayMarker$Net" "forthMinutes" "[I" ∈ wALL := wALL_of 85 (by decide +kernel) (by decide +kernel)
theorem ly_X2_backMinutes : Cond.laysFinal RX2 "WayMarker$Net" "backMinutes" "[I" ∈ wALL := wALL_of 87 (by decide +kernel) (by decide +kernel)
theorem ly_X2_truth : Cond.laysFinal RX2 "WayMarker$Net" "truth" "LWayMarker$View;" ∈ wALL := wALL_of 89 (by decide +kernel) (by decide +kernel)
theorem ly_X2_taken : Cond.laysFinal RX2 "WayMarker$Net" "taken" "LWayMarker$View;" ∈ wALL := wALL_of 91 (by decide +kernel) (by decide +kernel)
theorem ly_X2_compared : Cond.laysFinal RX2 "WayMarker$Net" "compared" "[I" ∈ wALL := wALL_of 93 (by decide +kernel) (by decide +kernel)
theorem ly_X2_forks : Cond.lays RX2 "WayMarker$Net" "forks" "I" ∈ wALL := wALL_of 95 (by decide +kernel) (by decide +kernel)
theorem ly_X2_trails : Cond.lays RX2 "WayMarker$Net" "trails" "I" ∈ wALL := wALL_of 97 (by decide +kernel) (by decide +kernel)
theorem cl_X7_16 : Cond.classLink RX7 16 RX0 ∈ wALL := wALL_of 100 (by decide +kernel) (by decide +kernel)
theorem it_X0 : Cond.instantiable RX0 7 ∈ wALL := wALL_of 101 (by decide +kernel) (by decide +kernel)
theorem im_X0_init : Cond.instanceMethod yX0_init ∈ wALL := wALL_of 103 (by decide +kernel) (by decide +kernel)
theorem co_X0_init : Cond.code yX0_init cX0_init 1 none ∈ wALL := wALL_of 104 (by decide +kernel) (by decide +kernel)
theorem ml_X0_3 : Cond.methodLink RX0 3 objectInit ∈ wALL := wALL_of 105 (by decide +kernel) (by decide +kernel)
theorem fl_X0_9 : Cond.fieldLink RX0 9 "WayMarker$Boards" "fork" "[I" ∈ wALL := wALL_of 106 (by decide +kernel) (by decide +kernel)
theorem fl_X7_148 : Cond.fieldLink RX7 148 "WayMarker$Boards" "fork" "[I" ∈ wALL := wALL_of 107 (by decide +kernel) (by decide +kernel)
theorem fl_X0_15 : Cond.fieldLink RX0 15 "WayMarker$Boards" "place" "[I" ∈ wALL := wALL_of 108 (by decide +kernel) (by decide +kernel)
theorem fl_X7_152 : Cond.fieldLink RX7 152 "WayMarker$Boards" "place" "[I" ∈ wALL := wALL_of 109 (by decide +kernel) (by decide +kernel)
theorem fl_X0_18 : Cond.fieldLink RX0 18 "WayMarker$Boards" "trail" "[I" ∈ wALL := wALL_of 110 (by decide +kernel) (by decide +kernel)
theorem fl_X7_161 : Cond.fieldLink RX7 161 "WayMarker$Boards" "trail" "[I" ∈ wALL := wALL_of 111 (by decide +kernel) (by decide +kernel)
theorem fl_X0_21 : Cond.fieldLink RX0 21 "WayMarker$Boards" "minutesTold" "[I" ∈ wALL := wALL_of 112 (by decide +kernel) (by decide +kernel)
theorem fl_X7_164 : Cond.fieldLink RX7 164 "WayMarker$Boards" "minutesTold" "[I" ∈ wALL := wALL_of 113 (by decide +kernel) (by decide +kernel)
theorem fl_X0_24 : Cond.fieldLink RX0 24 "WayMarker$Boards" "covered" "[Z" ∈ wALL := wALL_of 114 (by decide +kernel) (by decide +kernel)
theorem fl_X7_167 : Cond.fieldLink RX7 167 "WayMarker$Boards" "covered" "[Z" ∈ wALL := wALL_of 115 (by decide +kernel) (by decide +kernel)
theorem fl_X0_28 : Cond.fieldLink RX0 28 "WayMarker$Boards" "count" "I" ∈ wALL := wALL_of 116 (by decide +kernel) (by decide +kernel)
theorem fl_X7_143 : Cond.fieldLink RX7 143 "WayMarker$Boards" "count" "I" ∈ wALL := wALL_of 117 (by decide +kernel) (by decide +kernel)
theorem fl_X0_32 : Cond.fieldLink RX0 32 "WayMarker$Boards" "wood" "I" ∈ wALL := wALL_of 118 (by decide +kernel) (by decide +kernel)
theorem fl_X7_127 : Cond.fieldLink RX7 127 "WayMarker$Boards" "wood" "I" ∈ wALL := wALL_of 119 (by decide +kernel) (by decide +kernel)
theorem ly_X0_fork : Cond.laysFinal RX0 "WayMarker$Boards" "fork" "[I" ∈ wALL := wALL_of 120 (by decide +kernel) (by decide +kernel)
theorem ly_X0_place : Cond.laysFinal RX0 "WayMarker$Boards" "place" "[I" ∈ wALL := wALL_of 122 (by decide +kernel) (by decide +kernel)
theorem ly_X0_trail : Cond.laysFinal RX0 "WayMarker$Boards" "trail" "[I" ∈ wALL := wALL_of 124 (by decide +kernel) (by decide +kernel)
theorem ly_X0_minutesTold : Cond.laysFinal RX0 "WayMarker$Boards" "minutesTold" "[I" ∈ wALL := wALL_of 126 (by decide +kernel) (by decide +kernel)
theorem ly_X0_covered : Cond.laysFinal RX0 "WayMarker$Boards" "covered" "[Z" ∈ wALL := wALL_of 128 (by decide +kernel) (by decide +kernel)
theorem ly_X0_count : Cond.lays RX0 "WayMarker$Boards" "count" "I" ∈ wALL := wALL_of 130 (by decide +kernel) (by decide +kernel)
theorem ly_X0_wood : Cond.lays RX0 "WayMarker$Boards" "wood" "I" ∈ wALL := wALL_of 132 (by decide +kernel) (by decide +kernel)
theorem cl_X7_23 : Cond.classLink RX7 23 RX6 ∈ wALL := wALL_of 135 (by decide +kernel) (by decide +kernel)
theorem it_X6 : Cond.instantiable RX6 2 ∈ wALL := wALL_of 136 (by decide +kernel) (by decide +kernel)
theorem ml_X7_25 : Cond.methodLink RX7 25 yX6_init ∈ wALL := wALL_of 137 (by decide +kernel) (by decide +kernel)
theorem im_X6_init : Cond.instanceMethod yX6_init ∈ wALL := wALL_of 138 (by decide +kernel) (by decide +kernel)
theorem co_X6_init : Cond.code yX6_init cX6_init 2 none ∈ wALL := wALL_of 139 (by decide +kernel) (by decide +kernel)
theorem ml_X6_3 : Cond.methodLink RX6 3 objectInit ∈ wALL := wALL_of 140 (by decide +kernel) (by decide +kernel)
theorem fl_X6_9 : Cond.fieldLink RX6 9 "WayMarker$Walkers" "trustIn" "[I" ∈ wALL := wALL_of 141 (by decide +kernel) (by decide +kernel)
theorem fl_X7_188 : Cond.fieldLink RX7 188 "WayMarker$Walkers" "trustIn" "[I" ∈ wALL := wALL_of 142 (by decide +kernel) (by decide +kernel)
theorem fl_X6_15 : Cond.fieldLink RX6 15 "WayMarker$Walkers" "said" "[I" ∈ wALL := wALL_of 143 (by decide +kernel) (by decide +kernel)
theorem ly_X6_trustIn : Cond.laysFinal RX6 "WayMarker$Walkers" "trustIn" "[I" ∈ wALL := wALL_of 144 (by decide +kernel) (by decide +kernel)
theorem ly_X6_said : Cond.laysFinal RX6 "WayMarker$Walkers" "said" "[I" ∈ wALL := wALL_of 146 (by decide +kernel) (by decide +kernel)
theorem cl_X7_30 : Cond.classLink RX7 30 RX4 ∈ wALL := wALL_of 149 (by decide +kernel) (by decide +kernel)
theorem it_X4 : Cond.instantiable RX4 5 ∈ wALL := wALL_of 150 (by decide +kernel) (by decide +kernel)
theorem im_X4_init : Cond.instanceMethod yX4_init ∈ wALL := wALL_of 152 (by decide +kernel) (by decide +kernel)
theorem co_X4_init : Cond.code yX4_init cX4_init 1 none ∈ wALL := wALL_of 153 (by decide +kernel) (by decide +kernel)
theorem ml_X4_3 : Cond.methodLink RX4 3 objectInit ∈ wALL := wALL_of 154 (by decide +kernel) (by decide +kernel)
theorem fl_X4_9 : Cond.fieldLink RX4 9 "WayMarker$Tasks" "kind" "[C" ∈ wALL := wALL_of 155 (by decide +kernel) (by decide +kernel)
theorem fl_X7_220 : Cond.fieldLink RX7 220 "WayMarker$Tasks" "kind" "[C" ∈ wALL := wALL_of 156 (by decide +kernel) (by decide +kernel)
theorem fl_X4_15 : Cond.fieldLink RX4 15 "WayMarker$Tasks" "number" "[I" ∈ wALL := wALL_of 157 (by decide +kernel) (by decide +kernel)
theorem fl_X7_224 : Cond.fieldLink RX7 224 "WayMarker$Tasks" "number" "[I" ∈ wALL := wALL_of 158 (by decide +kernel) (by decide +kernel)
theorem fl_X4_19 : Cond.fieldLink RX4 19 "WayMarker$Tasks" "danger" "[I" ∈ wALL := wALL_of 159 (by decide +kernel) (by decide +kernel)
theorem fl_X7_329 : Cond.fieldLink RX7 329 "WayMarker$Tasks" "danger" "[I" ∈ wALL := wALL_of 160 (by decide +kernel) (by decide +kernel)
theorem fl_X4_22 : Cond.fieldLink RX4 22 "WayMarker$Tasks" "doer" "[I" ∈ wALL := wALL_of 161 (by decide +kernel) (by decide +kernel)
theorem fl_X7_233 : Cond.fieldLink RX7 233 "WayMarker$Tasks" "doer" "[I" ∈ wALL := wALL_of 162 (by decide +kernel) (by decide +kernel)
theorem fl_X4_25 : Cond.fieldLink RX4 25 "WayMarker$Tasks" "count" "I" ∈ wALL := wALL_of 163 (by decide +kernel) (by decide +kernel)
theorem fl_X7_236 : Cond.fieldLink RX7 236 "WayMarker$Tasks" "count" "I" ∈ wALL := wALL_of 164 (by decide +kernel) (by decide +kernel)
theorem ly_X4_kind : Cond.laysFinal RX4 "WayMarker$Tasks" "kind" "[C" ∈ wALL := wALL_of 165 (by decide +kernel) (by decide +kernel)
theorem ly_X4_number : Cond.laysFinal RX4 "WayMarker$Tasks" "number" "[I" ∈ wALL := wALL_of 167 (by decide +kernel) (by decide +kernel)
theorem ly_X4_danger : Cond.laysFinal RX4 "WayMarker$Tasks" "danger" "[I" ∈ wALL := wALL_of 169 (by decide +kernel) (by decide +kernel)
theorem ly_X4_doer : Cond.laysFinal RX4 "WayMarker$Tasks" "doer" "[I" ∈ wALL := wALL_of 171 (by decide +kernel) (by decide +kernel)
theorem ly_X4_count : Cond.lays RX4 "WayMarker$Tasks" "count" "I" ∈ wALL := wALL_of 173 (by decide +kernel) (by decide +kernel)
theorem ac_char : Cond.arrayClass Jvm.ClassFile.FieldType.char ∈ wALL := wALL_of 176 (by decide +kernel) (by decide +kernel)
theorem cl_X7_37 : Cond.classLink RX7 37 RX3 ∈ wALL := wALL_of 177 (by decide +kernel) (by decide +kernel)
theorem it_X3 : Cond.instantiable RX3 5 ∈ wALL := wALL_of 178 (by decide +kernel) (by decide +kernel)
theorem im_X3_init : Cond.instanceMethod yX3_init ∈ wALL := wALL_of 180 (by decide +kernel) (by decide +kernel)
theorem co_X3_init : Cond.code yX3_init cX3_init 1 none ∈ wALL := wALL_of 181 (by decide +kernel) (by decide +kernel)
theorem ml_X3_3 : Cond.methodLink RX3 3 objectInit ∈ wALL := wALL_of 182 (by decide +kernel) (by decide +kernel)
theorem fl_X3_9 : Cond.fieldLink RX3 9 "WayMarker$Rangers" "fork" "[I" ∈ wALL := wALL_of 183 (by decide +kernel) (by decide +kernel)
theorem fl_X7_248 : Cond.fieldLink RX7 248 "WayMarker$Rangers" "fork" "[I" ∈ wALL := wALL_of 184 (by decide +kernel) (by decide +kernel)
theorem fl_X3_15 : Cond.fieldLink RX3 15 "WayMarker$Rangers" "tools" "[I" ∈ wALL := wALL_of 185 (by decide +kernel) (by decide +kernel)
theorem fl_X3_18 : Cond.fieldLink RX3 18 "WayMarker$Rangers" "minutesWorked" "[I" ∈ wALL := wALL_of 186 (by decide +kernel) (by decide +kernel)
theorem fl_X7_249 : Cond.fieldLink RX7 249 "WayMarker$Rangers" "minutesWorked" "[I" ∈ wALL := wALL_of 187 (by decide +kernel) (by decide +kernel)
theorem fl_X3_21 : Cond.fieldLink RX3 21 "WayMarker$Rangers" "count" "I" ∈ wALL := wALL_of 188 (by decide +kernel) (by decide +kernel)
theorem fl_X7_239 : Cond.fieldLink RX7 239 "WayMarker$Rangers" "count" "I" ∈ wALL := wALL_of 189 (by decide +kernel) (by decide +kernel)
theorem fl_X3_25 : Cond.fieldLink RX3 25 "WayMarker$Rangers" "minutesLeft" "I" ∈ wALL := wALL_of 190 (by decide +kernel) (by decide +kernel)
theorem fl_X7_313 : Cond.fieldLink RX7 313 "WayMarker$Rangers" "minutesLeft" "I" ∈ wALL := wALL_of 191 (by decide +kernel) (by decide +kernel)
theorem ly_X3_fork : Cond.laysFinal RX3 "WayMarker$Rangers" "fork" "[I" ∈ wALL := wALL_of 192 (by decide +kernel) (by decide +kernel)
theorem ly_X3_tools : Cond.laysFinal RX3 "WayMarker$Rangers" "tools" "[I" ∈ wALL := wALL_of 194 (by decide +kernel) (by decide +kernel)
theorem ly_X3_minutesWorked : Cond.laysFinal RX3 "WayMarker$Rangers" "minutesWorked" "[I" ∈ wALL := wALL_of 196 (by decide +kernel) (by decide +kernel)
theorem ly_X3_count : Cond.lays RX3 "WayMarker$Rangers" "count" "I" ∈ wALL := wALL_of 198 (by decide +kernel) (by decide +kernel)
theorem ly_X3_minutesLeft : Cond.lays RX3 "WayMarker$Rangers" "minutesLeft" "I" ∈ wALL := wALL_of 200 (by decide +kernel) (by decide +kernel)
theorem cl_X7_44 : Cond.classLink RX7 44 RX1 ∈ wALL := wALL_of 203 (by decide +kernel) (by decide +kernel)
theorem it_X1 : Cond.instantiable RX1 3 ∈ wALL := wALL_of 204 (by decide +kernel) (by decide +kernel)
theorem im_X1_init : Cond.instanceMethod yX1_init ∈ wALL := wALL_of 206 (by decide +kernel) (by decide +kernel)
theorem co_X1_init : Cond.code yX1_init cX1_init 1 none ∈ wALL := wALL_of 207 (by decide +kernel) (by decide +kernel)
theorem ml_X1_3 : Cond.methodLink RX1 3 objectInit ∈ wALL := wALL_of 208 (by decide +kernel) (by decide +kernel)
theorem fl_X1_9 : Cond.fieldLink RX1 9 "WayMarker$Maps" "drawn" "[Z" ∈ wALL := wALL_of 209 (by decide +kernel) (by decide +kernel)
theorem fl_X1_15 : Cond.fieldLink RX1 15 "WayMarker$Maps" "printedOn" "[I" ∈ wALL := wALL_of 210 (by decide +kernel) (by decide +kernel)
theorem fl_X7_270 : Cond.fieldLink RX7 270 "WayMarker$Maps" "printedOn" "[I" ∈ wALL := wALL_of 211 (by decide +kernel) (by decide +kernel)
theorem fl_X1_19 : Cond.fieldLink RX1 19 "WayMarker$Maps" "count" "I" ∈ wALL := wALL_of 212 (by decide +kernel) (by decide +kernel)
theorem fl_X7_257 : Cond.fieldLink RX7 257 "WayMarker$Maps" "count" "I" ∈ wALL := wALL_of 213 (by decide +kernel) (by decide +kernel)
theorem ly_X1_drawn : Cond.laysFinal RX1 "WayMarker$Maps" "drawn" "[Z" ∈ wALL := wALL_of 214 (by decide +kernel) (by decide +kernel)
theorem ly_X1_printedOn : Cond.laysFinal RX1 "WayMarker$Maps" "printedOn" "[I" ∈ wALL := wALL_of 216 (by decide +kernel) (by decide +kernel)
theorem ly_X1_count : Cond.lays RX1 "WayMarker$Maps" "count" "I" ∈ wALL := wALL_of 218 (by decide +kernel) (by decide +kernel)
theorem fl_X7_10 : Cond.fieldLink RX7 10 "WayMarker" "net" "LWayMarker$Net;" ∈ wALL := wALL_of 221 (by decide +kernel) (by decide +kernel)
theorem fl_X7_19 : Cond.fieldLink RX7 19 "WayMarker" "boards" "LWayMarker$Boards;" ∈ wALL := wALL_of 222 (by decide +kernel) (by decide +kernel)
theorem fl_X7_26 : Cond.fieldLink RX7 26 "WayMarker" "walkers" "LWayMarker$Walkers;" ∈ wALL := wALL_of 223 (by decide +kernel) (by decide +kernel)
theorem fl_X7_33 : Cond.fieldLink RX7 33 "WayMarker" "tasks" "LWayMarker$Tasks;" ∈ wALL := wALL_of 224 (by decide +kernel) (by decide +kernel)
theorem fl_X7_40 : Cond.fieldLink RX7 40 "WayMarker" "rangers" "LWayMarker$Rangers;" ∈ wALL := wALL_of 225 (by decide +kernel) (by decide +kernel)
theorem fl_X7_47 : Cond.fieldLink RX7 47 "WayMarker" "maps" "LWayMarker$Maps;" ∈ wALL := wALL_of 226 (by decide +kernel) (by decide +kernel)
theorem fl_X7_51 : Cond.fieldLink RX7 51 "WayMarker" "today" "I" ∈ wALL := wALL_of 227 (by decide +kernel) (by decide +kernel)
theorem ly_X7_net : Cond.laysFinal RX7 "WayMarker" "net" "LWayMarker$Net;" ∈ wALL := wALL_of 228 (by decide +kernel) (by decide +kernel)
theorem ly_X7_boards : Cond.laysFinal RX7 "WayMarker" "boards" "LWayMarker$Boards;" ∈ wALL := wALL_of 230 (by decide +kernel) (by decide +kernel)
theorem ly_X7_walkers : Cond.laysFinal RX7 "WayMarker" "walkers" "LWayMarker$Walkers;" ∈ wALL := wALL_of 232 (by decide +kernel) (by decide +kernel)
theorem ly_X7_tasks : Cond.laysFinal RX7 "WayMarker" "tasks" "LWayMarker$Tasks;" ∈ wALL := wALL_of 234 (by decide +kernel) (by decide +kernel)
theorem ly_X7_rangers : Cond.laysFinal RX7 "WayMarker" "rangers" "LWayMarker$Rangers;" ∈ wALL := wALL_of 236 (by decide +kernel) (by decide +kernel)
theorem ly_X7_maps : Cond.laysFinal RX7 "WayMarker" "maps" "LWayMarker$Maps;" ∈ wALL := wALL_of 238 (by decide +kernel) (by decide +kernel)
theorem ly_X7_today : Cond.lays RX7 "WayMarker" "today" "I" ∈ wALL := wALL_of 240 (by decide +kernel) (by decide +kernel)
theorem ml_L_171 : Cond.methodLink RL 171 yX7_unsafe ∈ wALL := wALL_of 243 (by decide +kernel) (by decide +kernel)
theorem im_X7_unsafe : Cond.instanceMethod yX7_unsafe ∈ wALL := wALL_of 244 (by decide +kernel) (by decide +kernel)
theorem se_X7_unsafe : Cond.selects RX7 yX7_unsafe yX7_unsafe ∈ wALL := wALL_of 245 (by decide +kernel) (by decide +kernel)
theorem co_X7_unsafe : Cond.code yX7_unsafe cX7_unsafe 4 (Option.some Jvm.ClassFile.FieldType.int) ∈ wALL := wALL_of 246 (by decide +kernel) (by decide +kernel)
theorem ml_X7_106 : Cond.methodLink RX7 106 yX2_view ∈ wALL := wALL_of 247 (by decide +kernel) (by decide +kernel)
theorem im_X2_view : Cond.instanceMethod yX2_view ∈ wALL := wALL_of 248 (by decide +kernel) (by decide +kernel)
theorem se_X2_view : Cond.selects RX2 yX2_view yX2_view ∈ wALL := wALL_of 249 (by decide +kernel) (by decide +kernel)
theorem co_X2_view : Cond.code yX2_view cX2_view 2 (Option.some (Jvm.ClassFile.FieldType.object "WayMarker$View")) ∈ wALL := wALL_of 250 (by decide +kernel) (by decide +kernel)
theorem ml_X7_170 : Cond.methodLink RX7 170 yX0_dangerBy ∈ wALL := wALL_of 251 (by decide +kernel) (by decide +kernel)
theorem im_X0_dangerBy : Cond.instanceMethod yX0_dangerBy ∈ wALL := wALL_of 252 (by decide +kernel) (by decide +kernel)
theorem se_X0_dangerBy : Cond.selects RX0 yX0_dangerBy yX0_dangerBy ∈ wALL := wALL_of 253 (by decide +kernel) (by decide +kernel)
theorem co_X0_dangerBy : Cond.code yX0_dangerBy cX0_dangerBy 6 (Option.some Jvm.ClassFile.FieldType.int) ∈ wALL := wALL_of 254 (by decide +kernel) (by decide +kernel)
theorem ml_X0_40 : Cond.methodLink RX0 40 yX2_minutesBy ∈ wALL := wALL_of 255 (by decide +kernel) (by decide +kernel)
theorem im_X2_minutesBy : Cond.instanceMethod yX2_minutesBy ∈ wALL := wALL_of 256 (by decide +kernel) (by decide +kernel)
theorem se_X2_minutesBy : Cond.selects RX2 yX2_minutesBy yX2_minutesBy ∈ wALL := wALL_of 257 (by decide +kernel) (by decide +kernel)
theorem co_X2_minutesBy : Cond.code yX2_minutesBy cX2_minutesBy 5 (Option.some Jvm.ClassFile.FieldType.int) ∈ wALL := wALL_of 258 (by decide +kernel) (by decide +kernel)
theorem ml_X2_64 : Cond.methodLink RX2 64 yX2_minutesFrom ∈ wALL := wALL_of 259 (by decide +kernel) (by decide +kernel)
theorem im_X2_minutesFrom : Cond.instanceMethod yX2_minutesFrom ∈ wALL := wALL_of 260 (by decide +kernel) (by decide +kernel)
theorem se_X2_minutesFrom : Cond.selects RX2 yX2_minutesFrom yX2_minutesFrom ∈ wALL := wALL_of 261 (by decide +kernel) (by decide +kernel)
theorem co_X2_minutesFrom : Cond.code yX2_minutesFrom cX2_minutesFrom 3 (Option.some Jvm.ClassFile.FieldType.int) ∈ wALL := wALL_of 262 (by decide +kernel) (by decide +kernel)
theorem ml_X2_67 : Cond.methodLink RX2 67 yX2_otherEnd ∈ wALL := wALL_of 263 (by decide +kernel) (by decide +kernel)
theorem im_X2_otherEnd : Cond.instanceMethod yX2_otherEnd ∈ wALL := wALL_of 264 (by decide +kernel) (by decide +kernel)
theorem se_X2_otherEnd : Cond.selects RX2 yX2_otherEnd yX2_otherEnd ∈ wALL := wALL_of 265 (by decide +kernel) (by decide +kernel)
theorem co_X2_otherEnd : Cond.code yX2_otherEnd cX2_otherEnd 3 (Option.some Jvm.ClassFile.FieldType.int) ∈ wALL := wALL_of 266 (by decide +kernel) (by decide +kernel)
theorem ml_X2_55 : Cond.methodLink RX2 55 yX5_leastMinutes ∈ wALL := wALL_of 267 (by decide +kernel) (by decide +kernel)
theorem im_X5_leastMinutes : Cond.instanceMethod yX5_leastMinutes ∈ wALL := wALL_of 268 (by decide +kernel) (by decide +kernel)
theorem se_X5_leastMinutes : Cond.selects RX5 yX5_leastMinutes yX5_leastMinutes ∈ wALL := wALL_of 269 (by decide +kernel) (by decide +kernel)
theorem co_X5_leastMinutes : Cond.code yX5_leastMinutes cX5_leastMinutes 3 (Option.some Jvm.ClassFile.FieldType.int) ∈ wALL := wALL_of 270 (by decide +kernel) (by decide +kernel)
theorem kc_X0_46 : Cond.constant RX0 46 (1000000 : Int32) ∈ wALL := wALL_of 271 (by decide +kernel) (by decide +kernel)
theorem ml_X0_47 : Cond.methodLink RX0 47 yJ9_min_7cf53 ∈ wALL := wALL_of 272 (by decide +kernel) (by decide +kernel)
theorem sm_J9_min_7cf53 : Cond.static yJ9_min_7cf53 ∈ wALL := wALL_of 273 (by decide +kernel) (by decide +kernel)
theorem co_J9_min_7cf53 : Cond.code yJ9_min_7cf53 cJ9_min_7cf53 2 (Option.some Jvm.ClassFile.FieldType.int) ∈ wALL := wALL_of 274 (by decide +kernel) (by decide +kernel)
theorem ml_L_188 : Cond.methodLink RL 188 yX7_plan ∈ wALL := wALL_of 275 (by decide +kernel) (by decide +kernel)
theorem im_X7_plan : Cond.instanceMethod yX7_plan ∈ wALL := wALL_of 276 (by decide +kernel) (by decide +kernel)
theorem se_X7_plan : Cond.selects RX7 yX7_plan yX7_plan ∈ wALL := wALL_of 277 (by decide +kernel) (by decide +kernel)
theorem co_X7_plan : Cond.code yX7_plan cX7_plan 4 (Option.some Jvm.ClassFile.FieldType.int) ∈ wALL := wALL_of 278 (by decide +kernel) (by decide +kernel)
theorem ml_X7_199 : Cond.methodLink RX7 199 yX4_hasRoom ∈ wALL := wALL_of 279 (by decide +kernel) (by decide +kernel)
theorem im_X4_hasRoom : Cond.instanceMethod yX4_hasRoom ∈ wALL := wALL_of 280 (by decide +kernel) (by decide +kernel)
theorem se_X4_hasRoom : Cond.selects RX4 yX4_hasRoom yX4_hasRoom ∈ wALL := wALL_of 281 (by decide +kernel) (by decide +kernel)
theorem co_X4_hasRoom : Cond.code yX4_hasRoom cX4_hasRoom 1 (Option.some Jvm.ClassFile.FieldType.boolean) ∈ wALL := wALL_of 282 (by decide +kernel) (by decide +kernel)
theorem ml_X7_209 : Cond.methodLink RX7 209 yX7_nextToPlan ∈ wALL := wALL_of 283 (by decide +kernel) (by decide +kernel)
theorem im_X7_nextToPlan : Cond.instanceMethod yX7_nextToPlan ∈ wALL := wALL_of 285 (by decide +kernel) (by decide +kernel)
theorem co_X7_nextToPlan : Cond.code yX7_nextToPlan cX7_nextToPlan 6 (Option.some Jvm.ClassFile.FieldType.int) ∈ wALL := wALL_of 286 (by decide +kernel) (by decide +kernel)
theorem ml_X7_213 : Cond.methodLink RX7 213 yX7_kindToPlan ∈ wALL := wALL_of 287 (by decide +kernel) (by decide +kernel)
theorem im_X7_kindToPlan : Cond.instanceMethod yX7_kindToPlan ∈ wALL := wALL_of 289 (by decide +kernel) (by decide +kernel)
theorem co_X7_kindToPlan : Cond.code yX7_kindToPlan cX7_kindToPlan 2 (Option.some Jvm.ClassFile.FieldType.char) ∈ wALL := wALL_of 290 (by decide +kernel) (by decide +kernel)
theorem ml_X7_309 : Cond.methodLink RX7 309 yX4_isAsked ∈ wALL := wALL_of 291 (by decide +kernel) (by decide +kernel)
theorem im_X4_isAsked : Cond.instanceMethod yX4_isAsked ∈ wALL := wALL_of 292 (by decide +kernel) (by decide +kernel)
theorem se_X4_isAsked : Cond.selects RX4 yX4_isAsked yX4_isAsked ∈ wALL := wALL_of 293 (by decide +kernel) (by decide +kernel)
theorem co_X4_isAsked : Cond.code yX4_isAsked cX4_isAsked 4 (Option.some Jvm.ClassFile.FieldType.boolean) ∈ wALL := wALL_of 294 (by decide +kernel) (by decide +kernel)
theorem ml_X4_29 : Cond.methodLink RX4 29 yX4_isOpen ∈ wALL := wALL_of 295 (by decide +kernel) (by decide +kernel)
theorem im_X4_isOpen : Cond.instanceMethod yX4_isOpen ∈ wALL := wALL_of 296 (by decide +kernel) (by decide +kernel)
theorem se_X4_isOpen : Cond.selects RX4 yX4_isOpen yX4_isOpen ∈ wALL := wALL_of 297 (by decide +kernel) (by decide +kernel)
theorem co_X4_isOpen : Cond.code yX4_isOpen cX4_isOpen 2 (Option.some Jvm.ClassFile.FieldType.boolean) ∈ wALL := wALL_of 298 (by decide +kernel) (by decide +kernel)
theorem ml_X7_205 : Cond.methodLink RX7 205 yX4_make ∈ wALL := wALL_of 299 (by decide +kernel) (by decide +kernel)
theorem im_X4_make : Cond.instanceMethod yX4_make ∈ wALL := wALL_of 300 (by decide +kernel) (by decide +kernel)
theorem se_X4_make : Cond.selects RX4 yX4_make yX4_make ∈ wALL := wALL_of 301 (by decide +kernel) (by decide +kernel)
theorem co_X4_make : Cond.code yX4_make cX4_make 5 (Option.some Jvm.ClassFile.FieldType.int) ∈ wALL := wALL_of 302 (by decide +kernel) (by decide +kernel)
theorem ml_L_201 : Cond.methodLink RL 201 yX7_openTasks ∈ wALL := wALL_of 303 (by decide +kernel) (by decide +kernel)
theorem im_X7_openTasks : Cond.instanceMethod yX7_openTasks ∈ wALL := wALL_of 304 (by decide +kernel) (by decide +kernel)
theorem se_X7_openTasks : Cond.selects RX7 yX7_openTasks yX7_openTasks ∈ wALL := wALL_of 305 (by decide +kernel) (by decide +kernel)
theorem co_X7_openTasks : Cond.code yX7_openTasks cX7_openTasks 3 (Option.some Jvm.ClassFile.FieldType.int) ∈ wALL := wALL_of 306 (by decide +kernel) (by decide +kernel)
theorem ml_X7_227 : Cond.methodLink RX7 227 yX4_isOpen ∈ wALL := wALL_of 307 (by decide +kernel) (by decide +kernel)
theorem ml_L_234 : Cond.methodLink RL 234 yX7_isSound ∈ wALL := wALL_of 308 (by decide +kernel) (by decide +kernel)
theorem im_X7_isSound : Cond.instanceMethod yX7_isSound ∈ wALL := wALL_of 309 (by decide +kernel) (by decide +kernel)
theorem se_X7_isSound : Cond.selects RX7 yX7_isSound yX7_isSound ∈ wALL := wALL_of 310 (by decide +kernel) (by decide +kernel)
theorem co_X7_isSound : Cond.code yX7_isSound cX7_isSound 1 (Option.some Jvm.ClassFile.FieldType.boolean) ∈ wALL := wALL_of 311 (by decide +kernel) (by decide +kernel)
theorem ml_X7_280 : Cond.methodLink RX7 280 yX2_hasLeastMinutes ∈ wALL := wALL_of 312 (by decide +kernel) (by decide +kernel)
theorem im_X2_hasLeastMinutes : Cond.instanceMethod yX2_hasLeastMinutes ∈ wALL := wALL_of 313 (by decide +kernel) (by decide +kernel)
theorem se_X2_hasLeastMinutes : Cond.selects RX2 yX2_hasLeastMinutes yX2_hasLeastMinutes ∈ wALL := wALL_of 314 (by decide +kernel) (by decide +kernel)
theorem co_X2_hasLeastMinutes : Cond.code yX2_hasLeastMinutes cX2_hasLeastMinutes 4 (Option.some Jvm.ClassFile.FieldType.boolean) ∈ wALL := wALL_of 315 (by decide +kernel) (by decide +kernel)
theorem ml_X2_80 : Cond.methodLink RX2 80 yX2_startComparing ∈ wALL := wALL_of 316 (by decide +kernel) (by decide +kernel)
theorem im_X2_startComparing : Cond.instanceMethod yX2_startComparing ∈ wALL := wALL_of 317 (by decide +kernel) (by decide +kernel)
theorem se_X2_startComparing : Cond.selects RX2 yX2_startComparing yX2_startComparing ∈ wALL := wALL_of 318 (by decide +kernel) (by decide +kernel)
theorem co_X2_startComparing : Cond.code yX2_startComparing cX2_startComparing 5 none ∈ wALL := wALL_of 319 (by decide +kernel) (by decide +kernel)
theorem kc_X2_59 : Cond.constant RX2 59 (1000000 : Int32) ∈ wALL := wALL_of 320 (by decide +kernel) (by decide +kernel)
theorem ml_X2_87 : Cond.methodLink RX2 87 yJ9_min_7cf53 ∈ wALL := wALL_of 321 (by decide +kernel) (by decide +kernel)
theorem ml_X2_83 : Cond.methodLink RX2 83 yX2_allowBetween ∈ wALL := wALL_of 322 (by decide +kernel) (by decide +kernel)
theorem im_X2_allowBetween : Cond.instanceMethod yX2_allowBetween ∈ wALL := wALL_of 323 (by decide +kernel) (by decide +kernel)
theorem se_X2_allowBetween : Cond.selects RX2 yX2_allowBetween yX2_allowBetween ∈ wALL := wALL_of 324 (by decide +kernel) (by decide +kernel)
theorem co_X2_allowBetween : Cond.code yX2_allowBetween cX2_allowBetween 6 none ∈ wALL := wALL_of 325 (by decide +kernel) (by decide +kernel)
theorem ml_X7_284 : Cond.methodLink RX7 284 yX4_areDoneByOneOf ∈ wALL := wALL_of 326 (by decide +kernel) (by decide +kernel)
theorem im_X4_areDoneByOneOf : Cond.instanceMethod yX4_areDoneByOneOf ∈ wALL := wALL_of 327 (by decide +kernel) (by decide +kernel)
theorem se_X4_areDoneByOneOf : Cond.selects RX4 yX4_areDoneByOneOf yX4_areDoneByOneOf ∈ wALL := wALL_of 328 (by decide +kernel) (by decide +kernel)
theorem co_X4_areDoneByOneOf : Cond.code yX4_areDoneByOneOf cX4_areDoneByOneOf 3 (Option.some Jvm.ClassFile.FieldType.boolean) ∈ wALL := wALL_of 329 (by decide +kernel) (by decide +kernel)
theorem ml_L_124 : Cond.methodLink RL 124 yL_addFork ∈ wALL := wALL_of 330 (by decide +kernel) (by decide +kernel)
theorem sm_L_addFork : Cond.static yL_addFork ∈ wALL := wALL_of 331 (by decide +kernel) (by decide +kernel)
theorem co_L_addFork : Cond.codeWith yL_addFork cL_addFork 4 (Option.some Jvm.ClassFile.FieldType.int) [(0, 9, 12, 13)] ∈ wALL := wALL_of 332 (by decide +kernel) (by decide +kernel)
theorem cl_L_13 : Cond.classLink RL 13 "java/lang/IllegalStateException" ∈ wALL := wALL_of 333 (by decide +kernel) (by decide +kernel)
theorem ml_L_7 : Cond.methodLink RL 7 yX7_addFork ∈ wALL := wALL_of 334 (by decide +kernel) (by decide +kernel)
theorem im_X7_addFork : Cond.instanceMethod yX7_addFork ∈ wALL := wALL_of 335 (by decide +kernel) (by decide +kernel)
theorem se_X7_addFork : Cond.selects RX7 yX7_addFork yX7_addFork ∈ wALL := wALL_of 336 (by decide +kernel) (by decide +kernel)
theorem co_X7_addFork : Cond.code yX7_addFork cX7_addFork 2 (Option.some Jvm.ClassFile.FieldType.int) ∈ wALL := wALL_of 337 (by decide +kernel) (by decide +kernel)
theorem cl_X7_58 : Cond.classLink RX7 58 "java/lang/IllegalStateException" ∈ wALL := wALL_of 338 (by decide +kernel) (by decide +kernel)
theorem it_java_lang_IllegalStateException : Cond.instantiable "java/lang/IllegalStateException" 6 ∈ wALL := wALL_of 339 (by decide +kernel) (by decide +kernel)
theorem fl_java_lang_Throwable_198 : Cond.fieldLink "java/lang/Throwable" 198 "java/lang/Throwable" "backtrace" "Ljava/lang/Object;" ∈ wALL := wALL_of 359 (by decide +kernel) (by decide +kernel)
theorem ml_java_lang_Throwable_1 : Cond.methodLink "java/lang/Throwable" 1 objectInit ∈ wALL := wALL_of 363 (by decide +kernel) (by decide +kernel)
theorem fl_java_lang_Throwable_13 : Cond.fieldLink "java/lang/Throwable" 13 "java/lang/Throwable" "UNASSIGNED_STACK" "[Ljava/lang/StackTraceElement;" ∈ wALL := wALL_of 364 (by decide +kernel) (by decide +kernel)
theorem fl_java_lang_Throwable_20 : Cond.fieldLink "java/lang/Throwable" 20 "java/lang/Throwable" "SUPPRESSED_SENTINEL" "Ljava/util/List;" ∈ wALL := wALL_of 366 (by decide +kernel) (by decide +kernel)
theorem it_java_lang_Throwable : Cond.instantiable "java/lang/Throwable" 6 ∈ wALL := wALL_of 381 (by decide +kernel) (by decide +kernel)
theorem fl_java_lang_Throwable_31 : Cond.fieldLink "java/lang/Throwable" 31 "java/lang/Throwable" "detailMessage" "Ljava/lang/String;" ∈ wALL := wALL_of 397 (by decide +kernel) (by decide +kernel)
theorem fl_java_lang_Throwable_7 : Cond.fieldLink "java/lang/Throwable" 7 "java/lang/Throwable" "cause" "Ljava/lang/Throwable;" ∈ wALL := wALL_of 398 (by decide +kernel) (by decide +kernel)
theorem fl_java_lang_Throwable_17 : Cond.fieldLink "java/lang/Throwable" 17 "java/lang/Throwable" "stackTrace" "[Ljava/lang/StackTraceElement;" ∈ wALL := wALL_of 399 (by decide +kernel) (by decide +kernel)
theorem fl_java_lang_Throwable_24 : Cond.fieldLink "java/lang/Throwable" 24 "java/lang/Throwable" "suppressedExceptions" "Ljava/util/List;" ∈ wALL := wALL_of 400 (by decide +kernel) (by decide +kernel)
theorem ac_byte : Cond.arrayClass Jvm.ClassFile.FieldType.byte ∈ wALL := wALL_of 409 (by decide +kernel) (by decide +kernel)
theorem ml_L_133 : Cond.methodLink RL 133 yL_addTrail ∈ wALL := wALL_of 410 (by decide +kernel) (by decide +kernel)
theorem sm_L_addTrail : Cond.static yL_addTrail ∈ wALL := wALL_of 411 (by decide +kernel) (by decide +kernel)
theorem co_L_addTrail : Cond.codeWith yL_addTrail cL_addTrail 7 (Option.some Jvm.ClassFile.FieldType.int) [(0, 14, 17, 19), (0, 14, 21, 21), (0, 14, 25, 13)] ∈ wALL := wALL_of 412 (by decide +kernel) (by decide +kernel)
theorem cl_L_19 : Cond.classLink RL 19 "java/lang/IndexOutOfBoundsException" ∈ wALL := wALL_of 413 (by decide +kernel) (by decide +kernel)
theorem it_Jx00060 : Cond.instantiable RJx00060 6 ∈ wALL := wALL_of 414 (by decide +kernel) (by decide +kernel)
theorem im_Jx00060_init_a7421 : Cond.instanceMethod yJx00060_init_a7421 ∈ wALL := wALL_of 415 (by decide +kernel) (by decide +kernel)
theorem co_Jx00060_init_a7421 : Cond.code yJx00060_init_a7421 cJx00060_init_a7421 2 none ∈ wALL := wALL_of 416 (by decide +kernel) (by decide +kernel)
theorem it_J0 : Cond.instantiable RJ0 4 ∈ wALL := wALL_of 432 (by decide +kernel) (by decide +kernel)
theorem cl_L_21 : Cond.classLink RL 21 "java/lang/IllegalArgumentException" ∈ wALL := wALL_of 437 (by decide +kernel) (by decide +kernel)
theorem ml_L_15 : Cond.methodLink RL 15 yX7_addTrail ∈ wALL := wALL_of 438 (by decide +kernel) (by decide +kernel)
theorem im_X7_addTrail : Cond.instanceMethod yX7_addTrail ∈ wALL := wALL_of 439 (by decide +kernel) (by decide +kernel)
theorem se_X7_addTrail : Cond.selects RX7 yX7_addTrail yX7_addTrail ∈ wALL := wALL_of 440 (by decide +kernel) (by decide +kernel)
theorem co_X7_addTrail : Cond.code yX7_addTrail cX7_addTrail 5 (Option.some Jvm.ClassFile.FieldType.int) ∈ wALL := wALL_of 441 (by decide +kernel) (by decide +kernel)
theorem ml_X7_69 : Cond.methodLink RX7 69 yX7_requireFork ∈ wALL := wALL_of 442 (by decide +kernel) (by decide +kernel)
theorem im_X7_requireFork : Cond.instanceMethod yX7_requireFork ∈ wALL := wALL_of 444 (by decide +kernel) (by decide +kernel)
theorem co_X7_requireFork : Cond.code yX7_requireFork cX7_requireFork 2 none ∈ wALL := wALL_of 445 (by decide +kernel) (by decide +kernel)
theorem cl_X7_287 : Cond.classLink RX7 287 "java/lang/IndexOutOfBoundsException" ∈ wALL := wALL_of 446 (by decide +kernel) (by decide +kernel)
theorem it_java_lang_IndexOutOfBoundsException : Cond.instantiable "java/lang/IndexOutOfBoundsException" 6 ∈ wALL := wALL_of 447 (by decide +kernel) (by decide +kernel)
theorem cl_X7_73 : Cond.classLink RX7 73 "java/lang/IllegalArgumentException" ∈ wALL := wALL_of 459 (by decide +kernel) (by decide +kernel)
theorem it_java_lang_IllegalArgumentException : Cond.instantiable "java/lang/IllegalArgumentException" 6 ∈ wALL := wALL_of 460 (by decide +kernel) (by decide +kernel)
theorem ml_X7_78 : Cond.methodLink RX7 78 yX7_requireTrailMinutes ∈ wALL := wALL_of 475 (by decide +kernel) (by decide +kernel)
theorem im_X7_requireTrailMinutes : Cond.instanceMethod yX7_requireTrailMinutes ∈ wALL := wALL_of 477 (by decide +kernel) (by decide +kernel)
theorem co_X7_requireTrailMinutes : Cond.code yX7_requireTrailMinutes cX7_requireTrailMinutes 2 none ∈ wALL := wALL_of 478 (by decide +kernel) (by decide +kernel)
theorem ml_X7_86 : Cond.methodLink RX7 86 yX2_join ∈ wALL := wALL_of 481 (by decide +kernel) (by decide +kernel)
theorem im_X2_join : Cond.instanceMethod yX2_join ∈ wALL := wALL_of 482 (by decide +kernel) (by decide +kernel)
theorem se_X2_join : Cond.selects RX2 yX2_join yX2_join ∈ wALL := wALL_of 483 (by decide +kernel) (by decide +kernel)
theorem co_X2_join : Cond.code yX2_join cX2_join 6 (Option.some Jvm.ClassFile.FieldType.int) ∈ wALL := wALL_of 484 (by decide +kernel) (by decide +kernel)
theorem ml_X2_48 : Cond.methodLink RX2 48 yX2_findWays ∈ wALL := wALL_of 485 (by decide +kernel) (by decide +kernel)
theorem im_X2_findWays : Cond.instanceMethod yX2_findWays ∈ wALL := wALL_of 486 (by decide +kernel) (by decide +kernel)
theorem se_X2_findWays : Cond.selects RX2 yX2_findWays yX2_findWays ∈ wALL := wALL_of 487 (by decide +kernel) (by decide +kernel)
theorem co_X2_findWays : Cond.code yX2_findWays cX2_findWays 5 none ∈ wALL := wALL_of 488 (by decide +kernel) (by decide +kernel)
theorem ml_X2_70 : Cond.methodLink RX2 70 yX5_forgetWays ∈ wALL := wALL_of 489 (by decide +kernel) (by decide +kernel)
theorem ml_X2_76 : Cond.methodLink RX2 76 yX2_shortenBy ∈ wALL := wALL_of 490 (by decide +kernel) (by decide +kernel)
theorem im_X2_shortenBy : Cond.instanceMethod yX2_shortenBy ∈ wALL := wALL_of 491 (by decide +kernel) (by decide +kernel)
theorem se_X2_shortenBy : Cond.selects RX2 yX2_shortenBy yX2_shortenBy ∈ wALL := wALL_of 492 (by decide +kernel) (by decide +kernel)
theorem co_X2_shortenBy : Cond.code yX2_shortenBy cX2_shortenBy 9 (Option.some Jvm.ClassFile.FieldType.boolean) ∈ wALL := wALL_of 493 (by decide +kernel) (by decide +kernel)
theorem ml_L_137 : Cond.methodLink RL 137 yL_washOut ∈ wALL := wALL_of 494 (by decide +kernel) (by decide +kernel)
theorem sm_L_washOut : Cond.static yL_washOut ∈ wALL := wALL_of 495 (by decide +kernel) (by decide +kernel)
theorem co_L_washOut : Cond.codeWith yL_washOut cL_washOut 4 (Option.some Jvm.ClassFile.FieldType.int) [(0, 16, 19, 19)] ∈ wALL := wALL_of 496 (by decide +kernel) (by decide +kernel)
theorem ml_L_23 : Cond.methodLink RL 23 yX7_washOut ∈ wALL := wALL_of 497 (by decide +kernel) (by decide +kernel)
theorem im_X7_washOut : Cond.instanceMethod yX7_washOut ∈ wALL := wALL_of 498 (by decide +kernel) (by decide +kernel)
theorem se_X7_washOut : Cond.selects RX7 yX7_washOut yX7_washOut ∈ wALL := wALL_of 499 (by decide +kernel) (by decide +kernel)
theorem co_X7_washOut : Cond.code yX7_washOut cX7_washOut 3 (Option.some Jvm.ClassFile.FieldType.boolean) ∈ wALL := wALL_of 500 (by decide +kernel) (by decide +kernel)
theorem ml_X7_90 : Cond.methodLink RX7 90 yX7_requireTrail ∈ wALL := wALL_of 501 (by decide +kernel) (by decide +kernel)
theorem im_X7_requireTrail : Cond.instanceMethod yX7_requireTrail ∈ wALL := wALL_of 503 (by decide +kernel) (by decide +kernel)
theorem co_X7_requireTrail : Cond.code yX7_requireTrail cX7_requireTrail 2 none ∈ wALL := wALL_of 504 (by decide +kernel) (by decide +kernel)
theorem ml_X7_102 : Cond.methodLink RX7 102 yX2_setGone ∈ wALL := wALL_of 506 (by decide +kernel) (by decide +kernel)
theorem im_X2_setGone : Cond.instanceMethod yX2_setGone ∈ wALL := wALL_of 507 (by decide +kernel) (by decide +kernel)
theorem se_X2_setGone : Cond.selects RX2 yX2_setGone yX2_setGone ∈ wALL := wALL_of 508 (by decide +kernel) (by decide +kernel)
theorem co_X2_setGone : Cond.code yX2_setGone cX2_setGone 4 none ∈ wALL := wALL_of 509 (by decide +kernel) (by decide +kernel)
theorem ml_L_141 : Cond.methodLink RL 141 yL_isGone ∈ wALL := wALL_of 510 (by decide +kernel) (by decide +kernel)
theorem sm_L_isGone : Cond.static yL_isGone ∈ wALL := wALL_of 511 (by decide +kernel) (by decide +kernel)
theorem co_L_isGone : Cond.codeWith yL_isGone cL_isGone 5 (Option.some Jvm.ClassFile.FieldType.int) [(0, 17, 20, 19)] ∈ wALL := wALL_of 512 (by decide +kernel) (by decide +kernel)
theorem ml_L_27 : Cond.methodLink RL 27 yX7_isGone ∈ wALL := wALL_of 513 (by decide +kernel) (by decide +kernel)
theorem im_X7_isGone : Cond.instanceMethod yX7_isGone ∈ wALL := wALL_of 514 (by decide +kernel) (by decide +kernel)
theorem se_X7_isGone : Cond.selects RX7 yX7_isGone yX7_isGone ∈ wALL := wALL_of 515 (by decide +kernel) (by decide +kernel)
theorem co_X7_isGone : Cond.code yX7_isGone cX7_isGone 3 (Option.some Jvm.ClassFile.FieldType.boolean) ∈ wALL := wALL_of 516 (by decide +kernel) (by decide +kernel)
theorem ml_L_145 : Cond.methodLink RL 145 yL_minutes ∈ wALL := wALL_of 517 (by decide +kernel) (by decide +kernel)
theorem sm_L_minutes : Cond.static yL_minutes ∈ wALL := wALL_of 518 (by decide +kernel) (by decide +kernel)
theorem co_L_minutes : Cond.codeWith yL_minutes cL_minutes 6 (Option.some Jvm.ClassFile.FieldType.int) [(0, 12, 15, 19), (0, 12, 19, 35)] ∈ wALL := wALL_of 519 (by decide +kernel) (by decide +kernel)
theorem cl_L_35 : Cond.classLink RL 35 "java/util/NoSuchElementException" ∈ wALL := wALL_of 520 (by decide +kernel) (by decide +kernel)
theorem ml_L_31 : Cond.methodLink RL 31 yX7_minutes ∈ wALL := wALL_of 521 (by decide +kernel) (by decide +kernel)
theorem im_X7_minutes : Cond.instanceMethod yX7_minutes ∈ wALL := wALL_of 522 (by decide +kernel) (by decide +kernel)
theorem se_X7_minutes : Cond.selects RX7 yX7_minutes yX7_minutes ∈ wALL := wALL_of 523 (by decide +kernel) (by decide +kernel)
theorem co_X7_minutes : Cond.code yX7_minutes cX7_minutes 5 (Option.some Jvm.ClassFile.FieldType.int) ∈ wALL := wALL_of 524 (by decide +kernel) (by decide +kernel)
theorem ml_X7_110 : Cond.methodLink RX7 110 yX5_leastMinutes ∈ wALL := wALL_of 525 (by decide +kernel) (by decide +kernel)
theorem kc_X7_114 : Cond.constant RX7 114 (1000000 : Int32) ∈ wALL := wALL_of 526 (by decide +kernel) (by decide +kernel)
theorem cl_X7_115 : Cond.classLink RX7 115 "java/util/NoSuchElementException" ∈ wALL := wALL_of 527 (by decide +kernel) (by decide +kernel)
theorem it_java_util_NoSuchElementException : Cond.instantiable "java/util/NoSuchElementException" 6 ∈ wALL := wALL_of 528 (by decide +kernel) (by decide +kernel)
theorem ml_L_149 : Cond.methodLink RL 149 yL_firstTrail ∈ wALL := wALL_of 543 (by decide +kernel) (by decide +kernel)
theorem sm_L_firstTrail : Cond.static yL_firstTrail ∈ wALL := wALL_of 544 (by decide +kernel) (by decide +kernel)
theorem co_L_firstTrail : Cond.codeWith yL_firstTrail cL_firstTrail 5 (Option.some Jvm.ClassFile.FieldType.int) [(0, 10, 13, 19), (0, 10, 17, 35)] ∈ wALL := wALL_of 545 (by decide +kernel) (by decide +kernel)
theorem ml_L_37 : Cond.methodLink RL 37 yX7_firstTrail ∈ wALL := wALL_of 546 (by decide +kernel) (by decide +kernel)
theorem im_X7_firstTrail : Cond.instanceMethod yX7_firstTrail ∈ wALL := wALL_of 547 (by decide +kernel) (by decide +kernel)
theorem se_X7_firstTrail : Cond.selects RX7 yX7_firstTrail yX7_firstTrail ∈ wALL := wALL_of 548 (by decide +kernel) (by decide +kernel)
theorem co_X7_firstTrail : Cond.code yX7_firstTrail cX7_firstTrail 4 (Option.some Jvm.ClassFile.FieldType.int) ∈ wALL := wALL_of 549 (by decide +kernel) (by decide +kernel)
theorem ml_X7_120 : Cond.methodLink RX7 120 yX2_trailTowards ∈ wALL := wALL_of 550 (by decide +kernel) (by decide +kernel)
theorem im_X2_trailTowards : Cond.instanceMethod yX2_trailTowards ∈ wALL := wALL_of 551 (by decide +kernel) (by decide +kernel)
theorem se_X2_trailTowards : Cond.selects RX2 yX2_trailTowards yX2_trailTowards ∈ wALL := wALL_of 552 (by decide +kernel) (by decide +kernel)
theorem co_X2_trailTowards : Cond.code yX2_trailTowards cX2_trailTowards 6 (Option.some Jvm.ClassFile.FieldType.int) ∈ wALL := wALL_of 553 (by decide +kernel) (by decide +kernel)
theorem ml_X2_60 : Cond.methodLink RX2 60 yX2_minutesBy ∈ wALL := wALL_of 554 (by decide +kernel) (by decide +kernel)
theorem ml_L_153 : Cond.methodLink RL 153 yL_addWood ∈ wALL := wALL_of 556 (by decide +kernel) (by decide +kernel)
theorem sm_L_addWood : Cond.static yL_addWood ∈ wALL := wALL_of 557 (by decide +kernel) (by decide +kernel)
theorem co_L_addWood : Cond.codeWith yL_addWood cL_addWood 4 (Option.some Jvm.ClassFile.FieldType.int) [(0, 9, 12, 21)] ∈ wALL := wALL_of 558 (by decide +kernel) (by decide +kernel)
theorem ml_L_41 : Cond.methodLink RL 41 yX7_addWood ∈ wALL := wALL_of 559 (by decide +kernel) (by decide +kernel)
theorem im_X7_addWood : Cond.instanceMethod yX7_addWood ∈ wALL := wALL_of 560 (by decide +kernel) (by decide +kernel)
theorem se_X7_addWood : Cond.selects RX7 yX7_addWood yX7_addWood ∈ wALL := wALL_of 561 (by decide +kernel) (by decide +kernel)
theorem co_X7_addWood : Cond.code yX7_addWood cX7_addWood 2 (Option.some Jvm.ClassFile.FieldType.int) ∈ wALL := wALL_of 562 (by decide +kernel) (by decide +kernel)
theorem ml_L_156 : Cond.methodLink RL 156 yL_cut ∈ wALL := wALL_of 564 (by decide +kernel) (by decide +kernel)
theorem sm_L_cut : Cond.static yL_cut ∈ wALL := wALL_of 565 (by decide +kernel) (by decide +kernel)
theorem co_L_cut : Cond.codeWith yL_cut cL_cut 5 (Option.some Jvm.ClassFile.FieldType.int) [(0, 10, 13, 19), (0, 10, 17, 21), (0, 10, 21, 35), (0, 10, 25, 48), (0, 10, 29, 13)] ∈ wALL := wALL_of 566 (by decide +kernel) (by decide +kernel)
theorem cl_L_48 : Cond.classLink RL 48 "java/lang/UnsupportedOperationException" ∈ wALL := wALL_of 567 (by decide +kernel) (by decide +kernel)
theorem ml_L_45 : Cond.methodLink RL 45 yX7_cut ∈ wALL := wALL_of 568 (by decide +kernel) (by decide +kernel)
theorem im_X7_cut : Cond.instanceMethod yX7_cut ∈ wALL := wALL_of 569 (by decide +kernel) (by decide +kernel)
theorem se_X7_cut : Cond.selects RX7 yX7_cut yX7_cut ∈ wALL := wALL_of 570 (by decide +kernel) (by decide +kernel)
theorem co_X7_cut : Cond.code yX7_cut cX7_cut 4 (Option.some Jvm.ClassFile.FieldType.int) ∈ wALL := wALL_of 571 (by decide +kernel) (by decide +kernel)
theorem ml_X7_132 : Cond.methodLink RX7 132 yX7_canTell ∈ wALL := wALL_of 573 (by decide +kernel) (by decide +kernel)
theorem im_X7_canTell : Cond.instanceMethod yX7_canTell ∈ wALL := wALL_of 575 (by decide +kernel) (by decide +kernel)
theorem co_X7_canTell : Cond.code yX7_canTell cX7_canTell 3 (Option.some Jvm.ClassFile.FieldType.boolean) ∈ wALL := wALL_of 576 (by decide +kernel) (by decide +kernel)
theorem cl_X7_138 : Cond.classLink RX7 138 "java/lang/UnsupportedOperationException" ∈ wALL := wALL_of 578 (by decide +kernel) (by decide +kernel)
theorem it_java_lang_UnsupportedOperationException : Cond.instantiable "java/lang/UnsupportedOperationException" 6 ∈ wALL := wALL_of 579 (by decide +kernel) (by decide +kernel)
theorem ml_X7_155 : Cond.methodLink RX7 155 yX7_putUp ∈ wALL := wALL_of 595 (by decide +kernel) (by decide +kernel)
theorem im_X7_putUp : Cond.instanceMethod yX7_putUp ∈ wALL := wALL_of 597 (by decide +kernel) (by decide +kernel)
theorem co_X7_putUp : Cond.code yX7_putUp cX7_putUp 4 none ∈ wALL := wALL_of 598 (by decide +kernel) (by decide +kernel)
theorem ml_X7_306 : Cond.methodLink RX7 306 yX7_roundUp ∈ wALL := wALL_of 599 (by decide +kernel) (by decide +kernel)
theorem sm_X7_roundUp : Cond.static yX7_roundUp ∈ wALL := wALL_of 600 (by decide +kernel) (by decide +kernel)
theorem co_X7_roundUp : Cond.code yX7_roundUp cX7_roundUp 1 (Option.some Jvm.ClassFile.FieldType.int) ∈ wALL := wALL_of 601 (by decide +kernel) (by decide +kernel)
theorem ml_L_159 : Cond.methodLink RL 159 yL_trailOf ∈ wALL := wALL_of 602 (by decide +kernel) (by decide +kernel)
theorem sm_L_trailOf : Cond.static yL_trailOf ∈ wALL := wALL_of 603 (by decide +kernel) (by decide +kernel)
theorem co_L_trailOf : Cond.codeWith yL_trailOf cL_trailOf 4 (Option.some Jvm.ClassFile.FieldType.int) [(0, 9, 12, 19)] ∈ wALL := wALL_of 604 (by decide +kernel) (by decide +kernel)
theorem ml_L_50 : Cond.methodLink RL 50 yX7_trailOf ∈ wALL := wALL_of 605 (by decide +kernel) (by decide +kernel)
theorem im_X7_trailOf : Cond.instanceMethod yX7_trailOf ∈ wALL := wALL_of 606 (by decide +kernel) (by decide +kernel)
theorem se_X7_trailOf : Cond.selects RX7 yX7_trailOf yX7_trailOf ∈ wALL := wALL_of 607 (by decide +kernel) (by decide +kernel)
theorem co_X7_trailOf : Cond.code yX7_trailOf cX7_trailOf 2 (Option.some Jvm.ClassFile.FieldType.int) ∈ wALL := wALL_of 608 (by decide +kernel) (by decide +kernel)
theorem ml_X7_158 : Cond.methodLink RX7 158 yX7_requireBoard ∈ wALL := wALL_of 609 (by decide +kernel) (by decide +kernel)
theorem im_X7_requireBoard : Cond.instanceMethod yX7_requireBoard ∈ wALL := wALL_of 611 (by decide +kernel) (by decide +kernel)
theorem co_X7_requireBoard : Cond.code yX7_requireBoard cX7_requireBoard 2 none ∈ wALL := wALL_of 612 (by decide +kernel) (by decide +kernel)
theorem ml_L_162 : Cond.methodLink RL 162 yL_told ∈ wALL := wALL_of 614 (by decide +kernel) (by decide +kernel)
theorem sm_L_told : Cond.static yL_told ∈ wALL := wALL_of 615 (by decide +kernel) (by decide +kernel)
theorem co_L_told : Cond.codeWith yL_told cL_told 4 (Option.some Jvm.ClassFile.FieldType.int) [(0, 9, 12, 19)] ∈ wALL := wALL_of 616 (by decide +kernel) (by decide +kernel)
theorem ml_L_53 : Cond.methodLink RL 53 yX7_told ∈ wALL := wALL_of 617 (by decide +kernel) (by decide +kernel)
theorem im_X7_told : Cond.instanceMethod yX7_told ∈ wALL := wALL_of 618 (by decide +kernel) (by decide +kernel)
theorem se_X7_told : Cond.selects RX7 yX7_told yX7_told ∈ wALL := wALL_of 619 (by decide +kernel) (by decide +kernel)
theorem co_X7_told : Cond.code yX7_told cX7_told 2 (Option.some Jvm.ClassFile.FieldType.int) ∈ wALL := wALL_of 620 (by decide +kernel) (by decide +kernel)
theorem ml_L_165 : Cond.methodLink RL 165 yL_isCovered ∈ wALL := wALL_of 621 (by decide +kernel) (by decide +kernel)
theorem sm_L_isCovered : Cond.static yL_isCovered ∈ wALL := wALL_of 622 (by decide +kernel) (by decide +kernel)
theorem co_L_isCovered : Cond.codeWith yL_isCovered cL_isCovered 4 (Option.some Jvm.ClassFile.FieldType.int) [(0, 16, 19, 19)] ∈ wALL := wALL_of 623 (by decide +kernel) (by decide +kernel)
theorem ml_L_56 : Cond.methodLink RL 56 yX7_isCovered ∈ wALL := wALL_of 624 (by decide +kernel) (by decide +kernel)
theorem im_X7_isCovered : Cond.instanceMethod yX7_isCovered ∈ wALL := wALL_of 625 (by decide +kernel) (by decide +kernel)
theorem se_X7_isCovered : Cond.selects RX7 yX7_isCovered yX7_isCovered ∈ wALL := wALL_of 626 (by decide +kernel) (by decide +kernel)
theorem co_X7_isCovered : Cond.code yX7_isCovered cX7_isCovered 2 (Option.some Jvm.ClassFile.FieldType.boolean) ∈ wALL := wALL_of 627 (by decide +kernel) (by decide +kernel)
theorem ml_L_168 : Cond.methodLink RL 168 yL_danger ∈ wALL := wALL_of 628 (by decide +kernel) (by decide +kernel)
theorem sm_L_danger : Cond.static yL_danger ∈ wALL := wALL_of 629 (by decide +kernel) (by decide +kernel)
theorem co_L_danger : Cond.codeWith yL_danger cL_danger 5 (Option.some Jvm.ClassFile.FieldType.int) [(0, 10, 13, 19)] ∈ wALL := wALL_of 630 (by decide +kernel) (by decide +kernel)
theorem ml_L_59 : Cond.methodLink RL 59 yX7_danger ∈ wALL := wALL_of 631 (by decide +kernel) (by decide +kernel)
theorem im_X7_danger : Cond.instanceMethod yX7_danger ∈ wALL := wALL_of 632 (by decide +kernel) (by decide +kernel)
theorem se_X7_danger : Cond.selects RX7 yX7_danger yX7_danger ∈ wALL := wALL_of 633 (by decide +kernel) (by decide +kernel)
theorem co_X7_danger : Cond.code yX7_danger cX7_danger 3 (Option.some Jvm.ClassFile.FieldType.int) ∈ wALL := wALL_of 634 (by decide +kernel) (by decide +kernel)
theorem ml_L_175 : Cond.methodLink RL 175 yL_report ∈ wALL := wALL_of 635 (by decide +kernel) (by decide +kernel)
theorem sm_L_report : Cond.static yL_report ∈ wALL := wALL_of 636 (by decide +kernel) (by decide +kernel)
theorem co_L_report : Cond.codeWith yL_report cL_report 6 (Option.some Jvm.ClassFile.FieldType.int) [(0, 19, 22, 21), (0, 19, 26, 19)] ∈ wALL := wALL_of 637 (by decide +kernel) (by decide +kernel)
theorem ml_L_63 : Cond.methodLink RL 63 yX7_report ∈ wALL := wALL_of 638 (by decide +kernel) (by decide +kernel)
theorem im_X7_report : Cond.instanceMethod yX7_report ∈ wALL := wALL_of 639 (by decide +kernel) (by decide +kernel)
theorem se_X7_report : Cond.selects RX7 yX7_report yX7_report ∈ wALL := wALL_of 640 (by decide +kernel) (by decide +kernel)
theorem co_X7_report : Cond.code yX7_report cX7_report 4 (Option.some Jvm.ClassFile.FieldType.boolean) ∈ wALL := wALL_of 641 (by decide +kernel) (by decide +kernel)
theorem ml_X7_174 : Cond.methodLink RX7 174 yX7_requireWalker ∈ wALL := wALL_of 642 (by decide +kernel) (by decide +kernel)
theorem im_X7_requireWalker : Cond.instanceMethod yX7_requireWalker ∈ wALL := wALL_of 644 (by decide +kernel) (by decide +kernel)
theorem co_X7_requireWalker : Cond.code yX7_requireWalker cX7_requireWalker 2 none ∈ wALL := wALL_of 645 (by decide +kernel) (by decide +kernel)
theorem ml_X7_177 : Cond.methodLink RX7 177 yX6_note ∈ wALL := wALL_of 647 (by decide +kernel) (by decide +kernel)
theorem im_X6_note : Cond.instanceMethod yX6_note ∈ wALL := wALL_of 648 (by decide +kernel) (by decide +kernel)
theorem se_X6_note : Cond.selects RX6 yX6_note yX6_note ∈ wALL := wALL_of 649 (by decide +kernel) (by decide +kernel)
theorem co_X6_note : Cond.code yX6_note cX6_note 4 none ∈ wALL := wALL_of 650 (by decide +kernel) (by decide +kernel)
theorem ml_X7_184 : Cond.methodLink RX7 184 yX6_believe ∈ wALL := wALL_of 651 (by decide +kernel) (by decide +kernel)
theorem im_X6_believe : Cond.instanceMethod yX6_believe ∈ wALL := wALL_of 652 (by decide +kernel) (by decide +kernel)
theorem se_X6_believe : Cond.selects RX6 yX6_believe yX6_believe ∈ wALL := wALL_of 653 (by decide +kernel) (by decide +kernel)
theorem co_X6_believe : Cond.code yX6_believe cX6_believe 5 (Option.some Jvm.ClassFile.FieldType.boolean) ∈ wALL := wALL_of 654 (by decide +kernel) (by decide +kernel)
theorem ml_X6_18 : Cond.methodLink RX6 18 yX6_trustOfAll ∈ wALL := wALL_of 655 (by decide +kernel) (by decide +kernel)
theorem im_X6_trustOfAll : Cond.instanceMethod yX6_trustOfAll ∈ wALL := wALL_of 656 (by decide +kernel) (by decide +kernel)
theorem se_X6_trustOfAll : Cond.selects RX6 yX6_trustOfAll yX6_trustOfAll ∈ wALL := wALL_of 657 (by decide +kernel) (by decide +kernel)
theorem co_X6_trustOfAll : Cond.code yX6_trustOfAll cX6_trustOfAll 5 (Option.some Jvm.ClassFile.FieldType.int) ∈ wALL := wALL_of 658 (by decide +kernel) (by decide +kernel)
theorem ml_L_178 : Cond.methodLink RL 178 yL_trust ∈ wALL := wALL_of 659 (by decide +kernel) (by decide +kernel)
theorem sm_L_trust : Cond.static yL_trust ∈ wALL := wALL_of 660 (by decide +kernel) (by decide +kernel)
theorem co_L_trust : Cond.codeWith yL_trust cL_trust 4 (Option.some Jvm.ClassFile.FieldType.int) [(0, 9, 12, 21)] ∈ wALL := wALL_of 661 (by decide +kernel) (by decide +kernel)
theorem ml_L_67 : Cond.methodLink RL 67 yX7_trust ∈ wALL := wALL_of 662 (by decide +kernel) (by decide +kernel)
theorem im_X7_trust : Cond.instanceMethod yX7_trust ∈ wALL := wALL_of 663 (by decide +kernel) (by decide +kernel)
theorem se_X7_trust : Cond.selects RX7 yX7_trust yX7_trust ∈ wALL := wALL_of 664 (by decide +kernel) (by decide +kernel)
theorem co_X7_trust : Cond.code yX7_trust cX7_trust 2 (Option.some Jvm.ClassFile.FieldType.int) ∈ wALL := wALL_of 665 (by decide +kernel) (by decide +kernel)
theorem ml_L_181 : Cond.methodLink RL 181 yL_reports ∈ wALL := wALL_of 666 (by decide +kernel) (by decide +kernel)
theorem sm_L_reports : Cond.static yL_reports ∈ wALL := wALL_of 667 (by decide +kernel) (by decide +kernel)
theorem co_L_reports : Cond.codeWith yL_reports cL_reports 4 (Option.some Jvm.ClassFile.FieldType.int) [(0, 9, 12, 19)] ∈ wALL := wALL_of 668 (by decide +kernel) (by decide +kernel)
theorem ml_L_70 : Cond.methodLink RL 70 yX7_reports ∈ wALL := wALL_of 669 (by decide +kernel) (by decide +kernel)
theorem im_X7_reports : Cond.instanceMethod yX7_reports ∈ wALL := wALL_of 670 (by decide +kernel) (by decide +kernel)
theorem se_X7_reports : Cond.selects RX7 yX7_reports yX7_reports ∈ wALL := wALL_of 671 (by decide +kernel) (by decide +kernel)
theorem co_X7_reports : Cond.code yX7_reports cX7_reports 2 (Option.some Jvm.ClassFile.FieldType.int) ∈ wALL := wALL_of 672 (by decide +kernel) (by decide +kernel)
theorem ml_X7_191 : Cond.methodLink RX7 191 yX6_countNotes ∈ wALL := wALL_of 673 (by decide +kernel) (by decide +kernel)
theorem im_X6_countNotes : Cond.instanceMethod yX6_countNotes ∈ wALL := wALL_of 674 (by decide +kernel) (by decide +kernel)
theorem se_X6_countNotes : Cond.selects RX6 yX6_countNotes yX6_countNotes ∈ wALL := wALL_of 675 (by decide +kernel) (by decide +kernel)
theorem co_X6_countNotes : Cond.code yX6_countNotes cX6_countNotes 4 (Option.some Jvm.ClassFile.FieldType.int) ∈ wALL := wALL_of 676 (by decide +kernel) (by decide +kernel)
theorem ml_L_184 : Cond.methodLink RL 184 yL_addTask ∈ wALL := wALL_of 677 (by decide +kernel) (by decide +kernel)
theorem sm_L_addTask : Cond.static yL_addTask ∈ wALL := wALL_of 678 (by decide +kernel) (by decide +kernel)
theorem co_L_addTask : Cond.codeWith yL_addTask cL_addTask 6 (Option.some Jvm.ClassFile.FieldType.int) [(0, 12, 15, 21), (0, 12, 19, 19), (0, 12, 23, 13)] ∈ wALL := wALL_of 679 (by decide +kernel) (by decide +kernel)
theorem ml_L_73 : Cond.methodLink RL 73 yX7_addTask ∈ wALL := wALL_of 680 (by decide +kernel) (by decide +kernel)
theorem im_X7_addTask : Cond.instanceMethod yX7_addTask ∈ wALL := wALL_of 681 (by decide +kernel) (by decide +kernel)
theorem se_X7_addTask : Cond.selects RX7 yX7_addTask yX7_addTask ∈ wALL := wALL_of 682 (by decide +kernel) (by decide +kernel)
theorem co_X7_addTask : Cond.code yX7_addTask cX7_addTask 4 (Option.some Jvm.ClassFile.FieldType.int) ∈ wALL := wALL_of 683 (by decide +kernel) (by decide +kernel)
theorem ml_L_192 : Cond.methodLink RL 192 yL_kindOf ∈ wALL := wALL_of 687 (by decide +kernel) (by decide +kernel)
theorem sm_L_kindOf : Cond.static yL_kindOf ∈ wALL := wALL_of 688 (by decide +kernel) (by decide +kernel)
theorem co_L_kindOf : Cond.codeWith yL_kindOf cL_kindOf 4 (Option.some Jvm.ClassFile.FieldType.int) [(0, 9, 12, 19)] ∈ wALL := wALL_of 689 (by decide +kernel) (by decide +kernel)
theorem ml_L_77 : Cond.methodLink RL 77 yX7_kindOf ∈ wALL := wALL_of 690 (by decide +kernel) (by decide +kernel)
theorem im_X7_kindOf : Cond.instanceMethod yX7_kindOf ∈ wALL := wALL_of 691 (by decide +kernel) (by decide +kernel)
theorem se_X7_kindOf : Cond.selects RX7 yX7_kindOf yX7_kindOf ∈ wALL := wALL_of 692 (by decide +kernel) (by decide +kernel)
theorem co_X7_kindOf : Cond.code yX7_kindOf cX7_kindOf 2 (Option.some Jvm.ClassFile.FieldType.char) ∈ wALL := wALL_of 693 (by decide +kernel) (by decide +kernel)
theorem ml_X7_217 : Cond.methodLink RX7 217 yX7_requireTask ∈ wALL := wALL_of 694 (by decide +kernel) (by decide +kernel)
theorem im_X7_requireTask : Cond.instanceMethod yX7_requireTask ∈ wALL := wALL_of 696 (by decide +kernel) (by decide +kernel)
theorem co_X7_requireTask : Cond.code yX7_requireTask cX7_requireTask 2 none ∈ wALL := wALL_of 697 (by decide +kernel) (by decide +kernel)
theorem ml_L_195 : Cond.methodLink RL 195 yL_numberOf ∈ wALL := wALL_of 699 (by decide +kernel) (by decide +kernel)
theorem sm_L_numberOf : Cond.static yL_numberOf ∈ wALL := wALL_of 700 (by decide +kernel) (by decide +kernel)
theorem co_L_numberOf : Cond.codeWith yL_numberOf cL_numberOf 4 (Option.some Jvm.ClassFile.FieldType.int) [(0, 9, 12, 19)] ∈ wALL := wALL_of 701 (by decide +kernel) (by decide +kernel)
theorem ml_L_81 : Cond.methodLink RL 81 yX7_numberOf ∈ wALL := wALL_of 702 (by decide +kernel) (by decide +kernel)
theorem im_X7_numberOf : Cond.instanceMethod yX7_numberOf ∈ wALL := wALL_of 703 (by decide +kernel) (by decide +kernel)
theorem se_X7_numberOf : Cond.selects RX7 yX7_numberOf yX7_numberOf ∈ wALL := wALL_of 704 (by decide +kernel) (by decide +kernel)
theorem co_X7_numberOf : Cond.code yX7_numberOf cX7_numberOf 2 (Option.some Jvm.ClassFile.FieldType.int) ∈ wALL := wALL_of 705 (by decide +kernel) (by decide +kernel)
theorem ml_L_198 : Cond.methodLink RL 198 yL_doneBy ∈ wALL := wALL_of 706 (by decide +kernel) (by decide +kernel)
theorem sm_L_doneBy : Cond.static yL_doneBy ∈ wALL := wALL_of 707 (by decide +kernel) (by decide +kernel)
theorem co_L_doneBy : Cond.codeWith yL_doneBy cL_doneBy 4 (Option.some Jvm.ClassFile.FieldType.int) [(0, 9, 12, 19), (0, 9, 15, 35)] ∈ wALL := wALL_of 708 (by decide +kernel) (by decide +kernel)
theorem ml_L_84 : Cond.methodLink RL 84 yX7_doneBy ∈ wALL := wALL_of 709 (by decide +kernel) (by decide +kernel)
theorem im_X7_doneBy : Cond.instanceMethod yX7_doneBy ∈ wALL := wALL_of 710 (by decide +kernel) (by decide +kernel)
theorem se_X7_doneBy : Cond.selects RX7 yX7_doneBy yX7_doneBy ∈ wALL := wALL_of 711 (by decide +kernel) (by decide +kernel)
theorem co_X7_doneBy : Cond.code yX7_doneBy cX7_doneBy 2 (Option.some Jvm.ClassFile.FieldType.int) ∈ wALL := wALL_of 712 (by decide +kernel) (by decide +kernel)
theorem ml_L_205 : Cond.methodLink RL 205 yL_addRanger ∈ wALL := wALL_of 714 (by decide +kernel) (by decide +kernel)
theorem sm_L_addRanger : Cond.static yL_addRanger ∈ wALL := wALL_of 715 (by decide +kernel) (by decide +kernel)
theorem co_L_addRanger : Cond.codeWith yL_addRanger cL_addRanger 5 (Option.some Jvm.ClassFile.FieldType.int) [(0, 10, 13, 19), (0, 10, 17, 21), (0, 10, 21, 13)] ∈ wALL := wALL_of 716 (by decide +kernel) (by decide +kernel)
theorem ml_L_87 : Cond.methodLink RL 87 yX7_addRanger ∈ wALL := wALL_of 717 (by decide +kernel) (by decide +kernel)
theorem im_X7_addRanger : Cond.instanceMethod yX7_addRanger ∈ wALL := wALL_of 718 (by decide +kernel) (by decide +kernel)
theorem se_X7_addRanger : Cond.selects RX7 yX7_addRanger yX7_addRanger ∈ wALL := wALL_of 719 (by decide +kernel) (by decide +kernel)
theorem co_X7_addRanger : Cond.code yX7_addRanger cX7_addRanger 3 (Option.some Jvm.ClassFile.FieldType.int) ∈ wALL := wALL_of 720 (by decide +kernel) (by decide +kernel)
theorem ml_X7_242 : Cond.methodLink RX7 242 yX3_enlist ∈ wALL := wALL_of 723 (by decide +kernel) (by decide +kernel)
theorem im_X3_enlist : Cond.instanceMethod yX3_enlist ∈ wALL := wALL_of 724 (by decide +kernel) (by decide +kernel)
theorem se_X3_enlist : Cond.selects RX3 yX3_enlist yX3_enlist ∈ wALL := wALL_of 725 (by decide +kernel) (by decide +kernel)
theorem co_X3_enlist : Cond.code yX3_enlist cX3_enlist 4 (Option.some Jvm.ClassFile.FieldType.int) ∈ wALL := wALL_of 726 (by decide +kernel) (by decide +kernel)
theorem ml_L_208 : Cond.methodLink RL 208 yL_forkOf ∈ wALL := wALL_of 727 (by decide +kernel) (by decide +kernel)
theorem sm_L_forkOf : Cond.static yL_forkOf ∈ wALL := wALL_of 728 (by decide +kernel) (by decide +kernel)
theorem co_L_forkOf : Cond.codeWith yL_forkOf cL_forkOf 4 (Option.some Jvm.ClassFile.FieldType.int) [(0, 9, 12, 19)] ∈ wALL := wALL_of 729 (by decide +kernel) (by decide +kernel)
theorem ml_L_90 : Cond.methodLink RL 90 yX7_forkOf ∈ wALL := wALL_of 730 (by decide +kernel) (by decide +kernel)
theorem im_X7_forkOf : Cond.instanceMethod yX7_forkOf ∈ wALL := wALL_of 731 (by decide +kernel) (by decide +kernel)
theorem se_X7_forkOf : Cond.selects RX7 yX7_forkOf yX7_forkOf ∈ wALL := wALL_of 732 (by decide +kernel) (by decide +kernel)
theorem co_X7_forkOf : Cond.code yX7_forkOf cX7_forkOf 2 (Option.some Jvm.ClassFile.FieldType.int) ∈ wALL := wALL_of 733 (by decide +kernel) (by decide +kernel)
theorem ml_X7_245 : Cond.methodLink RX7 245 yX7_requireRanger ∈ wALL := wALL_of 734 (by decide +kernel) (by decide +kernel)
theorem im_X7_requireRanger : Cond.instanceMethod yX7_requireRanger ∈ wALL := wALL_of 736 (by decide +kernel) (by decide +kernel)
theorem co_X7_requireRanger : Cond.code yX7_requireRanger cX7_requireRanger 2 none ∈ wALL := wALL_of 737 (by decide +kernel) (by decide +kernel)
theorem ml_L_211 : Cond.methodLink RL 211 yL_worked ∈ wALL := wALL_of 739 (by decide +kernel) (by decide +kernel)
theorem sm_L_worked : Cond.static yL_worked ∈ wALL := wALL_of 740 (by decide +kernel) (by decide +kernel)
theorem co_L_worked : Cond.codeWith yL_worked cL_worked 4 (Option.some Jvm.ClassFile.FieldType.int) [(0, 9, 12, 19)] ∈ wALL := wALL_of 741 (by decide +kernel) (by decide +kernel)
theorem ml_L_93 : Cond.methodLink RL 93 yX7_worked ∈ wALL := wALL_of 742 (by decide +kernel) (by decide +kernel)
theorem im_X7_worked : Cond.instanceMethod yX7_worked ∈ wALL := wALL_of 743 (by decide +kernel) (by decide +kernel)
theorem se_X7_worked : Cond.selects RX7 yX7_worked yX7_worked ∈ wALL := wALL_of 744 (by decide +kernel) (by decide +kernel)
theorem co_X7_worked : Cond.code yX7_worked cX7_worked 2 (Option.some Jvm.ClassFile.FieldType.int) ∈ wALL := wALL_of 745 (by decide +kernel) (by decide +kernel)
theorem ml_L_214 : Cond.methodLink RL 214 yL_day ∈ wALL := wALL_of 746 (by decide +kernel) (by decide +kernel)
theorem sm_L_day : Cond.static yL_day ∈ wALL := wALL_of 747 (by decide +kernel) (by decide +kernel)
theorem co_L_day : Cond.codeWith yL_day cL_day 3 (Option.some Jvm.ClassFile.FieldType.int) [(0, 8, 11, 13)] ∈ wALL := wALL_of 748 (by decide +kernel) (by decide +kernel)
theorem ml_L_96 : Cond.methodLink RL 96 yX7_day ∈ wALL := wALL_of 749 (by decide +kernel) (by decide +kernel)
theorem im_X7_day : Cond.instanceMethod yX7_day ∈ wALL := wALL_of 750 (by decide +kernel) (by decide +kernel)
theorem se_X7_day : Cond.selects RX7 yX7_day yX7_day ∈ wALL := wALL_of 751 (by decide +kernel) (by decide +kernel)
theorem co_X7_day : Cond.code yX7_day cX7_day 3 (Option.some Jvm.ClassFile.FieldType.int) ∈ wALL := wALL_of 752 (by decide +kernel) (by decide +kernel)
theorem ml_X7_254 : Cond.methodLink RX7 254 yX7_sendOut ∈ wALL := wALL_of 754 (by decide +kernel) (by decide +kernel)
theorem im_X7_sendOut : Cond.instanceMethod yX7_sendOut ∈ wALL := wALL_of 756 (by decide +kernel) (by decide +kernel)
theorem co_X7_sendOut : Cond.code yX7_sendOut cX7_sendOut 5 (Option.some Jvm.ClassFile.FieldType.int) ∈ wALL := wALL_of 757 (by decide +kernel) (by decide +kernel)
theorem ml_X7_316 : Cond.methodLink RX7 316 yX7_chooseTask ∈ wALL := wALL_of 758 (by decide +kernel) (by decide +kernel)
theorem im_X7_chooseTask : Cond.instanceMethod yX7_chooseTask ∈ wALL := wALL_of 760 (by decide +kernel) (by decide +kernel)
theorem co_X7_chooseTask : Cond.code yX7_chooseTask cX7_chooseTask 5 (Option.some Jvm.ClassFile.FieldType.int) ∈ wALL := wALL_of 761 (by decide +kernel) (by decide +kernel)
theorem ml_X7_332 : Cond.methodLink RX7 332 yX7_toolFor ∈ wALL := wALL_of 762 (by decide +kernel) (by decide +kernel)
theorem sm_X7_toolFor : Cond.static yX7_toolFor ∈ wALL := wALL_of 763 (by decide +kernel) (by decide +kernel)
theorem co_X7_toolFor : Cond.code yX7_toolFor cX7_toolFor 1 (Option.some Jvm.ClassFile.FieldType.int) ∈ wALL := wALL_of 764 (by decide +kernel) (by decide +kernel)
theorem ml_X7_336 : Cond.methodLink RX7 336 yX3_hasTool ∈ wALL := wALL_of 765 (by decide +kernel) (by decide +kernel)
theorem im_X3_hasTool : Cond.instanceMethod yX3_hasTool ∈ wALL := wALL_of 766 (by decide +kernel) (by decide +kernel)
theorem se_X3_hasTool : Cond.selects RX3 yX3_hasTool yX3_hasTool ∈ wALL := wALL_of 767 (by decide +kernel) (by decide +kernel)
theorem co_X3_hasTool : Cond.code yX3_hasTool cX3_hasTool 3 (Option.some Jvm.ClassFile.FieldType.boolean) ∈ wALL := wALL_of 768 (by decide +kernel) (by decide +kernel)
theorem ml_X7_322 : Cond.methodLink RX7 322 yX7_makesSense ∈ wALL := wALL_of 769 (by decide +kernel) (by decide +kernel)
theorem im_X7_makesSense : Cond.instanceMethod yX7_makesSense ∈ wALL := wALL_of 771 (by decide +kernel) (by decide +kernel)
theorem co_X7_makesSense : Cond.code yX7_makesSense cX7_makesSense 4 (Option.some Jvm.ClassFile.FieldType.boolean) ∈ wALL := wALL_of 772 (by decide +kernel) (by decide +kernel)
theorem ml_X7_339 : Cond.methodLink RX7 339 yX7_hasTimeFor ∈ wALL := wALL_of 773 (by decide +kernel) (by decide +kernel)
theorem im_X7_hasTimeFor : Cond.instanceMethod yX7_hasTimeFor ∈ wALL := wALL_of 775 (by decide +kernel) (by decide +kernel)
theorem co_X7_hasTimeFor : Cond.code yX7_hasTimeFor cX7_hasTimeFor 4 (Option.some Jvm.ClassFile.FieldType.boolean) ∈ wALL := wALL_of 776 (by decide +kernel) (by decide +kernel)
theorem ml_X7_342 : Cond.methodLink RX7 342 yX7_goalOf ∈ wALL := wALL_of 777 (by decide +kernel) (by decide +kernel)
theorem im_X7_goalOf : Cond.instanceMethod yX7_goalOf ∈ wALL := wALL_of 779 (by decide +kernel) (by decide +kernel)
theorem co_X7_goalOf : Cond.code yX7_goalOf cX7_goalOf 3 (Option.some Jvm.ClassFile.FieldType.int) ∈ wALL := wALL_of 780 (by decide +kernel) (by decide +kernel)
theorem ml_X7_345 : Cond.methodLink RX7 345 yX7_minutesFor ∈ wALL := wALL_of 781 (by decide +kernel) (by decide +kernel)
theorem sm_X7_minutesFor : Cond.static yX7_minutesFor ∈ wALL := wALL_of 782 (by decide +kernel) (by decide +kernel)
theorem co_X7_minutesFor : Cond.code yX7_minutesFor cX7_minutesFor 1 (Option.some Jvm.ClassFile.FieldType.int) ∈ wALL := wALL_of 783 (by decide +kernel) (by decide +kernel)
theorem ml_X7_319 : Cond.methodLink RX7 319 yX7_comesTo ∈ wALL := wALL_of 784 (by decide +kernel) (by decide +kernel)
theorem im_X7_comesTo : Cond.instanceMethod yX7_comesTo ∈ wALL := wALL_of 786 (by decide +kernel) (by decide +kernel)
theorem co_X7_comesTo : Cond.code yX7_comesTo cX7_comesTo 7 (Option.some Jvm.ClassFile.FieldType.boolean) ∈ wALL := wALL_of 787 (by decide +kernel) (by decide +kernel)
theorem ml_X7_351 : Cond.methodLink RX7 351 yX7_see ∈ wALL := wALL_of 788 (by decide +kernel) (by decide +kernel)
theorem im_X7_see : Cond.instanceMethod yX7_see ∈ wALL := wALL_of 790 (by decide +kernel) (by decide +kernel)
theorem co_X7_see : Cond.code yX7_see cX7_see 3 none ∈ wALL := wALL_of 791 (by decide +kernel) (by decide +kernel)
theorem ml_X7_363 : Cond.methodLink RX7 363 yX6_judge ∈ wALL := wALL_of 792 (by decide +kernel) (by decide +kernel)
theorem im_X6_judge : Cond.instanceMethod yX6_judge ∈ wALL := wALL_of 793 (by decide +kernel) (by decide +kernel)
theorem se_X6_judge : Cond.selects RX6 yX6_judge yX6_judge ∈ wALL := wALL_of 794 (by decide +kernel) (by decide +kernel)
theorem co_X6_judge : Cond.code yX6_judge cX6_judge 6 none ∈ wALL := wALL_of 795 (by decide +kernel) (by decide +kernel)
theorem ml_X6_22 : Cond.methodLink RX6 22 yJ9_min_7cf53 ∈ wALL := wALL_of 796 (by decide +kernel) (by decide +kernel)
theorem ml_X6_27 : Cond.methodLink RX6 27 yJ9_max_7cf53 ∈ wALL := wALL_of 797 (by decide +kernel) (by decide +kernel)
theorem sm_J9_max_7cf53 : Cond.static yJ9_max_7cf53 ∈ wALL := wALL_of 798 (by decide +kernel) (by decide +kernel)
theorem co_J9_max_7cf53 : Cond.code yJ9_max_7cf53 cJ9_max_7cf53 2 (Option.some Jvm.ClassFile.FieldType.int) ∈ wALL := wALL_of 799 (by decide +kernel) (by decide +kernel)
theorem ml_X7_354 : Cond.methodLink RX7 354 yX2_minutesFrom ∈ wALL := wALL_of 800 (by decide +kernel) (by decide +kernel)
theorem ml_X7_357 : Cond.methodLink RX7 357 yX3_spend ∈ wALL := wALL_of 801 (by decide +kernel) (by decide +kernel)
theorem im_X3_spend : Cond.instanceMethod yX3_spend ∈ wALL := wALL_of 802 (by decide +kernel) (by decide +kernel)
theorem se_X3_spend : Cond.selects RX3 yX3_spend yX3_spend ∈ wALL := wALL_of 803 (by decide +kernel) (by decide +kernel)
theorem co_X3_spend : Cond.code yX3_spend cX3_spend 3 none ∈ wALL := wALL_of 804 (by decide +kernel) (by decide +kernel)
theorem ml_X7_360 : Cond.methodLink RX7 360 yX2_otherEnd ∈ wALL := wALL_of 805 (by decide +kernel) (by decide +kernel)
theorem ml_X7_325 : Cond.methodLink RX7 325 yX7_carryOut ∈ wALL := wALL_of 806 (by decide +kernel) (by decide +kernel)
theorem im_X7_carryOut : Cond.instanceMethod yX7_carryOut ∈ wALL := wALL_of 808 (by decide +kernel) (by decide +kernel)
theorem co_X7_carryOut : Cond.code yX7_carryOut cX7_carryOut 5 none ∈ wALL := wALL_of 809 (by decide +kernel) (by decide +kernel)
theorem ml_L_218 : Cond.methodLink RL 218 yL_print ∈ wALL := wALL_of 810 (by decide +kernel) (by decide +kernel)
theorem sm_L_print : Cond.static yL_print ∈ wALL := wALL_of 811 (by decide +kernel) (by decide +kernel)
theorem co_L_print : Cond.codeWith yL_print cL_print 3 (Option.some Jvm.ClassFile.FieldType.int) [(0, 8, 11, 13)] ∈ wALL := wALL_of 812 (by decide +kernel) (by decide +kernel)
theorem ml_L_100 : Cond.methodLink RL 100 yX7_print ∈ wALL := wALL_of 813 (by decide +kernel) (by decide +kernel)
theorem im_X7_print : Cond.instanceMethod yX7_print ∈ wALL := wALL_of 814 (by decide +kernel) (by decide +kernel)
theorem se_X7_print : Cond.selects RX7 yX7_print yX7_print ∈ wALL := wALL_of 815 (by decide +kernel) (by decide +kernel)
theorem co_X7_print : Cond.code yX7_print cX7_print 1 (Option.some Jvm.ClassFile.FieldType.int) ∈ wALL := wALL_of 816 (by decide +kernel) (by decide +kernel)
theorem ml_X7_260 : Cond.methodLink RX7 260 yX1_draw ∈ wALL := wALL_of 818 (by decide +kernel) (by decide +kernel)
theorem im_X1_draw : Cond.instanceMethod yX1_draw ∈ wALL := wALL_of 819 (by decide +kernel) (by decide +kernel)
theorem se_X1_draw : Cond.selects RX1 yX1_draw yX1_draw ∈ wALL := wALL_of 820 (by decide +kernel) (by decide +kernel)
theorem co_X1_draw : Cond.code yX1_draw cX1_draw 5 (Option.some Jvm.ClassFile.FieldType.int) ∈ wALL := wALL_of 821 (by decide +kernel) (by decide +kernel)
theorem ml_L_221 : Cond.methodLink RL 221 yL_shows ∈ wALL := wALL_of 822 (by decide +kernel) (by decide +kernel)
theorem sm_L_shows : Cond.static yL_shows ∈ wALL := wALL_of 823 (by decide +kernel) (by decide +kernel)
theorem co_L_shows : Cond.codeWith yL_shows cL_shows 5 (Option.some Jvm.ClassFile.FieldType.int) [(0, 17, 20, 19)] ∈ wALL := wALL_of 824 (by decide +kernel) (by decide +kernel)
theorem ml_L_103 : Cond.methodLink RL 103 yX7_shows ∈ wALL := wALL_of 825 (by decide +kernel) (by decide +kernel)
theorem im_X7_shows : Cond.instanceMethod yX7_shows ∈ wALL := wALL_of 826 (by decide +kernel) (by decide +kernel)
theorem se_X7_shows : Cond.selects RX7 yX7_shows yX7_shows ∈ wALL := wALL_of 827 (by decide +kernel) (by decide +kernel)
theorem co_X7_shows : Cond.code yX7_shows cX7_shows 3 (Option.some Jvm.ClassFile.FieldType.boolean) ∈ wALL := wALL_of 828 (by decide +kernel) (by decide +kernel)
theorem ml_X7_264 : Cond.methodLink RX7 264 yX7_requireMap ∈ wALL := wALL_of 829 (by decide +kernel) (by decide +kernel)
theorem im_X7_requireMap : Cond.instanceMethod yX7_requireMap ∈ wALL := wALL_of 831 (by decide +kernel) (by decide +kernel)
theorem co_X7_requireMap : Cond.code yX7_requireMap cX7_requireMap 2 none ∈ wALL := wALL_of 832 (by decide +kernel) (by decide +kernel)
theorem ml_X7_267 : Cond.methodLink RX7 267 yX1_isDrawn ∈ wALL := wALL_of 834 (by decide +kernel) (by decide +kernel)
theorem im_X1_isDrawn : Cond.instanceMethod yX1_isDrawn ∈ wALL := wALL_of 835 (by decide +kernel) (by decide +kernel)
theorem se_X1_isDrawn : Cond.selects RX1 yX1_isDrawn yX1_isDrawn ∈ wALL := wALL_of 836 (by decide +kernel) (by decide +kernel)
theorem co_X1_isDrawn : Cond.code yX1_isDrawn cX1_isDrawn 3 (Option.some Jvm.ClassFile.FieldType.boolean) ∈ wALL := wALL_of 837 (by decide +kernel) (by decide +kernel)
theorem ml_L_224 : Cond.methodLink RL 224 yL_age ∈ wALL := wALL_of 838 (by decide +kernel) (by decide +kernel)
theorem sm_L_age : Cond.static yL_age ∈ wALL := wALL_of 839 (by decide +kernel) (by decide +kernel)
theorem co_L_age : Cond.codeWith yL_age cL_age 4 (Option.some Jvm.ClassFile.FieldType.int) [(0, 9, 12, 19)] ∈ wALL := wALL_of 840 (by decide +kernel) (by decide +kernel)
theorem ml_L_107 : Cond.methodLink RL 107 yX7_age ∈ wALL := wALL_of 841 (by decide +kernel) (by decide +kernel)
theorem im_X7_age : Cond.instanceMethod yX7_age ∈ wALL := wALL_of 842 (by decide +kernel) (by decide +kernel)
theorem se_X7_age : Cond.selects RX7 yX7_age yX7_age ∈ wALL := wALL_of 843 (by decide +kernel) (by decide +kernel)
theorem co_X7_age : Cond.code yX7_age cX7_age 2 (Option.some Jvm.ClassFile.FieldType.int) ∈ wALL := wALL_of 844 (by decide +kernel) (by decide +kernel)
theorem ml_L_227 : Cond.methodLink RL 227 yL_knownShare ∈ wALL := wALL_of 845 (by decide +kernel) (by decide +kernel)
theorem sm_L_knownShare : Cond.static yL_knownShare ∈ wALL := wALL_of 846 (by decide +kernel) (by decide +kernel)
theorem co_L_knownShare : Cond.codeWith yL_knownShare cL_knownShare 3 (Option.some Jvm.ClassFile.FieldType.int) [(0, 8, 11, 114)] ∈ wALL := wALL_of 847 (by decide +kernel) (by decide +kernel)
theorem cl_L_114 : Cond.classLink RL 114 "java/lang/ArithmeticException" ∈ wALL := wALL_of 848 (by decide +kernel) (by decide +kernel)
theorem it_java_lang_ArithmeticException : Cond.instantiable "java/lang/ArithmeticException" 6 ∈ wALL := wALL_of 849 (by decide +kernel) (by decide +kernel)
theorem ml_L_110 : Cond.methodLink RL 110 yX7_knownShare ∈ wALL := wALL_of 862 (by decide +kernel) (by decide +kernel)
theorem im_X7_knownShare : Cond.instanceMethod yX7_knownShare ∈ wALL := wALL_of 863 (by decide +kernel) (by decide +kernel)
theorem se_X7_knownShare : Cond.selects RX7 yX7_knownShare yX7_knownShare ∈ wALL := wALL_of 864 (by decide +kernel) (by decide +kernel)
theorem co_X7_knownShare : Cond.code yX7_knownShare cX7_knownShare 3 (Option.some Jvm.ClassFile.FieldType.float) ∈ wALL := wALL_of 865 (by decide +kernel) (by decide +kernel)
theorem cl_X7_273 : Cond.classLink RX7 273 "java/lang/ArithmeticException" ∈ wALL := wALL_of 866 (by decide +kernel) (by decide +kernel)
theorem ml_L_231 : Cond.methodLink RL 231 yL_meanDanger ∈ wALL := wALL_of 869 (by decide +kernel) (by decide +kernel)
theorem sm_L_meanDanger : Cond.static yL_meanDanger ∈ wALL := wALL_of 870 (by decide +kernel) (by decide +kernel)
theorem co_L_meanDanger : Cond.codeWith yL_meanDanger cL_meanDanger 3 (Option.some Jvm.ClassFile.FieldType.int) [(0, 7, 10, 114)] ∈ wALL := wALL_of 871 (by decide +kernel) (by decide +kernel)
theorem ml_L_116 : Cond.methodLink RL 116 yX7_meanDanger ∈ wALL := wALL_of 872 (by decide +kernel) (by decide +kernel)
theorem im_X7_meanDanger : Cond.instanceMethod yX7_meanDanger ∈ wALL := wALL_of 873 (by decide +kernel) (by decide +kernel)
theorem se_X7_meanDanger : Cond.selects RX7 yX7_meanDanger yX7_meanDanger ∈ wALL := wALL_of 874 (by decide +kernel) (by decide +kernel)
theorem co_X7_meanDanger : Cond.code yX7_meanDanger cX7_meanDanger 3 (Option.some Jvm.ClassFile.FieldType.double) ∈ wALL := wALL_of 875 (by decide +kernel) (by decide +kernel)
theorem cl_L_121 : Cond.classLink RL 121 RX8 ∈ wALL := wALL_of 877 (by decide +kernel) (by decide +kernel)
theorem it_X8 : Cond.instantiable RX8 34 ∈ wALL := wALL_of 878 (by decide +kernel) (by decide +kernel)
theorem ml_L_123 : Cond.methodLink RL 123 yX8_init ∈ wALL := wALL_of 879 (by decide +kernel) (by decide +kernel)
theorem im_X8_init : Cond.instanceMethod yX8_init ∈ wALL := wALL_of 880 (by decide +kernel) (by decide +kernel)
theorem co_X8_init : Cond.code yX8_init cX8_init 1 none ∈ wALL := wALL_of 881 (by decide +kernel) (by decide +kernel)
theorem ml_X8_1 : Cond.methodLink RX8 1 objectInit ∈ wALL := wALL_of 882 (by decide +kernel) (by decide +kernel)
theorem fl_X8_88 : Cond.fieldLink RX8 88 "WayMarkerModel" "thrown" "I" ∈ wALL := wALL_of 883 (by decide +kernel) (by decide +kernel)
theorem fl_X8_91 : Cond.fieldLink RX8 91 "WayMarkerModel" "forks" "I" ∈ wALL := wALL_of 884 (by decide +kernel) (by decide +kernel)
theorem fl_X8_98 : Cond.fieldLink RX8 98 "WayMarkerModel" "trails" "I" ∈ wALL := wALL_of 885 (by decide +kernel) (by decide +kernel)
theorem fl_X8_101 : Cond.fieldLink RX8 101 "WayMarkerModel" "boards" "I" ∈ wALL := wALL_of 886 (by decide +kernel) (by decide +kernel)
theorem fl_X8_104 : Cond.fieldLink RX8 104 "WayMarkerModel" "tasks" "I" ∈ wALL := wALL_of 887 (by decide +kernel) (by decide +kernel)
theorem fl_X8_107 : Cond.fieldLink RX8 107 "WayMarkerModel" "rangers" "I" ∈ wALL := wALL_of 888 (by decide +kernel) (by decide +kernel)
theorem fl_X8_217 : Cond.fieldLink RX8 217 "WayMarkerModel" "maps" "I" ∈ wALL := wALL_of 889 (by decide +kernel) (by decide +kernel)
theorem fl_X8_7 : Cond.fieldLink RX8 7 "WayMarkerModel" "wood" "I" ∈ wALL := wALL_of 890 (by decide +kernel) (by decide +kernel)
theorem fl_X8_204 : Cond.fieldLink RX8 204 "WayMarkerModel" "day" "I" ∈ wALL := wALL_of 891 (by decide +kernel) (by decide +kernel)
theorem fl_X8_13 : Cond.fieldLink RX8 13 "WayMarkerModel" "isPlace" "[Z" ∈ wALL := wALL_of 892 (by decide +kernel) (by decide +kernel)
theorem fl_X8_17 : Cond.fieldLink RX8 17 "WayMarkerModel" "from" "[I" ∈ wALL := wALL_of 893 (by decide +kernel) (by decide +kernel)
theorem fl_X8_21 : Cond.fieldLink RX8 21 "WayMarkerModel" "to" "[I" ∈ wALL := wALL_of 894 (by decide +kernel) (by decide +kernel)
theorem fl_X8_24 : Cond.fieldLink RX8 24 "WayMarkerModel" "forth" "[I" ∈ wALL := wALL_of 895 (by decide +kernel) (by decide +kernel)
theorem fl_X8_27 : Cond.fieldLink RX8 27 "WayMarkerModel" "back" "[I" ∈ wALL := wALL_of 896 (by decide +kernel) (by decide +kernel)
theorem fl_X8_30 : Cond.fieldLink RX8 30 "WayMarkerModel" "isOut" "[Z" ∈ wALL := wALL_of 897 (by decide +kernel) (by decide +kernel)
theorem fl_X8_33 : Cond.fieldLink RX8 33 "WayMarkerModel" "isTaken" "[Z" ∈ wALL := wALL_of 898 (by decide +kernel) (by decide +kernel)
theorem fl_X8_36 : Cond.fieldLink RX8 36 "WayMarkerModel" "fork" "[I" ∈ wALL := wALL_of 899 (by decide +kernel) (by decide +kernel)
theorem fl_X8_39 : Cond.fieldLink RX8 39 "WayMarkerModel" "place" "[I" ∈ wALL := wALL_of 900 (by decide +kernel) (by decide +kernel)
theorem fl_X8_42 : Cond.fieldLink RX8 42 "WayMarkerModel" "trail" "[I" ∈ wALL := wALL_of 901 (by decide +kernel) (by decide +kernel)
theorem fl_X8_45 : Cond.fieldLink RX8 45 "WayMarkerModel" "told" "[I" ∈ wALL := wALL_of 902 (by decide +kernel) (by decide +kernel)
theorem fl_X8_48 : Cond.fieldLink RX8 48 "WayMarkerModel" "isCovered" "[Z" ∈ wALL := wALL_of 903 (by decide +kernel) (by decide +kernel)
theorem fl_X8_51 : Cond.fieldLink RX8 51 "WayMarkerModel" "said" "[I" ∈ wALL := wALL_of 904 (by decide +kernel) (by decide +kernel)
theorem fl_X8_54 : Cond.fieldLink RX8 54 "WayMarkerModel" "trust" "[I" ∈ wALL := wALL_of 905 (by decide +kernel) (by decide +kernel)
theorem fl_X8_57 : Cond.fieldLink RX8 57 "WayMarkerModel" "kind" "[C" ∈ wALL := wALL_of 906 (by decide +kernel) (by decide +kernel)
theorem fl_X8_61 : Cond.fieldLink RX8 61 "WayMarkerModel" "number" "[I" ∈ wALL := wALL_of 907 (by decide +kernel) (by decide +kernel)
theorem fl_X8_64 : Cond.fieldLink RX8 64 "WayMarkerModel" "dangers" "[I" ∈ wALL := wALL_of 908 (by decide +kernel) (by decide +kernel)
theorem fl_X8_67 : Cond.fieldLink RX8 67 "WayMarkerModel" "doneBy" "[I" ∈ wALL := wALL_of 909 (by decide +kernel) (by decide +kernel)
theorem fl_X8_70 : Cond.fieldLink RX8 70 "WayMarkerModel" "at" "[I" ∈ wALL := wALL_of 910 (by decide +kernel) (by decide +kernel)
theorem fl_X8_73 : Cond.fieldLink RX8 73 "WayMarkerModel" "tools" "[I" ∈ wALL := wALL_of 911 (by decide +kernel) (by decide +kernel)
theorem fl_X8_76 : Cond.fieldLink RX8 76 "WayMarkerModel" "worked" "[I" ∈ wALL := wALL_of 912 (by decide +kernel) (by decide +kernel)
theorem fl_X8_79 : Cond.fieldLink RX8 79 "WayMarkerModel" "map" "[Z" ∈ wALL := wALL_of 913 (by decide +kernel) (by decide +kernel)
theorem fl_X8_82 : Cond.fieldLink RX8 82 "WayMarkerModel" "printed" "[I" ∈ wALL := wALL_of 914 (by decide +kernel) (by decide +kernel)
theorem fl_X8_85 : Cond.fieldLink RX8 85 "WayMarkerModel" "far" "[I" ∈ wALL := wALL_of 915 (by decide +kernel) (by decide +kernel)
theorem fl_X8_188 : Cond.fieldLink RX8 188 "WayMarkerModel" "left" "I" ∈ wALL := wALL_of 916 (by decide +kernel) (by decide +kernel)
theorem ly_X8_thrown : Cond.lays RX8 "WayMarkerModel" "thrown" "I" ∈ wALL := wALL_of 917 (by decide +kernel) (by decide +kernel)
theorem ly_X8_forks : Cond.lays RX8 "WayMarkerModel" "forks" "I" ∈ wALL := wALL_of 919 (by decide +kernel) (by decide +kernel)
theorem ly_X8_trails : Cond.lays RX8 "WayMarkerModel" "trails" "I" ∈ wALL := wALL_of 921 (by decide +kernel) (by decide +kernel)
theorem ly_X8_boards : Cond.lays RX8 "WayMarkerModel" "boards" "I" ∈ wALL := wALL_of 923 (by decide +kernel) (by decide +kernel)
theorem ly_X8_tasks : Cond.lays RX8 "WayMarkerModel" "tasks" "I" ∈ wALL := wALL_of 925 (by decide +kernel) (by decide +kernel)
theorem ly_X8_rangers : Cond.lays RX8 "WayMarkerModel" "rangers" "I" ∈ wALL := wALL_of 927 (by decide +kernel) (by decide +kernel)
theorem ly_X8_maps : Cond.lays RX8 "WayMarkerModel" "maps" "I" ∈ wALL := wALL_of 929 (by decide +kernel) (by decide +kernel)
theorem ly_X8_wood : Cond.lays RX8 "WayMarkerModel" "wood" "I" ∈ wALL := wALL_of 931 (by decide +kernel) (by decide +kernel)
theorem ly_X8_day : Cond.lays RX8 "WayMarkerModel" "day" "I" ∈ wALL := wALL_of 933 (by decide +kernel) (by decide +kernel)
theorem ly_X8_isPlace : Cond.laysFinal RX8 "WayMarkerModel" "isPlace" "[Z" ∈ wALL := wALL_of 935 (by decide +kernel) (by decide +kernel)
theorem ly_X8_from : Cond.laysFinal RX8 "WayMarkerModel" "from" "[I" ∈ wALL := wALL_of 937 (by decide +kernel) (by decide +kernel)
theorem ly_X8_to : Cond.laysFinal RX8 "WayMarkerModel" "to" "[I" ∈ wALL := wALL_of 939 (by decide +kernel) (by decide +kernel)
theorem ly_X8_forth : Cond.laysFinal RX8 "WayMarkerModel" "forth" "[I" ∈ wALL := wALL_of 941 (by decide +kernel) (by decide +kernel)
theorem ly_X8_back : Cond.laysFinal RX8 "WayMarkerModel" "back" "[I" ∈ wALL := wALL_of 943 (by decide +kernel) (by decide +kernel)
theorem ly_X8_isOut : Cond.laysFinal RX8 "WayMarkerModel" "isOut" "[Z" ∈ wALL := wALL_of 945 (by decide +kernel) (by decide +kernel)
theorem ly_X8_isTaken : Cond.laysFinal RX8 "WayMarkerModel" "isTaken" "[Z" ∈ wALL := wALL_of 947 (by decide +kernel) (by decide +kernel)
theorem ly_X8_fork : Cond.laysFinal RX8 "WayMarkerModel" "fork" "[I" ∈ wALL := wALL_of 949 (by decide +kernel) (by decide +kernel)
theorem ly_X8_place : Cond.laysFinal RX8 "WayMarkerModel" "place" "[I" ∈ wALL := wALL_of 951 (by decide +kernel) (by decide +kernel)
theorem ly_X8_trail : Cond.laysFinal RX8 "WayMarkerModel" "trail" "[I" ∈ wALL := wALL_of 953 (by decide +kernel) (by decide +kernel)
theorem ly_X8_told : Cond.laysFinal RX8 "WayMarkerModel" "told" "[I" ∈ wALL := wALL_of 955 (by decide +kernel) (by decide +kernel)
theorem ly_X8_isCovered : Cond.laysFinal RX8 "WayMarkerModel" "isCovered" "[Z" ∈ wALL := wALL_of 957 (by decide +kernel) (by decide +kernel)
theorem ly_X8_said : Cond.laysFinal RX8 "WayMarkerModel" "said" "[I" ∈ wALL := wALL_of 959 (by decide +kernel) (by decide +kernel)
theorem ly_X8_trust : Cond.laysFinal RX8 "WayMarkerModel" "trust" "[I" ∈ wALL := wALL_of 961 (by decide +kernel) (by decide +kernel)
theorem ly_X8_kind : Cond.laysFinal RX8 "WayMarkerModel" "kind" "[C" ∈ wALL := wALL_of 963 (by decide +kernel) (by decide +kernel)
theorem ly_X8_number : Cond.laysFinal RX8 "WayMarkerModel" "number" "[I" ∈ wALL := wALL_of 965 (by decide +kernel) (by decide +kernel)
theorem ly_X8_dangers : Cond.laysFinal RX8 "WayMarkerModel" "dangers" "[I" ∈ wALL := wALL_of 967 (by decide +kernel) (by decide +kernel)
theorem ly_X8_doneBy : Cond.laysFinal RX8 "WayMarkerModel" "doneBy" "[I" ∈ wALL := wALL_of 969 (by decide +kernel) (by decide +kernel)
theorem ly_X8_at : Cond.laysFinal RX8 "WayMarkerModel" "at" "[I" ∈ wALL := wALL_of 971 (by decide +kernel) (by decide +kernel)
theorem ly_X8_tools : Cond.laysFinal RX8 "WayMarkerModel" "tools" "[I" ∈ wALL := wALL_of 973 (by decide +kernel) (by decide +kernel)
theorem ly_X8_worked : Cond.laysFinal RX8 "WayMarkerModel" "worked" "[I" ∈ wALL := wALL_of 975 (by decide +kernel) (by decide +kernel)
theorem ly_X8_map : Cond.laysFinal RX8 "WayMarkerModel" "map" "[Z" ∈ wALL := wALL_of 977 (by decide +kernel) (by decide +kernel)
theorem ly_X8_printed : Cond.laysFinal RX8 "WayMarkerModel" "printed" "[I" ∈ wALL := wALL_of 979 (by decide +kernel) (by decide +kernel)
theorem ly_X8_far : Cond.laysFinal RX8 "WayMarkerModel" "far" "[I" ∈ wALL := wALL_of 981 (by decide +kernel) (by decide +kernel)
theorem ly_X8_left : Cond.lays RX8 "WayMarkerModel" "left" "I" ∈ wALL := wALL_of 983 (by decide +kernel) (by decide +kernel)
theorem ml_L_130 : Cond.methodLink RL 130 yX8_thrown ∈ wALL := wALL_of 986 (by decide +kernel) (by decide +kernel)
theorem im_X8_thrown : Cond.instanceMethod yX8_thrown ∈ wALL := wALL_of 987 (by decide +kernel) (by decide +kernel)
theorem se_X8_thrown : Cond.selects RX8 yX8_thrown yX8_thrown ∈ wALL := wALL_of 988 (by decide +kernel) (by decide +kernel)
theorem co_X8_thrown : Cond.code yX8_thrown cX8_thrown 1 (Option.some Jvm.ClassFile.FieldType.int) ∈ wALL := wALL_of 989 (by decide +kernel) (by decide +kernel)
theorem ml_L_129 : Cond.methodLink RL 129 yX8_addFork ∈ wALL := wALL_of 990 (by decide +kernel) (by decide +kernel)
theorem im_X8_addFork : Cond.instanceMethod yX8_addFork ∈ wALL := wALL_of 991 (by decide +kernel) (by decide +kernel)
theorem se_X8_addFork : Cond.selects RX8 yX8_addFork yX8_addFork ∈ wALL := wALL_of 992 (by decide +kernel) (by decide +kernel)
theorem co_X8_addFork : Cond.code yX8_addFork cX8_addFork 2 (Option.some Jvm.ClassFile.FieldType.int) ∈ wALL := wALL_of 993 (by decide +kernel) (by decide +kernel)
theorem ml_X8_110 : Cond.methodLink RX8 110 yX8_fails ∈ wALL := wALL_of 994 (by decide +kernel) (by decide +kernel)
theorem im_X8_fails : Cond.instanceMethod yX8_fails ∈ wALL := wALL_of 996 (by decide +kernel) (by decide +kernel)
theorem co_X8_fails : Cond.code yX8_fails cX8_fails 2 (Option.some Jvm.ClassFile.FieldType.int) ∈ wALL := wALL_of 997 (by decide +kernel) (by decide +kernel)
theorem ml_X8_114 : Cond.methodLink RX8 114 yX8_tells ∈ wALL := wALL_of 998 (by decide +kernel) (by decide +kernel)
theorem im_X8_tells : Cond.instanceMethod yX8_tells ∈ wALL := wALL_of 1000 (by decide +kernel) (by decide +kernel)
theorem co_X8_tells : Cond.code yX8_tells cX8_tells 2 (Option.some Jvm.ClassFile.FieldType.int) ∈ wALL := wALL_of 1001 (by decide +kernel) (by decide +kernel)
theorem ml_L_136 : Cond.methodLink RL 136 yX8_addTrail ∈ wALL := wALL_of 1002 (by decide +kernel) (by decide +kernel)
theorem im_X8_addTrail : Cond.instanceMethod yX8_addTrail ∈ wALL := wALL_of 1003 (by decide +kernel) (by decide +kernel)
theorem se_X8_addTrail : Cond.selects RX8 yX8_addTrail yX8_addTrail ∈ wALL := wALL_of 1004 (by decide +kernel) (by decide +kernel)
theorem co_X8_addTrail : Cond.code yX8_addTrail cX8_addTrail 5 (Option.some Jvm.ClassFile.FieldType.int) ∈ wALL := wALL_of 1005 (by decide +kernel) (by decide +kernel)
theorem ml_X8_117 : Cond.methodLink RX8 117 yX8_isFork ∈ wALL := wALL_of 1006 (by decide +kernel) (by decide +kernel)
theorem im_X8_isFork : Cond.instanceMethod yX8_isFork ∈ wALL := wALL_of 1008 (by decide +kernel) (by decide +kernel)
theorem co_X8_isFork : Cond.code yX8_isFork cX8_isFork 2 (Option.some Jvm.ClassFile.FieldType.boolean) ∈ wALL := wALL_of 1009 (by decide +kernel) (by decide +kernel)
theorem ml_X8_94 : Cond.methodLink RX8 94 yX8_in ∈ wALL := wALL_of 1010 (by decide +kernel) (by decide +kernel)
theorem im_X8_in : Cond.instanceMethod yX8_in ∈ wALL := wALL_of 1012 (by decide +kernel) (by decide +kernel)
theorem co_X8_in : Cond.code yX8_in cX8_in 4 (Option.some Jvm.ClassFile.FieldType.boolean) ∈ wALL := wALL_of 1013 (by decide +kernel) (by decide +kernel)
theorem ml_L_140 : Cond.methodLink RL 140 yX8_washOut ∈ wALL := wALL_of 1014 (by decide +kernel) (by decide +kernel)
theorem im_X8_washOut : Cond.instanceMethod yX8_washOut ∈ wALL := wALL_of 1015 (by decide +kernel) (by decide +kernel)
theorem se_X8_washOut : Cond.selects RX8 yX8_washOut yX8_washOut ∈ wALL := wALL_of 1016 (by decide +kernel) (by decide +kernel)
theorem co_X8_washOut : Cond.code yX8_washOut cX8_washOut 3 (Option.some Jvm.ClassFile.FieldType.boolean) ∈ wALL := wALL_of 1017 (by decide +kernel) (by decide +kernel)
theorem ml_X8_121 : Cond.methodLink RX8 121 yX8_isTrail ∈ wALL := wALL_of 1018 (by decide +kernel) (by decide +kernel)
theorem im_X8_isTrail : Cond.instanceMethod yX8_isTrail ∈ wALL := wALL_of 1020 (by decide +kernel) (by decide +kernel)
theorem co_X8_isTrail : Cond.code yX8_isTrail cX8_isTrail 2 (Option.some Jvm.ClassFile.FieldType.boolean) ∈ wALL := wALL_of 1021 (by decide +kernel) (by decide +kernel)
theorem ml_L_144 : Cond.methodLink RL 144 yX8_isGone ∈ wALL := wALL_of 1022 (by decide +kernel) (by decide +kernel)
theorem im_X8_isGone : Cond.instanceMethod yX8_isGone ∈ wALL := wALL_of 1023 (by decide +kernel) (by decide +kernel)
theorem se_X8_isGone : Cond.selects RX8 yX8_isGone yX8_isGone ∈ wALL := wALL_of 1024 (by decide +kernel) (by decide +kernel)
theorem co_X8_isGone : Cond.code yX8_isGone cX8_isGone 3 (Option.some Jvm.ClassFile.FieldType.boolean) ∈ wALL := wALL_of 1025 (by decide +kernel) (by decide +kernel)
theorem ml_X8_124 : Cond.methodLink RX8 124 yX8_isShut ∈ wALL := wALL_of 1026 (by decide +kernel) (by decide +kernel)
theorem im_X8_isShut : Cond.instanceMethod yX8_isShut ∈ wALL := wALL_of 1028 (by decide +kernel) (by decide +kernel)
theorem co_X8_isShut : Cond.code yX8_isShut cX8_isShut 3 (Option.some Jvm.ClassFile.FieldType.boolean) ∈ wALL := wALL_of 1029 (by decide +kernel) (by decide +kernel)
theorem ml_L_148 : Cond.methodLink RL 148 yX8_minutes ∈ wALL := wALL_of 1030 (by decide +kernel) (by decide +kernel)
theorem im_X8_minutes : Cond.instanceMethod yX8_minutes ∈ wALL := wALL_of 1031 (by decide +kernel) (by decide +kernel)
theorem se_X8_minutes : Cond.selects RX8 yX8_minutes yX8_minutes ∈ wALL := wALL_of 1032 (by decide +kernel) (by decide +kernel)
theorem co_X8_minutes : Cond.code yX8_minutes cX8_minutes 5 (Option.some Jvm.ClassFile.FieldType.int) ∈ wALL := wALL_of 1033 (by decide +kernel) (by decide +kernel)
theorem ml_X8_143 : Cond.methodLink RX8 143 yX8_way ∈ wALL := wALL_of 1034 (by decide +kernel) (by decide +kernel)
theorem im_X8_way : Cond.instanceMethod yX8_way ∈ wALL := wALL_of 1036 (by decide +kernel) (by decide +kernel)
theorem co_X8_way : Cond.code yX8_way cX8_way 4 (Option.some Jvm.ClassFile.FieldType.int) ∈ wALL := wALL_of 1037 (by decide +kernel) (by decide +kernel)
theorem ml_X8_133 : Cond.methodLink RX8 133 yX8_reckons ∈ wALL := wALL_of 1038 (by decide +kernel) (by decide +kernel)
theorem im_X8_reckons : Cond.instanceMethod yX8_reckons ∈ wALL := wALL_of 1040 (by decide +kernel) (by decide +kernel)
theorem co_X8_reckons : Cond.code yX8_reckons cX8_reckons 5 none ∈ wALL := wALL_of 1041 (by decide +kernel) (by decide +kernel)
theorem kc_X8_128 : Cond.constant RX8 128 (1000000 : Int32) ∈ wALL := wALL_of 1042 (by decide +kernel) (by decide +kernel)
theorem ml_X8_129 : Cond.methodLink RX8 129 yX8_least ∈ wALL := wALL_of 1043 (by decide +kernel) (by decide +kernel)
theorem im_X8_least : Cond.instanceMethod yX8_least ∈ wALL := wALL_of 1045 (by decide +kernel) (by decide +kernel)
theorem co_X8_least : Cond.code yX8_least cX8_least 3 (Option.some Jvm.ClassFile.FieldType.int) ∈ wALL := wALL_of 1046 (by decide +kernel) (by decide +kernel)
theorem ml_L_152 : Cond.methodLink RL 152 yX8_firstTrail ∈ wALL := wALL_of 1047 (by decide +kernel) (by decide +kernel)
theorem im_X8_firstTrail : Cond.instanceMethod yX8_firstTrail ∈ wALL := wALL_of 1048 (by decide +kernel) (by decide +kernel)
theorem se_X8_firstTrail : Cond.selects RX8 yX8_firstTrail yX8_firstTrail ∈ wALL := wALL_of 1049 (by decide +kernel) (by decide +kernel)
theorem co_X8_firstTrail : Cond.code yX8_firstTrail cX8_firstTrail 4 (Option.some Jvm.ClassFile.FieldType.int) ∈ wALL := wALL_of 1050 (by decide +kernel) (by decide +kernel)
theorem ml_X8_147 : Cond.methodLink RX8 147 yX8_next ∈ wALL := wALL_of 1051 (by decide +kernel) (by decide +kernel)
theorem im_X8_next : Cond.instanceMethod yX8_next ∈ wALL := wALL_of 1053 (by decide +kernel) (by decide +kernel)
theorem co_X8_next : Cond.code yX8_next cX8_next 4 (Option.some Jvm.ClassFile.FieldType.int) ∈ wALL := wALL_of 1054 (by decide +kernel) (by decide +kernel)
theorem ml_X8_137 : Cond.methodLink RX8 137 yX8_of ∈ wALL := wALL_of 1055 (by decide +kernel) (by decide +kernel)
theorem im_X8_of : Cond.instanceMethod yX8_of ∈ wALL := wALL_of 1057 (by decide +kernel) (by decide +kernel)
theorem co_X8_of : Cond.code yX8_of cX8_of 3 (Option.some Jvm.ClassFile.FieldType.int) ∈ wALL := wALL_of 1058 (by decide +kernel) (by decide +kernel)
theorem ml_X8_140 : Cond.methodLink RX8 140 yX8_other ∈ wALL := wALL_of 1059 (by decide +kernel) (by decide +kernel)
theorem im_X8_other : Cond.instanceMethod yX8_other ∈ wALL := wALL_of 1061 (by decide +kernel) (by decide +kernel)
theorem co_X8_other : Cond.code yX8_other cX8_other 3 (Option.some Jvm.ClassFile.FieldType.int) ∈ wALL := wALL_of 1062 (by decide +kernel) (by decide +kernel)
theorem ml_L_155 : Cond.methodLink RL 155 yX8_addWood ∈ wALL := wALL_of 1063 (by decide +kernel) (by decide +kernel)
theorem im_X8_addWood : Cond.instanceMethod yX8_addWood ∈ wALL := wALL_of 1064 (by decide +kernel) (by decide +kernel)
theorem se_X8_addWood : Cond.selects RX8 yX8_addWood yX8_addWood ∈ wALL := wALL_of 1065 (by decide +kernel) (by decide +kernel)
theorem co_X8_addWood : Cond.code yX8_addWood cX8_addWood 2 (Option.some Jvm.ClassFile.FieldType.int) ∈ wALL := wALL_of 1066 (by decide +kernel) (by decide +kernel)
theorem ml_L_158 : Cond.methodLink RL 158 yX8_cut ∈ wALL := wALL_of 1067 (by decide +kernel) (by decide +kernel)
theorem im_X8_cut : Cond.instanceMethod yX8_cut ∈ wALL := wALL_of 1068 (by decide +kernel) (by decide +kernel)
theorem se_X8_cut : Cond.selects RX8 yX8_cut yX8_cut ∈ wALL := wALL_of 1069 (by decide +kernel) (by decide +kernel)
theorem co_X8_cut : Cond.code yX8_cut cX8_cut 3 (Option.some Jvm.ClassFile.FieldType.int) ∈ wALL := wALL_of 1070 (by decide +kernel) (by decide +kernel)
theorem ml_X8_150 : Cond.methodLink RX8 150 yX8_canBeCut ∈ wALL := wALL_of 1071 (by decide +kernel) (by decide +kernel)
theorem im_X8_canBeCut : Cond.instanceMethod yX8_canBeCut ∈ wALL := wALL_of 1073 (by decide +kernel) (by decide +kernel)
theorem co_X8_canBeCut : Cond.code yX8_canBeCut cX8_canBeCut 3 (Option.some Jvm.ClassFile.FieldType.boolean) ∈ wALL := wALL_of 1074 (by decide +kernel) (by decide +kernel)
theorem ml_X8_154 : Cond.methodLink RX8 154 yX8_cuts ∈ wALL := wALL_of 1075 (by decide +kernel) (by decide +kernel)
theorem im_X8_cuts : Cond.instanceMethod yX8_cuts ∈ wALL := wALL_of 1077 (by decide +kernel) (by decide +kernel)
theorem co_X8_cuts : Cond.code yX8_cuts cX8_cuts 4 none ∈ wALL := wALL_of 1078 (by decide +kernel) (by decide +kernel)
theorem ml_L_161 : Cond.methodLink RL 161 yX8_trailOf ∈ wALL := wALL_of 1079 (by decide +kernel) (by decide +kernel)
theorem im_X8_trailOf : Cond.instanceMethod yX8_trailOf ∈ wALL := wALL_of 1080 (by decide +kernel) (by decide +kernel)
theorem se_X8_trailOf : Cond.selects RX8 yX8_trailOf yX8_trailOf ∈ wALL := wALL_of 1081 (by decide +kernel) (by decide +kernel)
theorem co_X8_trailOf : Cond.code yX8_trailOf cX8_trailOf 2 (Option.some Jvm.ClassFile.FieldType.int) ∈ wALL := wALL_of 1082 (by decide +kernel) (by decide +kernel)
theorem ml_X8_158 : Cond.methodLink RX8 158 yX8_isBoard ∈ wALL := wALL_of 1083 (by decide +kernel) (by decide +kernel)
theorem im_X8_isBoard : Cond.instanceMethod yX8_isBoard ∈ wALL := wALL_of 1085 (by decide +kernel) (by decide +kernel)
theorem co_X8_isBoard : Cond.code yX8_isBoard cX8_isBoard 2 (Option.some Jvm.ClassFile.FieldType.boolean) ∈ wALL := wALL_of 1086 (by decide +kernel) (by decide +kernel)
theorem ml_L_164 : Cond.methodLink RL 164 yX8_told ∈ wALL := wALL_of 1087 (by decide +kernel) (by decide +kernel)
theorem im_X8_told : Cond.instanceMethod yX8_told ∈ wALL := wALL_of 1088 (by decide +kernel) (by decide +kernel)
theorem se_X8_told : Cond.selects RX8 yX8_told yX8_told ∈ wALL := wALL_of 1089 (by decide +kernel) (by decide +kernel)
theorem co_X8_told : Cond.code yX8_told cX8_told 2 (Option.some Jvm.ClassFile.FieldType.int) ∈ wALL := wALL_of 1090 (by decide +kernel) (by decide +kernel)
theorem ml_L_167 : Cond.methodLink RL 167 yX8_isCovered ∈ wALL := wALL_of 1091 (by decide +kernel) (by decide +kernel)
theorem im_X8_isCovered : Cond.instanceMethod yX8_isCovered ∈ wALL := wALL_of 1092 (by decide +kernel) (by decide +kernel)
theorem se_X8_isCovered : Cond.selects RX8 yX8_isCovered yX8_isCovered ∈ wALL := wALL_of 1093 (by decide +kernel) (by decide +kernel)
theorem co_X8_isCovered : Cond.code yX8_isCovered cX8_isCovered 2 (Option.some Jvm.ClassFile.FieldType.boolean) ∈ wALL := wALL_of 1094 (by decide +kernel) (by decide +kernel)
theorem ml_L_170 : Cond.methodLink RL 170 yX8_danger ∈ wALL := wALL_of 1095 (by decide +kernel) (by decide +kernel)
theorem im_X8_danger : Cond.instanceMethod yX8_danger ∈ wALL := wALL_of 1096 (by decide +kernel) (by decide +kernel)
theorem se_X8_danger : Cond.selects RX8 yX8_danger yX8_danger ∈ wALL := wALL_of 1097 (by decide +kernel) (by decide +kernel)
theorem co_X8_danger : Cond.code yX8_danger cX8_danger 3 (Option.some Jvm.ClassFile.FieldType.int) ∈ wALL := wALL_of 1098 (by decide +kernel) (by decide +kernel)
theorem ml_X8_161 : Cond.methodLink RX8 161 yX8_dangerOf ∈ wALL := wALL_of 1099 (by decide +kernel) (by decide +kernel)
theorem im_X8_dangerOf : Cond.instanceMethod yX8_dangerOf ∈ wALL := wALL_of 1101 (by decide +kernel) (by decide +kernel)
theorem co_X8_dangerOf : Cond.code yX8_dangerOf cX8_dangerOf 6 (Option.some Jvm.ClassFile.FieldType.int) ∈ wALL := wALL_of 1102 (by decide +kernel) (by decide +kernel)
theorem ml_L_174 : Cond.methodLink RL 174 yX8_unsafe ∈ wALL := wALL_of 1103 (by decide +kernel) (by decide +kernel)
theorem im_X8_unsafe : Cond.instanceMethod yX8_unsafe ∈ wALL := wALL_of 1104 (by decide +kernel) (by decide +kernel)
theorem se_X8_unsafe : Cond.selects RX8 yX8_unsafe yX8_unsafe ∈ wALL := wALL_of 1105 (by decide +kernel) (by decide +kernel)
theorem co_X8_unsafe : Cond.code yX8_unsafe cX8_unsafe 4 (Option.some Jvm.ClassFile.FieldType.int) ∈ wALL := wALL_of 1106 (by decide +kernel) (by decide +kernel)
theorem ml_L_177 : Cond.methodLink RL 177 yX8_report ∈ wALL := wALL_of 1107 (by decide +kernel) (by decide +kernel)
theorem im_X8_report : Cond.instanceMethod yX8_report ∈ wALL := wALL_of 1108 (by decide +kernel) (by decide +kernel)
theorem se_X8_report : Cond.selects RX8 yX8_report yX8_report ∈ wALL := wALL_of 1109 (by decide +kernel) (by decide +kernel)
theorem co_X8_report : Cond.code yX8_report cX8_report 8 (Option.some Jvm.ClassFile.FieldType.boolean) ∈ wALL := wALL_of 1110 (by decide +kernel) (by decide +kernel)
theorem ml_L_180 : Cond.methodLink RL 180 yX8_trust ∈ wALL := wALL_of 1111 (by decide +kernel) (by decide +kernel)
theorem im_X8_trust : Cond.instanceMethod yX8_trust ∈ wALL := wALL_of 1112 (by decide +kernel) (by decide +kernel)
theorem se_X8_trust : Cond.selects RX8 yX8_trust yX8_trust ∈ wALL := wALL_of 1113 (by decide +kernel) (by decide +kernel)
theorem co_X8_trust : Cond.code yX8_trust cX8_trust 2 (Option.some Jvm.ClassFile.FieldType.int) ∈ wALL := wALL_of 1114 (by decide +kernel) (by decide +kernel)
theorem ml_L_183 : Cond.methodLink RL 183 yX8_reports ∈ wALL := wALL_of 1115 (by decide +kernel) (by decide +kernel)
theorem im_X8_reports : Cond.instanceMethod yX8_reports ∈ wALL := wALL_of 1116 (by decide +kernel) (by decide +kernel)
theorem se_X8_reports : Cond.selects RX8 yX8_reports yX8_reports ∈ wALL := wALL_of 1117 (by decide +kernel) (by decide +kernel)
theorem co_X8_reports : Cond.code yX8_reports cX8_reports 4 (Option.some Jvm.ClassFile.FieldType.int) ∈ wALL := wALL_of 1118 (by decide +kernel) (by decide +kernel)
theorem ml_L_187 : Cond.methodLink RL 187 yX8_addTask ∈ wALL := wALL_of 1119 (by decide +kernel) (by decide +kernel)
theorem im_X8_addTask : Cond.instanceMethod yX8_addTask ∈ wALL := wALL_of 1120 (by decide +kernel) (by decide +kernel)
theorem se_X8_addTask : Cond.selects RX8 yX8_addTask yX8_addTask ∈ wALL := wALL_of 1121 (by decide +kernel) (by decide +kernel)
theorem co_X8_addTask : Cond.code yX8_addTask cX8_addTask 4 (Option.some Jvm.ClassFile.FieldType.int) ∈ wALL := wALL_of 1122 (by decide +kernel) (by decide +kernel)
theorem ml_X8_165 : Cond.methodLink RX8 165 yX8_adds ∈ wALL := wALL_of 1123 (by decide +kernel) (by decide +kernel)
theorem im_X8_adds : Cond.instanceMethod yX8_adds ∈ wALL := wALL_of 1125 (by decide +kernel) (by decide +kernel)
theorem co_X8_adds : Cond.code yX8_adds cX8_adds 4 (Option.some Jvm.ClassFile.FieldType.int) ∈ wALL := wALL_of 1126 (by decide +kernel) (by decide +kernel)
theorem ml_L_191 : Cond.methodLink RL 191 yX8_plan ∈ wALL := wALL_of 1127 (by decide +kernel) (by decide +kernel)
theorem im_X8_plan : Cond.instanceMethod yX8_plan ∈ wALL := wALL_of 1128 (by decide +kernel) (by decide +kernel)
theorem se_X8_plan : Cond.selects RX8 yX8_plan yX8_plan ∈ wALL := wALL_of 1129 (by decide +kernel) (by decide +kernel)
theorem co_X8_plan : Cond.code yX8_plan cX8_plan 6 (Option.some Jvm.ClassFile.FieldType.int) ∈ wALL := wALL_of 1130 (by decide +kernel) (by decide +kernel)
theorem ml_X8_173 : Cond.methodLink RX8 173 yX8_wants ∈ wALL := wALL_of 1131 (by decide +kernel) (by decide +kernel)
theorem im_X8_wants : Cond.instanceMethod yX8_wants ∈ wALL := wALL_of 1133 (by decide +kernel) (by decide +kernel)
theorem co_X8_wants : Cond.code yX8_wants cX8_wants 3 (Option.some Jvm.ClassFile.FieldType.boolean) ∈ wALL := wALL_of 1134 (by decide +kernel) (by decide +kernel)
theorem ml_X8_169 : Cond.methodLink RX8 169 yX8_hasOpen ∈ wALL := wALL_of 1135 (by decide +kernel) (by decide +kernel)
theorem im_X8_hasOpen : Cond.instanceMethod yX8_hasOpen ∈ wALL := wALL_of 1137 (by decide +kernel) (by decide +kernel)
theorem co_X8_hasOpen : Cond.code yX8_hasOpen cX8_hasOpen 5 (Option.some Jvm.ClassFile.FieldType.boolean) ∈ wALL := wALL_of 1138 (by decide +kernel) (by decide +kernel)
theorem ml_L_194 : Cond.methodLink RL 194 yX8_kindOf ∈ wALL := wALL_of 1139 (by decide +kernel) (by decide +kernel)
theorem im_X8_kindOf : Cond.instanceMethod yX8_kindOf ∈ wALL := wALL_of 1140 (by decide +kernel) (by decide +kernel)
theorem se_X8_kindOf : Cond.selects RX8 yX8_kindOf yX8_kindOf ∈ wALL := wALL_of 1141 (by decide +kernel) (by decide +kernel)
theorem co_X8_kindOf : Cond.code yX8_kindOf cX8_kindOf 2 (Option.some Jvm.ClassFile.FieldType.char) ∈ wALL := wALL_of 1142 (by decide +kernel) (by decide +kernel)
theorem ml_X8_176 : Cond.methodLink RX8 176 yX8_isTask ∈ wALL := wALL_of 1143 (by decide +kernel) (by decide +kernel)
theorem im_X8_isTask : Cond.instanceMethod yX8_isTask ∈ wALL := wALL_of 1145 (by decide +kernel) (by decide +kernel)
theorem co_X8_isTask : Cond.code yX8_isTask cX8_isTask 2 (Option.some Jvm.ClassFile.FieldType.boolean) ∈ wALL := wALL_of 1146 (by decide +kernel) (by decide +kernel)
theorem ml_L_197 : Cond.methodLink RL 197 yX8_numberOf ∈ wALL := wALL_of 1147 (by decide +kernel) (by decide +kernel)
theorem im_X8_numberOf : Cond.instanceMethod yX8_numberOf ∈ wALL := wALL_of 1148 (by decide +kernel) (by decide +kernel)
theorem se_X8_numberOf : Cond.selects RX8 yX8_numberOf yX8_numberOf ∈ wALL := wALL_of 1149 (by decide +kernel) (by decide +kernel)
theorem co_X8_numberOf : Cond.code yX8_numberOf cX8_numberOf 2 (Option.some Jvm.ClassFile.FieldType.int) ∈ wALL := wALL_of 1150 (by decide +kernel) (by decide +kernel)
theorem ml_L_200 : Cond.methodLink RL 200 yX8_doneBy ∈ wALL := wALL_of 1151 (by decide +kernel) (by decide +kernel)
theorem im_X8_doneBy : Cond.instanceMethod yX8_doneBy ∈ wALL := wALL_of 1152 (by decide +kernel) (by decide +kernel)
theorem se_X8_doneBy : Cond.selects RX8 yX8_doneBy yX8_doneBy ∈ wALL := wALL_of 1153 (by decide +kernel) (by decide +kernel)
theorem co_X8_doneBy : Cond.code yX8_doneBy cX8_doneBy 2 (Option.some Jvm.ClassFile.FieldType.int) ∈ wALL := wALL_of 1154 (by decide +kernel) (by decide +kernel)
theorem ml_L_204 : Cond.methodLink RL 204 yX8_openTasks ∈ wALL := wALL_of 1155 (by decide +kernel) (by decide +kernel)
theorem im_X8_openTasks : Cond.instanceMethod yX8_openTasks ∈ wALL := wALL_of 1156 (by decide +kernel) (by decide +kernel)
theorem se_X8_openTasks : Cond.selects RX8 yX8_openTasks yX8_openTasks ∈ wALL := wALL_of 1157 (by decide +kernel) (by decide +kernel)
theorem co_X8_openTasks : Cond.code yX8_openTasks cX8_openTasks 3 (Option.some Jvm.ClassFile.FieldType.int) ∈ wALL := wALL_of 1158 (by decide +kernel) (by decide +kernel)
theorem ml_L_207 : Cond.methodLink RL 207 yX8_addRanger ∈ wALL := wALL_of 1159 (by decide +kernel) (by decide +kernel)
theorem im_X8_addRanger : Cond.instanceMethod yX8_addRanger ∈ wALL := wALL_of 1160 (by decide +kernel) (by decide +kernel)
theorem se_X8_addRanger : Cond.selects RX8 yX8_addRanger yX8_addRanger ∈ wALL := wALL_of 1161 (by decide +kernel) (by decide +kernel)
theorem co_X8_addRanger : Cond.code yX8_addRanger cX8_addRanger 3 (Option.some Jvm.ClassFile.FieldType.int) ∈ wALL := wALL_of 1162 (by decide +kernel) (by decide +kernel)
theorem ml_L_210 : Cond.methodLink RL 210 yX8_forkOf ∈ wALL := wALL_of 1163 (by decide +kernel) (by decide +kernel)
theorem im_X8_forkOf : Cond.instanceMethod yX8_forkOf ∈ wALL := wALL_of 1164 (by decide +kernel) (by decide +kernel)
theorem se_X8_forkOf : Cond.selects RX8 yX8_forkOf yX8_forkOf ∈ wALL := wALL_of 1165 (by decide +kernel) (by decide +kernel)
theorem co_X8_forkOf : Cond.code yX8_forkOf cX8_forkOf 2 (Option.some Jvm.ClassFile.FieldType.int) ∈ wALL := wALL_of 1166 (by decide +kernel) (by decide +kernel)
theorem ml_X8_179 : Cond.methodLink RX8 179 yX8_isRanger ∈ wALL := wALL_of 1167 (by decide +kernel) (by decide +kernel)
theorem im_X8_isRanger : Cond.instanceMethod yX8_isRanger ∈ wALL := wALL_of 1169 (by decide +kernel) (by decide +kernel)
theorem co_X8_isRanger : Cond.code yX8_isRanger cX8_isRanger 2 (Option.some Jvm.ClassFile.FieldType.boolean) ∈ wALL := wALL_of 1170 (by decide +kernel) (by decide +kernel)
theorem ml_L_213 : Cond.methodLink RL 213 yX8_worked ∈ wALL := wALL_of 1171 (by decide +kernel) (by decide +kernel)
theorem im_X8_worked : Cond.instanceMethod yX8_worked ∈ wALL := wALL_of 1172 (by decide +kernel) (by decide +kernel)
theorem se_X8_worked : Cond.selects RX8 yX8_worked yX8_worked ∈ wALL := wALL_of 1173 (by decide +kernel) (by decide +kernel)
theorem co_X8_worked : Cond.code yX8_worked cX8_worked 2 (Option.some Jvm.ClassFile.FieldType.int) ∈ wALL := wALL_of 1174 (by decide +kernel) (by decide +kernel)
theorem ml_L_217 : Cond.methodLink RL 217 yX8_day ∈ wALL := wALL_of 1175 (by decide +kernel) (by decide +kernel)
theorem im_X8_day : Cond.instanceMethod yX8_day ∈ wALL := wALL_of 1176 (by decide +kernel) (by decide +kernel)
theorem se_X8_day : Cond.selects RX8 yX8_day yX8_day ∈ wALL := wALL_of 1177 (by decide +kernel) (by decide +kernel)
theorem co_X8_day : Cond.code yX8_day cX8_day 4 (Option.some Jvm.ClassFile.FieldType.int) ∈ wALL := wALL_of 1178 (by decide +kernel) (by decide +kernel)
theorem ml_X8_207 : Cond.methodLink RX8 207 yX8_chosen ∈ wALL := wALL_of 1179 (by decide +kernel) (by decide +kernel)
theorem im_X8_chosen : Cond.instanceMethod yX8_chosen ∈ wALL := wALL_of 1181 (by decide +kernel) (by decide +kernel)
theorem co_X8_chosen : Cond.code yX8_chosen cX8_chosen 4 (Option.some Jvm.ClassFile.FieldType.int) ∈ wALL := wALL_of 1182 (by decide +kernel) (by decide +kernel)
theorem ml_X8_191 : Cond.methodLink RX8 191 yX8_hasTool ∈ wALL := wALL_of 1183 (by decide +kernel) (by decide +kernel)
theorem im_X8_hasTool : Cond.instanceMethod yX8_hasTool ∈ wALL := wALL_of 1185 (by decide +kernel) (by decide +kernel)
theorem co_X8_hasTool : Cond.code yX8_hasTool cX8_hasTool 3 (Option.some Jvm.ClassFile.FieldType.boolean) ∈ wALL := wALL_of 1186 (by decide +kernel) (by decide +kernel)
theorem ml_X8_194 : Cond.methodLink RX8 194 yX8_canBeDone ∈ wALL := wALL_of 1187 (by decide +kernel) (by decide +kernel)
theorem im_X8_canBeDone : Cond.instanceMethod yX8_canBeDone ∈ wALL := wALL_of 1189 (by decide +kernel) (by decide +kernel)
theorem co_X8_canBeDone : Cond.code yX8_canBeDone cX8_canBeDone 3 (Option.some Jvm.ClassFile.FieldType.boolean) ∈ wALL := wALL_of 1190 (by decide +kernel) (by decide +kernel)
theorem ml_X8_197 : Cond.methodLink RX8 197 yX8_isInTime ∈ wALL := wALL_of 1191 (by decide +kernel) (by decide +kernel)
theorem im_X8_isInTime : Cond.instanceMethod yX8_isInTime ∈ wALL := wALL_of 1193 (by decide +kernel) (by decide +kernel)
theorem co_X8_isInTime : Cond.code yX8_isInTime cX8_isInTime 3 (Option.some Jvm.ClassFile.FieldType.boolean) ∈ wALL := wALL_of 1194 (by decide +kernel) (by decide +kernel)
theorem ml_X8_182 : Cond.methodLink RX8 182 yX8_placeOf ∈ wALL := wALL_of 1195 (by decide +kernel) (by decide +kernel)
theorem im_X8_placeOf : Cond.instanceMethod yX8_placeOf ∈ wALL := wALL_of 1197 (by decide +kernel) (by decide +kernel)
theorem co_X8_placeOf : Cond.code yX8_placeOf cX8_placeOf 2 (Option.some Jvm.ClassFile.FieldType.int) ∈ wALL := wALL_of 1198 (by decide +kernel) (by decide +kernel)
theorem ml_X8_185 : Cond.methodLink RX8 185 yX8_timeOf ∈ wALL := wALL_of 1199 (by decide +kernel) (by decide +kernel)
theorem im_X8_timeOf : Cond.instanceMethod yX8_timeOf ∈ wALL := wALL_of 1201 (by decide +kernel) (by decide +kernel)
theorem co_X8_timeOf : Cond.code yX8_timeOf cX8_timeOf 2 (Option.some Jvm.ClassFile.FieldType.int) ∈ wALL := wALL_of 1202 (by decide +kernel) (by decide +kernel)
theorem ml_X8_210 : Cond.methodLink RX8 210 yX8_comes ∈ wALL := wALL_of 1203 (by decide +kernel) (by decide +kernel)
theorem im_X8_comes : Cond.instanceMethod yX8_comes ∈ wALL := wALL_of 1205 (by decide +kernel) (by decide +kernel)
theorem co_X8_comes : Cond.code yX8_comes cX8_comes 6 (Option.some Jvm.ClassFile.FieldType.boolean) ∈ wALL := wALL_of 1206 (by decide +kernel) (by decide +kernel)
theorem ml_X8_200 : Cond.methodLink RX8 200 yX8_sees ∈ wALL := wALL_of 1207 (by decide +kernel) (by decide +kernel)
theorem im_X8_sees : Cond.instanceMethod yX8_sees ∈ wALL := wALL_of 1209 (by decide +kernel) (by decide +kernel)
theorem co_X8_sees : Cond.code yX8_sees cX8_sees 4 none ∈ wALL := wALL_of 1210 (by decide +kernel) (by decide +kernel)
theorem ml_X8_213 : Cond.methodLink RX8 213 yX8_does ∈ wALL := wALL_of 1211 (by decide +kernel) (by decide +kernel)
theorem im_X8_does : Cond.instanceMethod yX8_does ∈ wALL := wALL_of 1213 (by decide +kernel) (by decide +kernel)
theorem co_X8_does : Cond.code yX8_does cX8_does 4 none ∈ wALL := wALL_of 1214 (by decide +kernel) (by decide +kernel)
theorem ml_L_220 : Cond.methodLink RL 220 yX8_print ∈ wALL := wALL_of 1215 (by decide +kernel) (by decide +kernel)
theorem im_X8_print : Cond.instanceMethod yX8_print ∈ wALL := wALL_of 1216 (by decide +kernel) (by decide +kernel)
theorem se_X8_print : Cond.selects RX8 yX8_print yX8_print ∈ wALL := wALL_of 1217 (by decide +kernel) (by decide +kernel)
theorem co_X8_print : Cond.code yX8_print cX8_print 2 (Option.some Jvm.ClassFile.FieldType.int) ∈ wALL := wALL_of 1218 (by decide +kernel) (by decide +kernel)
theorem ml_L_223 : Cond.methodLink RL 223 yX8_shows ∈ wALL := wALL_of 1219 (by decide +kernel) (by decide +kernel)
theorem im_X8_shows : Cond.instanceMethod yX8_shows ∈ wALL := wALL_of 1220 (by decide +kernel) (by decide +kernel)
theorem se_X8_shows : Cond.selects RX8 yX8_shows yX8_shows ∈ wALL := wALL_of 1221 (by decide +kernel) (by decide +kernel)
theorem co_X8_shows : Cond.code yX8_shows cX8_shows 3 (Option.some Jvm.ClassFile.FieldType.boolean) ∈ wALL := wALL_of 1222 (by decide +kernel) (by decide +kernel)
theorem ml_X8_220 : Cond.methodLink RX8 220 yX8_isMap ∈ wALL := wALL_of 1223 (by decide +kernel) (by decide +kernel)
theorem im_X8_isMap : Cond.instanceMethod yX8_isMap ∈ wALL := wALL_of 1225 (by decide +kernel) (by decide +kernel)
theorem co_X8_isMap : Cond.code yX8_isMap cX8_isMap 2 (Option.some Jvm.ClassFile.FieldType.boolean) ∈ wALL := wALL_of 1226 (by decide +kernel) (by decide +kernel)
theorem ml_L_226 : Cond.methodLink RL 226 yX8_age ∈ wALL := wALL_of 1227 (by decide +kernel) (by decide +kernel)
theorem im_X8_age : Cond.instanceMethod yX8_age ∈ wALL := wALL_of 1228 (by decide +kernel) (by decide +kernel)
theorem se_X8_age : Cond.selects RX8 yX8_age yX8_age ∈ wALL := wALL_of 1229 (by decide +kernel) (by decide +kernel)
theorem co_X8_age : Cond.code yX8_age cX8_age 2 (Option.some Jvm.ClassFile.FieldType.int) ∈ wALL := wALL_of 1230 (by decide +kernel) (by decide +kernel)
theorem ml_L_230 : Cond.methodLink RL 230 yX8_knownShare ∈ wALL := wALL_of 1231 (by decide +kernel) (by decide +kernel)
theorem im_X8_knownShare : Cond.instanceMethod yX8_knownShare ∈ wALL := wALL_of 1232 (by decide +kernel) (by decide +kernel)
theorem se_X8_knownShare : Cond.selects RX8 yX8_knownShare yX8_knownShare ∈ wALL := wALL_of 1233 (by decide +kernel) (by decide +kernel)
theorem co_X8_knownShare : Cond.code yX8_knownShare cX8_knownShare 3 (Option.some Jvm.ClassFile.FieldType.float) ∈ wALL := wALL_of 1234 (by decide +kernel) (by decide +kernel)
theorem ml_L_233 : Cond.methodLink RL 233 yX8_meanDanger ∈ wALL := wALL_of 1235 (by decide +kernel) (by decide +kernel)
theorem im_X8_meanDanger : Cond.instanceMethod yX8_meanDanger ∈ wALL := wALL_of 1236 (by decide +kernel) (by decide +kernel)
theorem se_X8_meanDanger : Cond.selects RX8 yX8_meanDanger yX8_meanDanger ∈ wALL := wALL_of 1237 (by decide +kernel) (by decide +kernel)
theorem co_X8_meanDanger : Cond.code yX8_meanDanger cX8_meanDanger 3 (Option.some Jvm.ClassFile.FieldType.double) ∈ wALL := wALL_of 1238 (by decide +kernel) (by decide +kernel)
theorem ml_L_238 : Cond.methodLink RL 238 yX8_isSound ∈ wALL := wALL_of 1239 (by decide +kernel) (by decide +kernel)
theorem im_X8_isSound : Cond.instanceMethod yX8_isSound ∈ wALL := wALL_of 1240 (by decide +kernel) (by decide +kernel)
theorem se_X8_isSound : Cond.selects RX8 yX8_isSound yX8_isSound ∈ wALL := wALL_of 1241 (by decide +kernel) (by decide +kernel)
theorem co_X8_isSound : Cond.code yX8_isSound cX8_isSound 1 (Option.some Jvm.ClassFile.FieldType.boolean) ∈ wALL := wALL_of 1242 (by decide +kernel) (by decide +kernel)
theorem ac_long : Cond.arrayClass Jvm.ClassFile.FieldType.long ∈ wALL := wALL_of 1243 (by decide +kernel) (by decide +kernel)
theorem ac_double : Cond.arrayClass Jvm.ClassFile.FieldType.double ∈ wALL := wALL_of 1244 (by decide +kernel) (by decide +kernel)
theorem se_X7_nextToPlan : Cond.selects RX7 yX7_nextToPlan yX7_nextToPlan ∈ wALL := wALL_pr 0 (by decide +kernel) (by decide +kernel)
theorem se_X7_kindToPlan : Cond.selects RX7 yX7_kindToPlan yX7_kindToPlan ∈ wALL := wALL_pr 1 (by decide +kernel) (by decide +kernel)
theorem se_X7_requireFork : Cond.selects RX7 yX7_requireFork yX7_requireFork ∈ wALL := wALL_pr 3 (by decide +kernel) (by decide +kernel)
theorem se_X7_requireTrailMinutes : Cond.selects RX7 yX7_requireTrailMinutes yX7_requireTrailMinutes ∈ wALL := wALL_pr 4 (by decide +kernel) (by decide +kernel)
theorem se_X7_requireTrail : Cond.selects RX7 yX7_requireTrail yX7_requireTrail ∈ wALL := wALL_pr 5 (by decide +kernel) (by decide +kernel)
theorem se_X7_canTell : Cond.selects RX7 yX7_canTell yX7_canTell ∈ wALL := wALL_pr 6 (by decide +kernel) (by decide +kernel)
theorem se_X7_putUp : Cond.selects RX7 yX7_putUp yX7_putUp ∈ wALL := wALL_pr 7 (by decide +kernel) (by decide +kernel)
theorem se_X7_requireBoard : Cond.selects RX7 yX7_requireBoard yX7_requireBoard ∈ wALL := wALL_pr 8 (by decide +kernel) (by decide +kernel)
theorem se_X7_requireWalker : Cond.selects RX7 yX7_requireWalker yX7_requireWalker ∈ wALL := wALL_pr 9 (by decide +kernel) (by decide +kernel)
theorem se_X7_requireTask : Cond.selects RX7 yX7_requireTask yX7_requireTask ∈ wALL := wALL_pr 10 (by decide +kernel) (by decide +kernel)
theorem se_X7_requireRanger : Cond.selects RX7 yX7_requireRanger yX7_requireRanger ∈ wALL := wALL_pr 11 (by decide +kernel) (by decide +kernel)
theorem se_X7_sendOut : Cond.selects RX7 yX7_sendOut yX7_sendOut ∈ wALL := wALL_pr 12 (by decide +kernel) (by decide +kernel)
theorem se_X7_chooseTask : Cond.selects RX7 yX7_chooseTask yX7_chooseTask ∈ wALL := wALL_pr 13 (by decide +kernel) (by decide +kernel)
theorem se_X7_makesSense : Cond.selects RX7 yX7_makesSense yX7_makesSense ∈ wALL := wALL_pr 14 (by decide +kernel) (by decide +kernel)
theorem se_X7_hasTimeFor : Cond.selects RX7 yX7_hasTimeFor yX7_hasTimeFor ∈ wALL := wALL_pr 15 (by decide +kernel) (by decide +kernel)
theorem se_X7_goalOf : Cond.selects RX7 yX7_goalOf yX7_goalOf ∈ wALL := wALL_pr 16 (by decide +kernel) (by decide +kernel)
theorem se_X7_comesTo : Cond.selects RX7 yX7_comesTo yX7_comesTo ∈ wALL := wALL_pr 17 (by decide +kernel) (by decide +kernel)
theorem se_X7_see : Cond.selects RX7 yX7_see yX7_see ∈ wALL := wALL_pr 18 (by decide +kernel) (by decide +kernel)
theorem se_X7_carryOut : Cond.selects RX7 yX7_carryOut yX7_carryOut ∈ wALL := wALL_pr 19 (by decide +kernel) (by decide +kernel)
theorem se_X7_requireMap : Cond.selects RX7 yX7_requireMap yX7_requireMap ∈ wALL := wALL_pr 20 (by decide +kernel) (by decide +kernel)
theorem se_X8_fails : Cond.selects RX8 yX8_fails yX8_fails ∈ wALL := wALL_pr 21 (by decide +kernel) (by decide +kernel)
theorem se_X8_tells : Cond.selects RX8 yX8_tells yX8_tells ∈ wALL := wALL_pr 22 (by decide +kernel) (by decide +kernel)
theorem se_X8_isFork : Cond.selects RX8 yX8_isFork yX8_isFork ∈ wALL := wALL_pr 23 (by decide +kernel) (by decide +kernel)
theorem se_X8_in : Cond.selects RX8 yX8_in yX8_in ∈ wALL := wALL_pr 24 (by decide +kernel) (by decide +kernel)
theorem se_X8_isTrail : Cond.selects RX8 yX8_isTrail yX8_isTrail ∈ wALL := wALL_pr 25 (by decide +kernel) (by decide +kernel)
theorem se_X8_isShut : Cond.selects RX8 yX8_isShut yX8_isShut ∈ wALL := wALL_pr 26 (by decide +kernel) (by decide +kernel)
theorem se_X8_way : Cond.selects RX8 yX8_way yX8_way ∈ wALL := wALL_pr 27 (by decide +kernel) (by decide +kernel)
theorem se_X8_reckons : Cond.selects RX8 yX8_reckons yX8_reckons ∈ wALL := wALL_pr 28 (by decide +kernel) (by decide +kernel)
theorem se_X8_least : Cond.selects RX8 yX8_least yX8_least ∈ wALL := wALL_pr 29 (by decide +kernel) (by decide +kernel)
theorem se_X8_next : Cond.selects RX8 yX8_next yX8_next ∈ wALL := wALL_pr 30 (by decide +kernel) (by decide +kernel)
theorem se_X8_of : Cond.selects RX8 yX8_of yX8_of ∈ wALL := wALL_pr 31 (by decide +kernel) (by decide +kernel)
theorem se_X8_other : Cond.selects RX8 yX8_other yX8_other ∈ wALL := wALL_pr 32 (by decide +kernel) (by decide +kernel)
theorem se_X8_canBeCut : Cond.selects RX8 yX8_canBeCut yX8_canBeCut ∈ wALL := wALL_pr 33 (by decide +kernel) (by decide +kernel)
theorem se_X8_cuts : Cond.selects RX8 yX8_cuts yX8_cuts ∈ wALL := wALL_pr 34 (by decide +kernel) (by decide +kernel)
theorem se_X8_isBoard : Cond.selects RX8 yX8_isBoard yX8_isBoard ∈ wALL := wALL_pr 35 (by decide +kernel) (by decide +kernel)
theorem se_X8_dangerOf : Cond.selects RX8 yX8_dangerOf yX8_dangerOf ∈ wALL := wALL_pr 36 (by decide +kernel) (by decide +kernel)
theorem se_X8_adds : Cond.selects RX8 yX8_adds yX8_adds ∈ wALL := wALL_pr 37 (by decide +kernel) (by decide +kernel)
theorem se_X8_wants : Cond.selects RX8 yX8_wants yX8_wants ∈ wALL := wALL_pr 38 (by decide +kernel) (by decide +kernel)
theorem se_X8_hasOpen : Cond.selects RX8 yX8_hasOpen yX8_hasOpen ∈ wALL := wALL_pr 39 (by decide +kernel) (by decide +kernel)
theorem se_X8_isTask : Cond.selects RX8 yX8_isTask yX8_isTask ∈ wALL := wALL_pr 40 (by decide +kernel) (by decide +kernel)
theorem se_X8_isRanger : Cond.selects RX8 yX8_isRanger yX8_isRanger ∈ wALL := wALL_pr 41 (by decide +kernel) (by decide +kernel)
theorem se_X8_chosen : Cond.selects RX8 yX8_chosen yX8_chosen ∈ wALL := wALL_pr 42 (by decide +kernel) (by decide +kernel)
theorem se_X8_hasTool : Cond.selects RX8 yX8_hasTool yX8_hasTool ∈ wALL := wALL_pr 43 (by decide +kernel) (by decide +kernel)
theorem se_X8_canBeDone : Cond.selects RX8 yX8_canBeDone yX8_canBeDone ∈ wALL := wALL_pr 44 (by decide +kernel) (by decide +kernel)
theorem se_X8_isInTime : Cond.selects RX8 yX8_isInTime yX8_isInTime ∈ wALL := wALL_pr 45 (by decide +kernel) (by decide +kernel)
theorem se_X8_placeOf : Cond.selects RX8 yX8_placeOf yX8_placeOf ∈ wALL := wALL_pr 46 (by decide +kernel) (by decide +kernel)
theorem se_X8_timeOf : Cond.selects RX8 yX8_timeOf yX8_timeOf ∈ wALL := wALL_pr 47 (by decide +kernel) (by decide +kernel)
theorem se_X8_comes : Cond.selects RX8 yX8_comes yX8_comes ∈ wALL := wALL_pr 48 (by decide +kernel) (by decide +kernel)
theorem se_X8_sees : Cond.selects RX8 yX8_sees yX8_sees ∈ wALL := wALL_pr 49 (by decide +kernel) (by decide +kernel)
theorem se_X8_does : Cond.selects RX8 yX8_does yX8_does ∈ wALL := wALL_pr 50 (by decide +kernel) (by decide +kernel)
theorem se_X8_isMap : Cond.selects RX8 yX8_isMap yX8_isMap ∈ wALL := wALL_pr 51 (by decide +kernel) (by decide +kernel)
theorem inwX0 : ∀ w ∈ u_ws RX0 TX0 7, w ∈ wALL := (show ∀ w ∈ ([Cond.laysFinal RX0 "WayMarker$Boards" "fork" "[I", Cond.laysFinal RX0 "WayMarker$Boards" "place" "[I", Cond.laysFinal RX0 "WayMarker$Boards" "trail" "[I", Cond.laysFinal RX0 "WayMarker$Boards" "minutesTold" "[I", Cond.laysFinal RX0 "WayMarker$Boards" "covered" "[Z", Cond.lays RX0 "WayMarker$Boards" "count" "I", Cond.lays RX0 "WayMarker$Boards" "wood" "I"] : List Cond), w ∈ wALL from List.forall_mem_cons.mpr ⟨ly_X0_fork, List.forall_mem_cons.mpr ⟨ly_X0_place, List.forall_mem_cons.mpr ⟨ly_X0_trail, List.forall_mem_cons.mpr ⟨ly_X0_minutesTold, List.forall_mem_cons.mpr ⟨ly_X0_covered, List.forall_mem_cons.mpr ⟨ly_X0_count, List.forall_mem_cons.mpr ⟨ly_X0_wood, fun _ h => absurd h List.not_mem_nil⟩⟩⟩⟩⟩⟩⟩)
theorem inwX1 : ∀ w ∈ u_ws RX1 TX1 3, w ∈ wALL := (show ∀ w ∈ ([Cond.laysFinal RX1 "WayMarker$Maps" "drawn" "[Z", Cond.laysFinal RX1 "WayMarker$Maps" "printedOn" "[I", Cond.lays RX1 "WayMarker$Maps" "count" "I"] : List Cond), w ∈ wALL from List.forall_mem_cons.mpr ⟨ly_X1_drawn, List.forall_mem_cons.mpr ⟨ly_X1_printedOn, List.forall_mem_cons.mpr ⟨ly_X1_count, fun _ h => absurd h List.not_mem_nil⟩⟩⟩)
theorem inwX2 : ∀ w ∈ u_ws RX2 TX2 10, w ∈ wALL := (show ∀ w ∈ ([Cond.laysFinal RX2 "WayMarker$Net" "isPlace" "[Z", Cond.laysFinal RX2 "WayMarker$Net" "first" "[I", Cond.laysFinal RX2 "WayMarker$Net" "second" "[I", Cond.laysFinal RX2 "WayMarker$Net" "forthMinutes" "[I", Cond.laysFinal RX2 "WayMarker$Net" "backMinutes" "[I", Cond.laysFinal RX2 "WayMarker$Net" "truth" "LWayMarker$View;", Cond.laysFinal RX2 "WayMarker$Net" "taken" "LWayMarker$View;", Cond.laysFinal RX2 "WayMarker$Net" "compared" "[I", Cond.lays RX2 "WayMarker$Net" "forks" "I", Cond.lays RX2 "WayMarker$Net" "trails" "I"] : List Cond), w ∈ wALL from List.forall_mem_cons.mpr ⟨ly_X2_isPlace, List.forall_mem_cons.mpr ⟨ly_X2_first, List.forall_mem_cons.mpr ⟨ly_X2_second, List.forall_mem_cons.mpr ⟨ly_X2_forthMinutes, List.forall_mem_cons.mpr ⟨ly_X2_backMinutes, List.forall_mem_cons.mpr ⟨ly_X2_truth, List.forall_mem_cons.mpr ⟨ly_X2_taken, List.forall_mem_cons.mpr ⟨ly_X2_compared, List.forall_mem_cons.mpr ⟨ly_X2_forks, List.forall_mem_cons.mpr ⟨ly_X2_trails, fun _ h => absurd h List.not_mem_nil⟩⟩⟩⟩⟩⟩⟩⟩⟩⟩)
theorem inwX3 : ∀ w ∈ u_ws RX3 TX3 5, w ∈ wALL := (show ∀ w ∈ ([Cond.laysFinal RX3 "WayMarker$Rangers" "fork" "[I", Cond.laysFinal RX3 "WayMarker$Rangers" "tools" "[I", Cond.laysFinal RX3 "WayMarker$Rangers" "minutesWorked" "[I", Cond.lays RX3 "WayMarker$Rangers" "count" "I", Cond.lays RX3 "WayMarker$Rangers" "minutesLeft" "I"] : List Cond), w ∈ wALL from List.forall_mem_cons.mpr ⟨ly_X3_fork, List.forall_mem_cons.mpr ⟨ly_X3_tools, List.forall_mem_cons.mpr ⟨ly_X3_minutesWorked, List.forall_mem_cons.mpr ⟨ly_X3_count, List.forall_mem_cons.mpr ⟨ly_X3_minutesLeft, fun _ h => absurd h List.not_mem_nil⟩⟩⟩⟩⟩)
theorem inwX4 : ∀ w ∈ u_ws RX4 TX4 5, w ∈ wALL := (show ∀ w ∈ ([Cond.laysFinal RX4 "WayMarker$Tasks" "kind" "[C", Cond.laysFinal RX4 "WayMarker$Tasks" "number" "[I", Cond.laysFinal RX4 "WayMarker$Tasks" "danger" "[I", Cond.laysFinal RX4 "WayMarker$Tasks" "doer" "[I", Cond.lays RX4 "WayMarker$Tasks" "count" "I"] : List Cond), w ∈ wALL from List.forall_mem_cons.mpr ⟨ly_X4_kind, List.forall_mem_cons.mpr ⟨ly_X4_number, List.forall_mem_cons.mpr ⟨ly_X4_danger, List.forall_mem_cons.mpr ⟨ly_X4_doer, List.forall_mem_cons.mpr ⟨ly_X4_count, fun _ h => absurd h List.not_mem_nil⟩⟩⟩⟩⟩)
theorem inwX5 : ∀ w ∈ u_ws RX5 TX5 2, w ∈ wALL := (show ∀ w ∈ ([Cond.laysFinal RX5 "WayMarker$View" "gone" "[Z", Cond.laysFinal RX5 "WayMarker$View" "least" "[I"] : List Cond), w ∈ wALL from List.forall_mem_cons.mpr ⟨ly_X5_gone, List.forall_mem_cons.mpr ⟨ly_X5_least, fun _ h => absurd h List.not_mem_nil⟩⟩)
theorem inwX6 : ∀ w ∈ u_ws RX6 TX6 2, w ∈ wALL := (show ∀ w ∈ ([Cond.laysFinal RX6 "WayMarker$Walkers" "trustIn" "[I", Cond.laysFinal RX6 "WayMarker$Walkers" "said" "[I"] : List Cond), w ∈ wALL from List.forall_mem_cons.mpr ⟨ly_X6_trustIn, List.forall_mem_cons.mpr ⟨ly_X6_said, fun _ h => absurd h List.not_mem_nil⟩⟩)
theorem inwX7 : ∀ w ∈ u_ws RX7 TX7 7, w ∈ wALL := (show ∀ w ∈ ([Cond.laysFinal RX7 "WayMarker" "net" "LWayMarker$Net;", Cond.laysFinal RX7 "WayMarker" "boards" "LWayMarker$Boards;", Cond.laysFinal RX7 "WayMarker" "walkers" "LWayMarker$Walkers;", Cond.laysFinal RX7 "WayMarker" "tasks" "LWayMarker$Tasks;", Cond.laysFinal RX7 "WayMarker" "rangers" "LWayMarker$Rangers;", Cond.laysFinal RX7 "WayMarker" "maps" "LWayMarker$Maps;", Cond.lays RX7 "WayMarker" "today" "I"] : List Cond), w ∈ wALL from List.forall_mem_cons.mpr ⟨ly_X7_net, List.forall_mem_cons.mpr ⟨ly_X7_boards, List.forall_mem_cons.mpr ⟨ly_X7_walkers, List.forall_mem_cons.mpr ⟨ly_X7_tasks, List.forall_mem_cons.mpr ⟨ly_X7_rangers, List.forall_mem_cons.mpr ⟨ly_X7_maps, List.forall_mem_cons.mpr ⟨ly_X7_today, fun _ h => absurd h List.not_mem_nil⟩⟩⟩⟩⟩⟩⟩)
theorem inwX8 : ∀ w ∈ u_ws RX8 TX8 34, w ∈ wALL := (show ∀ w ∈ ([Cond.lays RX8 "WayMarkerModel" "thrown" "I", Cond.lays RX8 "WayMarkerModel" "forks" "I", Cond.lays RX8 "WayMarkerModel" "trails" "I", Cond.lays RX8 "WayMarkerModel" "boards" "I", Cond.lays RX8 "WayMarkerModel" "tasks" "I", Cond.lays RX8 "WayMarkerModel" "rangers" "I", Cond.lays RX8 "WayMarkerModel" "maps" "I", Cond.lays RX8 "WayMarkerModel" "wood" "I", Cond.lays RX8 "WayMarkerModel" "day" "I", Cond.laysFinal RX8 "WayMarkerModel" "isPlace" "[Z", Cond.laysFinal RX8 "WayMarkerModel" "from" "[I", Cond.laysFinal RX8 "WayMarkerModel" "to" "[I", Cond.laysFinal RX8 "WayMarkerModel" "forth" "[I", Cond.laysFinal RX8 "WayMarkerModel" "back" "[I", Cond.laysFinal RX8 "WayMarkerModel" "isOut" "[Z", Cond.laysFinal RX8 "WayMarkerModel" "isTaken" "[Z", Cond.laysFinal RX8 "WayMarkerModel" "fork" "[I", Cond.laysFinal RX8 "WayMarkerModel" "place" "[I", Cond.laysFinal RX8 "WayMarkerModel" "trail" "[I", Cond.laysFinal RX8 "WayMarkerModel" "told" "[I", Cond.laysFinal RX8 "WayMarkerModel" "isCovered" "[Z", Cond.laysFinal RX8 "WayMarkerModel" "said" "[I", Cond.laysFinal RX8 "WayMarkerModel" "trust" "[I", Cond.laysFinal RX8 "WayMarkerModel" "kind" "[C", Cond.laysFinal RX8 "WayMarkerModel" "number" "[I", Cond.laysFinal RX8 "WayMarkerModel" "dangers" "[I", Cond.laysFinal RX8 "WayMarkerModel" "doneBy" "[I", Cond.laysFinal RX8 "WayMarkerModel" "at" "[I", Cond.laysFinal RX8 "WayMarkerModel" "tools" "[I", Cond.laysFinal RX8 "WayMarkerModel" "worked" "[I", Cond.laysFinal RX8 "WayMarkerModel" "map" "[Z", Cond.laysFinal RX8 "WayMarkerModel" "printed" "[I", Cond.laysFinal RX8 "WayMarkerModel" "far" "[I", Cond.lays RX8 "WayMarkerModel" "left" "I"] : List Cond), w ∈ wALL from List.forall_mem_cons.mpr ⟨ly_X8_thrown, List.forall_mem_cons.mpr ⟨ly_X8_forks, List.forall_mem_cons.mpr ⟨ly_X8_trails, List.forall_mem_cons.mpr ⟨ly_X8_boards, List.forall_mem_cons.mpr ⟨ly_X8_tasks, List.forall_mem_cons.mpr ⟨ly_X8_rangers, List.forall_mem_cons.mpr ⟨ly_X8_maps, List.forall_mem_cons.mpr ⟨ly_X8_wood, List.forall_mem_cons.mpr ⟨ly_X8_day, List.forall_mem_cons.mpr ⟨ly_X8_isPlace, List.forall_mem_cons.mpr ⟨ly_X8_from, List.forall_mem_cons.mpr ⟨ly_X8_to, List.forall_mem_cons.mpr ⟨ly_X8_forth, List.forall_mem_cons.mpr ⟨ly_X8_back, List.forall_mem_cons.mpr ⟨ly_X8_isOut, List.forall_mem_cons.mpr ⟨ly_X8_isTaken, List.forall_mem_cons.mpr ⟨ly_X8_fork, List.forall_mem_cons.mpr ⟨ly_X8_place, List.forall_mem_cons.mpr ⟨ly_X8_trail, List.forall_mem_cons.mpr ⟨ly_X8_told, List.forall_mem_cons.mpr ⟨ly_X8_isCovered, List.forall_mem_cons.mpr ⟨ly_X8_said, List.forall_mem_cons.mpr ⟨ly_X8_trust, List.forall_mem_cons.mpr ⟨ly_X8_kind, List.forall_mem_cons.mpr ⟨ly_X8_number, List.forall_mem_cons.mpr ⟨ly_X8_dangers, List.forall_mem_cons.mpr ⟨ly_X8_doneBy, List.forall_mem_cons.mpr ⟨ly_X8_at, List.forall_mem_cons.mpr ⟨ly_X8_tools, List.forall_mem_cons.mpr ⟨ly_X8_worked, List.forall_mem_cons.mpr ⟨ly_X8_map, List.forall_mem_cons.mpr ⟨ly_X8_printed, List.forall_mem_cons.mpr ⟨ly_X8_far, List.forall_mem_cons.mpr ⟨ly_X8_left, fun _ h => absurd h List.not_mem_nil⟩⟩⟩⟩⟩⟩⟩⟩⟩⟩⟩⟩⟩⟩⟩⟩⟩⟩⟩⟩⟩⟩⟩⟩⟩⟩⟩⟩⟩⟩⟩⟩⟩⟩)
end
section
theorem dX0_init_0 : decode cX0_init 0 = .ok (.aload_n 0, 1) := by decide +kernel
theorem dX0_init_1 : decode cX0_init 1 = .ok (.invokespecial 3, 3) := by decide +kernel
theorem dX0_init_4 : decode cX0_init 4 = .ok (.aload_n 0, 1) := by decide +kernel
theorem dX0_init_5 : decode cX0_init 5 = .ok (.bipush 30, 2) := by decide +kernel
theorem dX0_init_7 : decode cX0_init 7 = .ok (.newarray .int, 2) := by decide +kernel
theorem dX0_init_9 : decode cX0_init 9 = .ok (.putfield 9, 3) := by decide +kernel
theorem dX0_init_12 : decode cX0_init 12 = .ok (.aload_n 0, 1) := by decide +kernel
theorem dX0_init_13 : decode cX0_init 13 = .ok (.bipush 30, 2) := by decide +kernel
theorem dX0_init_15 : decode cX0_init 15 = .ok (.newarray .int, 2) := by decide +kernel
theorem dX0_init_17 : decode cX0_init 17 = .ok (.putfield 15, 3) := by decide +kernel
theorem dX0_init_20 : decode cX0_init 20 = .ok (.aload_n 0, 1) := by decide +kernel
theorem dX0_init_21 : decode cX0_init 21 = .ok (.bipush 30, 2) := by decide +kernel
theorem dX0_init_23 : decode cX0_init 23 = .ok (.newarray .int, 2) := by decide +kernel
theorem dX0_init_25 : decode cX0_init 25 = .ok (.putfield 18, 3) := by decide +kernel
theorem dX0_init_28 : decode cX0_init 28 = .ok (.aload_n 0, 1) := by decide +kernel
theorem dX0_init_29 : decode cX0_init 29 = .ok (.bipush 30, 2) := by decide +kernel
theorem dX0_init_31 : decode cX0_init 31 = .ok (.newarray .int, 2) := by decide +kernel
theorem dX0_init_33 : decode cX0_init 33 = .ok (.putfield 21, 3) := by decide +kernel
theorem dX0_init_36 : decode cX0_init 36 = .ok (.aload_n 0, 1) := by decide +kernel
theorem dX0_init_37 : decode cX0_init 37 = .ok (.bipush 30, 2) := by decide +kernel
theorem dX0_init_39 : decode cX0_init 39 = .ok (.newarray .boolean, 2) := by decide +kernel
theorem dX0_init_41 : decode cX0_init 41 = .ok (.putfield 24, 3) := by decide +kernel
theorem dX0_init_44 : decode cX0_init 44 = .ok (.aload_n 0, 1) := by decide +kernel
theorem dX0_init_45 : decode cX0_init 45 = .ok (.iconst 0, 1) := by decide +kernel
theorem dX0_init_46 : decode cX0_init 46 = .ok (.putfield 28, 3) := by decide +kernel
theorem dX0_init_49 : decode cX0_init 49 = .ok (.aload_n 0, 1) := by decide +kernel
theorem dX0_init_50 : decode cX0_init 50 = .ok (.bipush 10, 2) := by decide +kernel
theorem dX0_init_52 : decode cX0_init 52 = .ok (.putfield 32, 3) := by decide +kernel
theorem dX0_init_55 : decode cX0_init 55 = .ok (.return_, 1) := by decide +kernel
theorem dX0_dangerBy_0 : decode cX0_dangerBy 0 = .ok (.aload_n 3, 1) := by decide +kernel
theorem dX0_dangerBy_1 : decode cX0_dangerBy 1 = .ok (.getfield 35, 3) := by decide +kernel
theorem dX0_dangerBy_4 : decode cX0_dangerBy 4 = .ok (.aload_n 0, 1) := by decide +kernel
theorem dX0_dangerBy_5 : decode cX0_dangerBy 5 = .ok (.getfield 18, 3) := by decide +kernel
theorem dX0_dangerBy_8 : decode cX0_dangerBy 8 = .ok (.iload_n 1, 1) := by decide +kernel
theorem dX0_dangerBy_9 : decode cX0_dangerBy 9 = .ok (.iaload, 1) := by decide +kernel
theorem dX0_dangerBy_10 : decode cX0_dangerBy 10 = .ok (.baload, 1) := by decide +kernel
theorem dX0_dangerBy_11 : decode cX0_dangerBy 11 = .ok (.ifCond .eq 7, 3) := by decide +kernel
theorem dX0_dangerBy_14 : decode cX0_dangerBy 14 = .ok (.sipush 1000, 3) := by decide +kernel
theorem dX0_dangerBy_17 : decode cX0_dangerBy 17 = .ok (.ireturn, 1) := by decide +kernel
theorem dX0_dangerBy_18 : decode cX0_dangerBy 18 = .ok (.aload_n 2, 1) := by decide +kernel
theorem dX0_dangerBy_19 : decode cX0_dangerBy 19 = .ok (.aload_n 0, 1) := by decide +kernel
theorem dX0_dangerBy_20 : decode cX0_dangerBy 20 = .ok (.getfield 18, 3) := by decide +kernel
theorem dX0_dangerBy_23 : decode cX0_dangerBy 23 = .ok (.iload_n 1, 1) := by decide +kernel
theorem dX0_dangerBy_24 : decode cX0_dangerBy 24 = .ok (.iaload, 1) := by decide +kernel
theorem dX0_dangerBy_25 : decode cX0_dangerBy 25 = .ok (.aload_n 0, 1) := by decide +kernel
theorem dX0_dangerBy_26 : decode cX0_dangerBy 26 = .ok (.getfield 9, 3) := by decide +kernel
theorem dX0_dangerBy_29 : decode cX0_dangerBy 29 = .ok (.iload_n 1, 1) := by decide +kernel
theorem dX0_dangerBy_30 : decode cX0_dangerBy 30 = .ok (.iaload, 1) := by decide +kernel
theorem dX0_dangerBy_31 : decode cX0_dangerBy 31 = .ok (.aload_n 0, 1) := by decide +kernel
theorem dX0_dangerBy_32 : decode cX0_dangerBy 32 = .ok (.getfield 15, 3) := by decide +kernel
theorem dX0_dangerBy_35 : decode cX0_dangerBy 35 = .ok (.iload_n 1, 1) := by decide +kernel
theorem dX0_dangerBy_36 : decode cX0_dangerBy 36 = .ok (.iaload, 1) := by decide +kernel
theorem dX0_dangerBy_37 : decode cX0_dangerBy 37 = .ok (.aload_n 3, 1) := by decide +kernel
theorem dX0_dangerBy_38 : decode cX0_dangerBy 38 = .ok (.invokevirtual 40, 3) := by decide +kernel
theorem dX0_dangerBy_41 : decode cX0_dangerBy 41 = .ok (.istore 4, 2) := by decide +kernel
theorem dX0_dangerBy_43 : decode cX0_dangerBy 43 = .ok (.iload 4, 2) := by decide +kernel
theorem dX0_dangerBy_45 : decode cX0_dangerBy 45 = .ok (.ldc 46, 2) := by decide +kernel
theorem dX0_dangerBy_47 : decode cX0_dangerBy 47 = .ok (.if_icmp .lt 7, 3) := by decide +kernel
theorem dX0_dangerBy_50 : decode cX0_dangerBy 50 = .ok (.sipush 1000, 3) := by decide +kernel
theorem dX0_dangerBy_53 : decode cX0_dangerBy 53 = .ok (.ireturn, 1) := by decide +kernel
theorem dX0_dangerBy_54 : decode cX0_dangerBy 54 = .ok (.iload 4, 2) := by decide +kernel
theorem dX0_dangerBy_56 : decode cX0_dangerBy 56 = .ok (.aload_n 0, 1) := by decide +kernel
theorem dX0_dangerBy_57 : decode cX0_dangerBy 57 = .ok (.getfield 21, 3) := by decide +kernel
theorem dX0_dangerBy_60 : decode cX0_dangerBy 60 = .ok (.iload_n 1, 1) := by decide +kernel
theorem dX0_dangerBy_61 : decode cX0_dangerBy 61 = .ok (.iaload, 1) := by decide +kernel
theorem dX0_dangerBy_62 : decode cX0_dangerBy 62 = .ok (.isub, 1) := by decide +kernel
theorem dX0_dangerBy_63 : decode cX0_dangerBy 63 = .ok (.istore 5, 2) := by decide +kernel
theorem dX0_dangerBy_65 : decode cX0_dangerBy 65 = .ok (.iload 5, 2) := by decide +kernel
theorem dX0_dangerBy_67 : decode cX0_dangerBy 67 = .ok (.bipush 30, 2) := by decide +kernel
theorem dX0_dangerBy_69 : decode cX0_dangerBy 69 = .ok (.if_icmp .ge 7, 3) := by decide +kernel
theorem dX0_dangerBy_72 : decode cX0_dangerBy 72 = .ok (.iconst 0, 1) := by decide +kernel
theorem dX0_dangerBy_73 : decode cX0_dangerBy 73 = .ok (.goto 11, 3) := by decide +kernel
theorem dX0_dangerBy_76 : decode cX0_dangerBy 76 = .ok (.iload 5, 2) := by decide +kernel
theorem dX0_dangerBy_78 : decode cX0_dangerBy 78 = .ok (.sipush 999, 3) := by decide +kernel
theorem dX0_dangerBy_81 : decode cX0_dangerBy 81 = .ok (.invokestatic 47, 3) := by decide +kernel
theorem dX0_dangerBy_84 : decode cX0_dangerBy 84 = .ok (.ireturn, 1) := by decide +kernel
theorem dX1_init_0 : decode cX1_init 0 = .ok (.aload_n 0, 1) := by decide +kernel
theorem dX1_init_1 : decode cX1_init 1 = .ok (.invokespecial 3, 3) := by decide +kernel
theorem dX1_init_4 : decode cX1_init 4 = .ok (.aload_n 0, 1) := by decide +kernel
theorem dX1_init_5 : decode cX1_init 5 = .ok (.sipush 240, 3) := by decide +kernel
theorem dX1_init_8 : decode cX1_init 8 = .ok (.newarray .boolean, 2) := by decide +kernel
theorem dX1_init_10 : decode cX1_init 10 = .ok (.putfield 9, 3) := by decide +kernel
theorem dX1_init_13 : decode cX1_init 13 = .ok (.aload_n 0, 1) := by decide +kernel
theorem dX1_init_14 : decode cX1_init 14 = .ok (.bipush 10, 2) := by decide +kernel
theorem dX1_init_16 : decode cX1_init 16 = .ok (.newarray .int, 2) := by decide +kernel
theorem dX1_init_18 : decode cX1_init 18 = .ok (.putfield 15, 3) := by decide +kernel
theorem dX1_init_21 : decode cX1_init 21 = .ok (.aload_n 0, 1) := by decide +kernel
theorem dX1_init_22 : decode cX1_init 22 = .ok (.iconst 0, 1) := by decide +kernel
theorem dX1_init_23 : decode cX1_init 23 = .ok (.putfield 19, 3) := by decide +kernel
theorem dX1_init_26 : decode cX1_init 26 = .ok (.return_, 1) := by decide +kernel
theorem dX1_draw_0 : decode cX1_draw 0 = .ok (.aload_n 0, 1) := by decide +kernel
theorem dX1_draw_1 : decode cX1_draw 1 = .ok (.getfield 19, 3) := by decide +kernel
theorem dX1_draw_4 : decode cX1_draw 4 = .ok (.istore_n 3, 1) := by decide +kernel
theorem dX1_draw_5 : decode cX1_draw 5 = .ok (.aload_n 0, 1) := by decide +kernel
theorem dX1_draw_6 : decode cX1_draw 6 = .ok (.dup, 1) := by decide +kernel
theorem dX1_draw_7 : decode cX1_draw 7 = .ok (.getfield 19, 3) := by decide +kernel
theorem dX1_draw_10 : decode cX1_draw 10 = .ok (.iconst 1, 1) := by decide +kernel
theorem dX1_draw_11 : decode cX1_draw 11 = .ok (.iadd, 1) := by decide +kernel
theorem dX1_draw_12 : decode cX1_draw 12 = .ok (.putfield 19, 3) := by decide +kernel
theorem dX1_draw_15 : decode cX1_draw 15 = .ok (.aload_n 0, 1) := by decide +kernel
theorem dX1_draw_16 : decode cX1_draw 16 = .ok (.getfield 15, 3) := by decide +kernel
theorem dX1_draw_19 : decode cX1_draw 19 = .ok (.iload_n 3, 1) := by decide +kernel
theorem dX1_draw_20 : decode cX1_draw 20 = .ok (.iload_n 2, 1) := by decide +kernel
theorem dX1_draw_21 : decode cX1_draw 21 = .ok (.iastore, 1) := by decide +kernel
theorem dX1_draw_22 : decode cX1_draw 22 = .ok (.iconst 0, 1) := by decide +kernel
theorem dX1_draw_23 : decode cX1_draw 23 = .ok (.istore 4, 2) := by decide +kernel
theorem dX1_draw_25 : decode cX1_draw 25 = .ok (.iload 4, 2) := by decide +kernel
theorem dX1_draw_27 : decode cX1_draw 27 = .ok (.aload_n 1, 1) := by decide +kernel
theorem dX1_draw_28 : decode cX1_draw 28 = .ok (.getfield 23, 3) := by decide +kernel
theorem dX1_draw_31 : decode cX1_draw 31 = .ok (.if_icmp .ge 39, 3) := by decide +kernel
theorem dX1_draw_34 : decode cX1_draw 34 = .ok (.aload_n 0, 1) := by decide +kernel
theorem dX1_draw_35 : decode cX1_draw 35 = .ok (.getfield 9, 3) := by decide +kernel
theorem dX1_draw_38 : decode cX1_draw 38 = .ok (.iload_n 3, 1) := by decide +kernel
theorem dX1_draw_39 : decode cX1_draw 39 = .ok (.bipush 24, 2) := by decide +kernel
theorem dX1_draw_41 : decode cX1_draw 41 = .ok (.imul, 1) := by decide +kernel
theorem dX1_draw_42 : decode cX1_draw 42 = .ok (.iload 4, 2) := by decide +kernel
theorem dX1_draw_44 : decode cX1_draw 44 = .ok (.iadd, 1) := by decide +kernel
theorem dX1_draw_45 : decode cX1_draw 45 = .ok (.aload_n 1, 1) := by decide +kernel
theorem dX1_draw_46 : decode cX1_draw 46 = .ok (.getfield 28, 3) := by decide +kernel
theorem dX1_draw_49 : decode cX1_draw 49 = .ok (.getfield 32, 3) := by decide +kernel
theorem dX1_draw_52 : decode cX1_draw 52 = .ok (.iload 4, 2) := by decide +kernel
theorem dX1_draw_54 : decode cX1_draw 54 = .ok (.baload, 1) := by decide +kernel
theorem dX1_draw_55 : decode cX1_draw 55 = .ok (.ifCond .ne 7, 3) := by decide +kernel
theorem dX1_draw_58 : decode cX1_draw 58 = .ok (.iconst 1, 1) := by decide +kernel
theorem dX1_draw_59 : decode cX1_draw 59 = .ok (.goto 4, 3) := by decide +kernel
theorem dX1_draw_62 : decode cX1_draw 62 = .ok (.iconst 0, 1) := by decide +kernel
theorem dX1_draw_63 : decode cX1_draw 63 = .ok (.bastore, 1) := by decide +kernel
theorem dX1_draw_64 : decode cX1_draw 64 = .ok (.iinc 4 1, 3) := by decide +kernel
theorem dX1_draw_67 : decode cX1_draw 67 = .ok (.goto (-42), 3) := by decide +kernel
theorem dX1_draw_70 : decode cX1_draw 70 = .ok (.iload_n 3, 1) := by decide +kernel
theorem dX1_draw_71 : decode cX1_draw 71 = .ok (.ireturn, 1) := by decide +kernel
theorem dX1_isDrawn_0 : decode cX1_isDrawn 0 = .ok (.aload_n 0, 1) := by decide +kernel
theorem dX1_isDrawn_1 : decode cX1_isDrawn 1 = .ok (.getfield 9, 3) := by decide +kernel
theorem dX1_isDrawn_4 : decode cX1_isDrawn 4 = .ok (.iload_n 1, 1) := by decide +kernel
theorem dX1_isDrawn_5 : decode cX1_isDrawn 5 = .ok (.bipush 24, 2) := by decide +kernel
theorem dX1_isDrawn_7 : decode cX1_isDrawn 7 = .ok (.imul, 1) := by decide +kernel
theorem dX1_isDrawn_8 : decode cX1_isDrawn 8 = .ok (.iload_n 2, 1) := by decide +kernel
theorem dX1_isDrawn_9 : decode cX1_isDrawn 9 = .ok (.iadd, 1) := by decide +kernel
theorem dX1_isDrawn_10 : decode cX1_isDrawn 10 = .ok (.baload, 1) := by decide +kernel
theorem dX1_isDrawn_11 : decode cX1_isDrawn 11 = .ok (.ireturn, 1) := by decide +kernel
theorem dX2_init_0 : decode cX2_init 0 = .ok (.aload_n 0, 1) := by decide +kernel
theorem dX2_init_1 : decode cX2_init 1 = .ok (.invokespecial 3, 3) := by decide +kernel
theorem dX2_init_4 : decode cX2_init 4 = .ok (.aload_n 0, 1) := by decide +kernel
theorem dX2_init_5 : decode cX2_init 5 = .ok (.bipush 16, 2) := by decide +kernel
theorem dX2_init_7 : decode cX2_init 7 = .ok (.newarray .boolean, 2) := by decide +kernel
theorem dX2_init_9 : decode cX2_init 9 = .ok (.putfield 9, 3) := by decide +kernel
theorem dX2_init_12 : decode cX2_init 12 = .ok (.aload_n 0, 1) := by decide +kernel
theorem dX2_init_13 : decode cX2_init 13 = .ok (.bipush 24, 2) := by decide +kernel
theorem dX2_init_15 : decode cX2_init 15 = .ok (.newarray .int, 2) := by decide +kernel
theorem dX2_init_17 : decode cX2_init 17 = .ok (.putfield 15, 3) := by decide +kernel
theorem dX2_init_20 : decode cX2_init 20 = .ok (.aload_n 0, 1) := by decide +kernel
theorem dX2_init_21 : decode cX2_init 21 = .ok (.bipush 24, 2) := by decide +kernel
theorem dX2_init_23 : decode cX2_init 23 = .ok (.newarray .int, 2) := by decide +kernel
theorem dX2_init_25 : decode cX2_init 25 = .ok (.putfield 19, 3) := by decide +kernel
theorem dX2_init_28 : decode cX2_init 28 = .ok (.aload_n 0, 1) := by decide +kernel
theorem dX2_init_29 : decode cX2_init 29 = .ok (.bipush 24, 2) := by decide +kernel
theorem dX2_init_31 : decode cX2_init 31 = .ok (.newarray .int, 2) := by decide +kernel
theorem dX2_init_33 : decode cX2_init 33 = .ok (.putfield 22, 3) := by decide +kernel
theorem dX2_init_36 : decode cX2_init 36 = .ok (.aload_n 0, 1) := by decide +kernel
theorem dX2_init_37 : decode cX2_init 37 = .ok (.bipush 24, 2) := by decide +kernel
theorem dX2_init_39 : decode cX2_init 39 = .ok (.newarray .int, 2) := by decide +kernel
theorem dX2_init_41 : decode cX2_init 41 = .ok (.putfield 25, 3) := by decide +kernel
theorem dX2_init_44 : decode cX2_init 44 = .ok (.aload_n 0, 1) := by decide +kernel
theorem dX2_init_45 : decode cX2_init 45 = .ok (.new 28, 3) := by decide +kernel
theorem dX2_init_48 : decode cX2_init 48 = .ok (.dup, 1) := by decide +kernel
theorem dX2_init_49 : decode cX2_init 49 = .ok (.invokespecial 30, 3) := by decide +kernel
theorem dX2_init_52 : decode cX2_init 52 = .ok (.putfield 31, 3) := by decide +kernel
theorem dX2_init_55 : decode cX2_init 55 = .ok (.aload_n 0, 1) := by decide +kernel
theorem dX2_init_56 : decode cX2_init 56 = .ok (.new 28, 3) := by decide +kernel
theorem dX2_init_59 : decode cX2_init 59 = .ok (.dup, 1) := by decide +kernel
theorem dX2_init_60 : decode cX2_init 60 = .ok (.invokespecial 30, 3) := by decide +kernel
theorem dX2_init_63 : decode cX2_init 63 = .ok (.putfield 35, 3) := by decide +kernel
theorem dX2_init_66 : decode cX2_init 66 = .ok (.aload_n 0, 1) := by decide +kernel
theorem dX2_init_67 : decode cX2_init 67 = .ok (.sipush 256, 3) := by decide +kernel
theorem dX2_init_70 : decode cX2_init 70 = .ok (.newarray .int, 2) := by decide +kernel
theorem dX2_init_72 : decode cX2_init 72 = .ok (.putfield 38, 3) := by decide +kernel
theorem dX2_init_75 : decode cX2_init 75 = .ok (.aload_n 0, 1) := by decide +kernel
theorem dX2_init_76 : decode cX2_init 76 = .ok (.iconst 0, 1) := by decide +kernel
theorem dX2_init_77 : decode cX2_init 77 = .ok (.putfield 41, 3) := by decide +kernel
theorem dX2_init_80 : decode cX2_init 80 = .ok (.aload_n 0, 1) := by decide +kernel
theorem dX2_init_81 : decode cX2_init 81 = .ok (.iconst 0, 1) := by decide +kernel
theorem dX2_init_82 : decode cX2_init 82 = .ok (.putfield 45, 3) := by decide +kernel
theorem dX2_init_85 : decode cX2_init 85 = .ok (.return_, 1) := by decide +kernel
theorem dX2_view_0 : decode cX2_view 0 = .ok (.iload_n 1, 1) := by decide +kernel
theorem dX2_view_1 : decode cX2_view 1 = .ok (.ifCond .eq 10, 3) := by decide +kernel
theorem dX2_view_4 : decode cX2_view 4 = .ok (.aload_n 0, 1) := by decide +kernel
theorem dX2_view_5 : decode cX2_view 5 = .ok (.getfield 31, 3) := by decide +kernel
theorem dX2_view_8 : decode cX2_view 8 = .ok (.goto 7, 3) := by decide +kernel
theorem dX2_view_11 : decode cX2_view 11 = .ok (.aload_n 0, 1) := by decide +kernel
theorem dX2_view_12 : decode cX2_view 12 = .ok (.getfield 35, 3) := by decide +kernel
theorem dX2_view_15 : decode cX2_view 15 = .ok (.areturn, 1) := by decide +kernel
theorem dX2_join_0 : decode cX2_join 0 = .ok (.aload_n 0, 1) := by decide +kernel
theorem dX2_join_1 : decode cX2_join 1 = .ok (.getfield 45, 3) := by decide +kernel
theorem dX2_join_4 : decode cX2_join 4 = .ok (.istore 5, 2) := by decide +kernel
theorem dX2_join_6 : decode cX2_join 6 = .ok (.aload_n 0, 1) := by decide +kernel
theorem dX2_join_7 : decode cX2_join 7 = .ok (.dup, 1) := by decide +kernel
theorem dX2_join_8 : decode cX2_join 8 = .ok (.getfield 45, 3) := by decide +kernel
theorem dX2_join_11 : decode cX2_join 11 = .ok (.iconst 1, 1) := by decide +kernel
theorem dX2_join_12 : decode cX2_join 12 = .ok (.iadd, 1) := by decide +kernel
theorem dX2_join_13 : decode cX2_join 13 = .ok (.putfield 45, 3) := by decide +kernel
theorem dX2_join_16 : decode cX2_join 16 = .ok (.aload_n 0, 1) := by decide +kernel
theorem dX2_join_17 : decode cX2_join 17 = .ok (.getfield 15, 3) := by decide +kernel
theorem dX2_join_20 : decode cX2_join 20 = .ok (.iload 5, 2) := by decide +kernel
theorem dX2_join_22 : decode cX2_join 22 = .ok (.iload_n 1, 1) := by decide +kernel
theorem dX2_join_23 : decode cX2_join 23 = .ok (.iastore, 1) := by decide +kernel
theorem dX2_join_24 : decode cX2_join 24 = .ok (.aload_n 0, 1) := by decide +kernel
theorem dX2_join_25 : decode cX2_join 25 = .ok (.getfield 19, 3) := by decide +kernel
theorem dX2_join_28 : decode cX2_join 28 = .ok (.iload 5, 2) := by decide +kernel
theorem dX2_join_30 : decode cX2_join 30 = .ok (.iload_n 2, 1) := by decide +kernel
theorem dX2_join_31 : decode cX2_join 31 = .ok (.iastore, 1) := by decide +kernel
theorem dX2_join_32 : decode cX2_join 32 = .ok (.aload_n 0, 1) := by decide +kernel
theorem dX2_join_33 : decode cX2_join 33 = .ok (.getfield 22, 3) := by decide +kernel
theorem dX2_join_36 : decode cX2_join 36 = .ok (.iload 5, 2) := by decide +kernel
theorem dX2_join_38 : decode cX2_join 38 = .ok (.iload_n 3, 1) := by decide +kernel
theorem dX2_join_39 : decode cX2_join 39 = .ok (.iastore, 1) := by decide +kernel
theorem dX2_join_40 : decode cX2_join 40 = .ok (.aload_n 0, 1) := by decide +kernel
theorem dX2_join_41 : decode cX2_join 41 = .ok (.getfield 25, 3) := by decide +kernel
theorem dX2_join_44 : decode cX2_join 44 = .ok (.iload 5, 2) := by decide +kernel
theorem dX2_join_46 : decode cX2_join 46 = .ok (.iload 4, 2) := by decide +kernel
theorem dX2_join_48 : decode cX2_join 48 = .ok (.iastore, 1) := by decide +kernel
theorem dX2_join_49 : decode cX2_join 49 = .ok (.aload_n 0, 1) := by decide +kernel
theorem dX2_join_50 : decode cX2_join 50 = .ok (.aload_n 0, 1) := by decide +kernel
theorem dX2_join_51 : decode cX2_join 51 = .ok (.getfield 31, 3) := by decide +kernel
theorem dX2_join_54 : decode cX2_join 54 = .ok (.invokevirtual 48, 3) := by decide +kernel
theorem dX2_join_57 : decode cX2_join 57 = .ok (.aload_n 0, 1) := by decide +kernel
theorem dX2_join_58 : decode cX2_join 58 = .ok (.aload_n 0, 1) := by decide +kernel
theorem dX2_join_59 : decode cX2_join 59 = .ok (.getfield 35, 3) := by decide +kernel
theorem dX2_join_62 : decode cX2_join 62 = .ok (.invokevirtual 48, 3) := by decide +kernel
theorem dX2_join_65 : decode cX2_join 65 = .ok (.iload 5, 2) := by decide +kernel
theorem dX2_join_67 : decode cX2_join 67 = .ok (.ireturn, 1) := by decide +kernel
theorem dX2_setGone_0 : decode cX2_setGone 0 = .ok (.aload_n 1, 1) := by decide +kernel
theorem dX2_setGone_1 : decode cX2_setGone 1 = .ok (.getfield 52, 3) := by decide +kernel
theorem dX2_setGone_4 : decode cX2_setGone 4 = .ok (.iload_n 2, 1) := by decide +kernel
theorem dX2_setGone_5 : decode cX2_setGone 5 = .ok (.baload, 1) := by decide +kernel
theorem dX2_setGone_6 : decode cX2_setGone 6 = .ok (.iload_n 3, 1) := by decide +kernel
theorem dX2_setGone_7 : decode cX2_setGone 7 = .ok (.if_icmp .eq 15, 3) := by decide +kernel
theorem dX2_setGone_10 : decode cX2_setGone 10 = .ok (.aload_n 1, 1) := by decide +kernel
theorem dX2_setGone_11 : decode cX2_setGone 11 = .ok (.getfield 52, 3) := by decide +kernel
theorem dX2_setGone_14 : decode cX2_setGone 14 = .ok (.iload_n 2, 1) := by decide +kernel
theorem dX2_setGone_15 : decode cX2_setGone 15 = .ok (.iload_n 3, 1) := by decide +kernel
theorem dX2_setGone_16 : decode cX2_setGone 16 = .ok (.bastore, 1) := by decide +kernel
theorem dX2_setGone_17 : decode cX2_setGone 17 = .ok (.aload_n 0, 1) := by decide +kernel
theorem dX2_setGone_18 : decode cX2_setGone 18 = .ok (.aload_n 1, 1) := by decide +kernel
theorem dX2_setGone_19 : decode cX2_setGone 19 = .ok (.invokevirtual 48, 3) := by decide +kernel
theorem dX2_setGone_22 : decode cX2_setGone 22 = .ok (.return_, 1) := by decide +kernel
theorem dX2_otherEnd_0 : decode cX2_otherEnd 0 = .ok (.aload_n 0, 1) := by decide +kernel
theorem dX2_otherEnd_1 : decode cX2_otherEnd 1 = .ok (.getfield 15, 3) := by decide +kernel
theorem dX2_otherEnd_4 : decode cX2_otherEnd 4 = .ok (.iload_n 1, 1) := by decide +kernel
theorem dX2_otherEnd_5 : decode cX2_otherEnd 5 = .ok (.iaload, 1) := by decide +kernel
theorem dX2_otherEnd_6 : decode cX2_otherEnd 6 = .ok (.iload_n 2, 1) := by decide +kernel
theorem dX2_otherEnd_7 : decode cX2_otherEnd 7 = .ok (.if_icmp .ne 12, 3) := by decide +kernel
theorem dX2_otherEnd_10 : decode cX2_otherEnd 10 = .ok (.aload_n 0, 1) := by decide +kernel
theorem dX2_otherEnd_11 : decode cX2_otherEnd 11 = .ok (.getfield 19, 3) := by decide +kernel
theorem dX2_otherEnd_14 : decode cX2_otherEnd 14 = .ok (.iload_n 1, 1) := by decide +kernel
theorem dX2_otherEnd_15 : decode cX2_otherEnd 15 = .ok (.iaload, 1) := by decide +kernel
theorem dX2_otherEnd_16 : decode cX2_otherEnd 16 = .ok (.goto 9, 3) := by decide +kernel
theorem dX2_otherEnd_19 : decode cX2_otherEnd 19 = .ok (.aload_n 0, 1) := by decide +kernel
theorem dX2_otherEnd_20 : decode cX2_otherEnd 20 = .ok (.getfield 15, 3) := by decide +kernel
theorem dX2_otherEnd_23 : decode cX2_otherEnd 23 = .ok (.iload_n 1, 1) := by decide +kernel
theorem dX2_otherEnd_24 : decode cX2_otherEnd 24 = .ok (.iaload, 1) := by decide +kernel
theorem dX2_otherEnd_25 : decode cX2_otherEnd 25 = .ok (.ireturn, 1) := by decide +kernel
theorem dX2_minutesFrom_0 : decode cX2_minutesFrom 0 = .ok (.aload_n 0, 1) := by decide +kernel
theorem dX2_minutesFrom_1 : decode cX2_minutesFrom 1 = .ok (.getfield 15, 3) := by decide +kernel
theorem dX2_minutesFrom_4 : decode cX2_minutesFrom 4 = .ok (.iload_n 1, 1) := by decide +kernel
theorem dX2_minutesFrom_5 : decode cX2_minutesFrom 5 = .ok (.iaload, 1) := by decide +kernel
theorem dX2_minutesFrom_6 : decode cX2_minutesFrom 6 = .ok (.iload_n 2, 1) := by decide +kernel
theorem dX2_minutesFrom_7 : decode cX2_minutesFrom 7 = .ok (.if_icmp .ne 12, 3) := by decide +kernel
theorem dX2_minutesFrom_10 : decode cX2_minutesFrom 10 = .ok (.aload_n 0, 1) := by decide +kernel
theorem dX2_minutesFrom_11 : decode cX2_minutesFrom 11 = .ok (.getfield 22, 3) := by decide +kernel
theorem dX2_minutesFrom_14 : decode cX2_minutesFrom 14 = .ok (.iload_n 1, 1) := by decide +kernel
theorem dX2_minutesFrom_15 : decode cX2_minutesFrom 15 = .ok (.iaload, 1) := by decide +kernel
theorem dX2_minutesFrom_16 : decode cX2_minutesFrom 16 = .ok (.goto 9, 3) := by decide +kernel
theorem dX2_minutesFrom_19 : decode cX2_minutesFrom 19 = .ok (.aload_n 0, 1) := by decide +kernel
theorem dX2_minutesFrom_20 : decode cX2_minutesFrom 20 = .ok (.getfield 25, 3) := by decide +kernel
theorem dX2_minutesFrom_23 : decode cX2_minutesFrom 23 = .ok (.iload_n 1, 1) := by decide +kernel
theorem dX2_minutesFrom_24 : decode cX2_minutesFrom 24 = .ok (.iaload, 1) := by decide +kernel
theorem dX2_minutesFrom_25 : decode cX2_minutesFrom 25 = .ok (.ireturn, 1) := by decide +kernel
theorem dX2_trailTowards_0 : decode cX2_trailTowards 0 = .ok (.aload_n 0, 1) := by decide +kernel
theorem dX2_trailTowards_1 : decode cX2_trailTowards 1 = .ok (.getfield 35, 3) := by decide +kernel
theorem dX2_trailTowards_4 : decode cX2_trailTowards 4 = .ok (.iload_n 1, 1) := by decide +kernel
theorem dX2_trailTowards_5 : decode cX2_trailTowards 5 = .ok (.iload_n 2, 1) := by decide +kernel
theorem dX2_trailTowards_6 : decode cX2_trailTowards 6 = .ok (.invokevirtual 55, 3) := by decide +kernel
theorem dX2_trailTowards_9 : decode cX2_trailTowards 9 = .ok (.istore_n 3, 1) := by decide +kernel
theorem dX2_trailTowards_10 : decode cX2_trailTowards 10 = .ok (.iload_n 1, 1) := by decide +kernel
theorem dX2_trailTowards_11 : decode cX2_trailTowards 11 = .ok (.iload_n 2, 1) := by decide +kernel
theorem dX2_trailTowards_12 : decode cX2_trailTowards 12 = .ok (.if_icmp .eq 9, 3) := by decide +kernel
theorem dX2_trailTowards_15 : decode cX2_trailTowards 15 = .ok (.iload_n 3, 1) := by decide +kernel
theorem dX2_trailTowards_16 : decode cX2_trailTowards 16 = .ok (.ldc 59, 2) := by decide +kernel
theorem dX2_trailTowards_18 : decode cX2_trailTowards 18 = .ok (.if_icmp .lt 5, 3) := by decide +kernel
theorem dX2_trailTowards_21 : decode cX2_trailTowards 21 = .ok (.iconst (-1), 1) := by decide +kernel
theorem dX2_trailTowards_22 : decode cX2_trailTowards 22 = .ok (.ireturn, 1) := by decide +kernel
theorem dX2_trailTowards_23 : decode cX2_trailTowards 23 = .ok (.iconst 0, 1) := by decide +kernel
theorem dX2_trailTowards_24 : decode cX2_trailTowards 24 = .ok (.istore 4, 2) := by decide +kernel
theorem dX2_trailTowards_26 : decode cX2_trailTowards 26 = .ok (.iload 4, 2) := by decide +kernel
theorem dX2_trailTowards_28 : decode cX2_trailTowards 28 = .ok (.aload_n 0, 1) := by decide +kernel
theorem dX2_trailTowards_29 : decode cX2_trailTowards 29 = .ok (.getfield 45, 3) := by decide +kernel
theorem dX2_trailTowards_32 : decode cX2_trailTowards 32 = .ok (.if_icmp .ge 75, 3) := by decide +kernel
theorem dX2_trailTowards_35 : decode cX2_trailTowards 35 = .ok (.aload_n 0, 1) := by decide +kernel
theorem dX2_trailTowards_36 : decode cX2_trailTowards 36 = .ok (.getfield 15, 3) := by decide +kernel
theorem dX2_trailTowards_39 : decode cX2_trailTowards 39 = .ok (.iload 4, 2) := by decide +kernel
theorem dX2_trailTowards_41 : decode cX2_trailTowards 41 = .ok (.iaload, 1) := by decide +kernel
theorem dX2_trailTowards_42 : decode cX2_trailTowards 42 = .ok (.iload_n 1, 1) := by decide +kernel
theorem dX2_trailTowards_43 : decode cX2_trailTowards 43 = .ok (.if_icmp .eq 14, 3) := by decide +kernel
theorem dX2_trailTowards_46 : decode cX2_trailTowards 46 = .ok (.aload_n 0, 1) := by decide +kernel
theorem dX2_trailTowards_47 : decode cX2_trailTowards 47 = .ok (.getfield 19, 3) := by decide +kernel
theorem dX2_trailTowards_50 : decode cX2_trailTowards 50 = .ok (.iload 4, 2) := by decide +kernel
theorem dX2_trailTowards_52 : decode cX2_trailTowards 52 = .ok (.iaload, 1) := by decide +kernel
theorem dX2_trailTowards_53 : decode cX2_trailTowards 53 = .ok (.iload_n 1, 1) := by decide +kernel
theorem dX2_trailTowards_54 : decode cX2_trailTowards 54 = .ok (.if_icmp .ne 7, 3) := by decide +kernel
theorem dX2_trailTowards_57 : decode cX2_trailTowards 57 = .ok (.iconst 1, 1) := by decide +kernel
theorem dX2_trailTowards_58 : decode cX2_trailTowards 58 = .ok (.goto 4, 3) := by decide +kernel
theorem dX2_trailTowards_61 : decode cX2_trailTowards 61 = .ok (.iconst 0, 1) := by decide +kernel
theorem dX2_trailTowards_62 : decode cX2_trailTowards 62 = .ok (.istore 5, 2) := by decide +kernel
theorem dX2_trailTowards_64 : decode cX2_trailTowards 64 = .ok (.iload 5, 2) := by decide +kernel
theorem dX2_trailTowards_66 : decode cX2_trailTowards 66 = .ok (.ifCond .eq 35, 3) := by decide +kernel
theorem dX2_trailTowards_69 : decode cX2_trailTowards 69 = .ok (.aload_n 0, 1) := by decide +kernel
theorem dX2_trailTowards_70 : decode cX2_trailTowards 70 = .ok (.getfield 35, 3) := by decide +kernel
theorem dX2_trailTowards_73 : decode cX2_trailTowards 73 = .ok (.getfield 52, 3) := by decide +kernel
theorem dX2_trailTowards_76 : decode cX2_trailTowards 76 = .ok (.iload 4, 2) := by decide +kernel
theorem dX2_trailTowards_78 : decode cX2_trailTowards 78 = .ok (.baload, 1) := by decide +kernel
theorem dX2_trailTowards_79 : decode cX2_trailTowards 79 = .ok (.ifCond .ne 22, 3) := by decide +kernel
theorem dX2_trailTowards_82 : decode cX2_trailTowards 82 = .ok (.aload_n 0, 1) := by decide +kernel
theorem dX2_trailTowards_83 : decode cX2_trailTowards 83 = .ok (.iload 4, 2) := by decide +kernel
theorem dX2_trailTowards_85 : decode cX2_trailTowards 85 = .ok (.iload_n 1, 1) := by decide +kernel
theorem dX2_trailTowards_86 : decode cX2_trailTowards 86 = .ok (.iload_n 2, 1) := by decide +kernel
theorem dX2_trailTowards_87 : decode cX2_trailTowards 87 = .ok (.aload_n 0, 1) := by decide +kernel
theorem dX2_trailTowards_88 : decode cX2_trailTowards 88 = .ok (.getfield 35, 3) := by decide +kernel
theorem dX2_trailTowards_91 : decode cX2_trailTowards 91 = .ok (.invokevirtual 60, 3) := by decide +kernel
theorem dX2_trailTowards_94 : decode cX2_trailTowards 94 = .ok (.iload_n 3, 1) := by decide +kernel
theorem dX2_trailTowards_95 : decode cX2_trailTowards 95 = .ok (.if_icmp .ne 6, 3) := by decide +kernel
theorem dX2_trailTowards_98 : decode cX2_trailTowards 98 = .ok (.iload 4, 2) := by decide +kernel
theorem dX2_trailTowards_100 : decode cX2_trailTowards 100 = .ok (.ireturn, 1) := by decide +kernel
theorem dX2_trailTowards_101 : decode cX2_trailTowards 101 = .ok (.iinc 4 1, 3) := by decide +kernel
theorem dX2_trailTowards_104 : decode cX2_trailTowards 104 = .ok (.goto (-78), 3) := by decide +kernel
theorem dX2_trailTowards_107 : decode cX2_trailTowards 107 = .ok (.iconst (-1), 1) := by decide +kernel
theorem dX2_trailTowards_108 : decode cX2_trailTowards 108 = .ok (.ireturn, 1) := by decide +kernel
theorem dX2_minutesBy_0 : decode cX2_minutesBy 0 = .ok (.aload_n 0, 1) := by decide +kernel
theorem dX2_minutesBy_1 : decode cX2_minutesBy 1 = .ok (.iload_n 1, 1) := by decide +kernel
theorem dX2_minutesBy_2 : decode cX2_minutesBy 2 = .ok (.iload_n 2, 1) := by decide +kernel
theorem dX2_minutesBy_3 : decode cX2_minutesBy 3 = .ok (.invokevirtual 64, 3) := by decide +kernel
theorem dX2_minutesBy_6 : decode cX2_minutesBy 6 = .ok (.aload 4, 2) := by decide +kernel
theorem dX2_minutesBy_8 : decode cX2_minutesBy 8 = .ok (.aload_n 0, 1) := by decide +kernel
theorem dX2_minutesBy_9 : decode cX2_minutesBy 9 = .ok (.iload_n 1, 1) := by decide +kernel
theorem dX2_minutesBy_10 : decode cX2_minutesBy 10 = .ok (.iload_n 2, 1) := by decide +kernel
theorem dX2_minutesBy_11 : decode cX2_minutesBy 11 = .ok (.invokevirtual 67, 3) := by decide +kernel
theorem dX2_minutesBy_14 : decode cX2_minutesBy 14 = .ok (.iload_n 3, 1) := by decide +kernel
theorem dX2_minutesBy_15 : decode cX2_minutesBy 15 = .ok (.invokevirtual 55, 3) := by decide +kernel
theorem dX2_minutesBy_18 : decode cX2_minutesBy 18 = .ok (.iadd, 1) := by decide +kernel
theorem dX2_minutesBy_19 : decode cX2_minutesBy 19 = .ok (.ireturn, 1) := by decide +kernel
theorem dX2_findWays_0 : decode cX2_findWays 0 = .ok (.aload_n 1, 1) := by decide +kernel
theorem dX2_findWays_1 : decode cX2_findWays 1 = .ok (.invokevirtual 70, 3) := by decide +kernel
theorem dX2_findWays_4 : decode cX2_findWays 4 = .ok (.iconst 1, 1) := by decide +kernel
theorem dX2_findWays_5 : decode cX2_findWays 5 = .ok (.istore_n 2, 1) := by decide +kernel
theorem dX2_findWays_6 : decode cX2_findWays 6 = .ok (.iconst 1, 1) := by decide +kernel
theorem dX2_findWays_7 : decode cX2_findWays 7 = .ok (.istore_n 3, 1) := by decide +kernel
theorem dX2_findWays_8 : decode cX2_findWays 8 = .ok (.iload_n 3, 1) := by decide +kernel
theorem dX2_findWays_9 : decode cX2_findWays 9 = .ok (.aload_n 0, 1) := by decide +kernel
theorem dX2_findWays_10 : decode cX2_findWays 10 = .ok (.getfield 41, 3) := by decide +kernel
theorem dX2_findWays_13 : decode cX2_findWays 13 = .ok (.if_icmp .ge 58, 3) := by decide +kernel
theorem dX2_findWays_16 : decode cX2_findWays 16 = .ok (.iload_n 2, 1) := by decide +kernel
theorem dX2_findWays_17 : decode cX2_findWays 17 = .ok (.ifCond .eq 54, 3) := by decide +kernel
theorem dX2_findWays_20 : decode cX2_findWays 20 = .ok (.iconst 0, 1) := by decide +kernel
theorem dX2_findWays_21 : decode cX2_findWays 21 = .ok (.istore_n 2, 1) := by decide +kernel
theorem dX2_findWays_22 : decode cX2_findWays 22 = .ok (.iconst 0, 1) := by decide +kernel
theorem dX2_findWays_23 : decode cX2_findWays 23 = .ok (.istore 4, 2) := by decide +kernel
theorem dX2_findWays_25 : decode cX2_findWays 25 = .ok (.iload 4, 2) := by decide +kernel
theorem dX2_findWays_27 : decode cX2_findWays 27 = .ok (.aload_n 0, 1) := by decide +kernel
theorem dX2_findWays_28 : decode cX2_findWays 28 = .ok (.getfield 45, 3) := by decide +kernel
theorem dX2_findWays_31 : decode cX2_findWays 31 = .ok (.if_icmp .ge 34, 3) := by decide +kernel
theorem dX2_findWays_34 : decode cX2_findWays 34 = .ok (.aload_n 1, 1) := by decide +kernel
theorem dX2_findWays_35 : decode cX2_findWays 35 = .ok (.getfield 52, 3) := by decide +kernel
theorem dX2_findWays_38 : decode cX2_findWays 38 = .ok (.iload 4, 2) := by decide +kernel
theorem dX2_findWays_40 : decode cX2_findWays 40 = .ok (.baload, 1) := by decide +kernel
theorem dX2_findWays_41 : decode cX2_findWays 41 = .ok (.ifCond .ne 18, 3) := by decide +kernel
theorem dX2_findWays_44 : decode cX2_findWays 44 = .ok (.aload_n 0, 1) := by decide +kernel
theorem dX2_findWays_45 : decode cX2_findWays 45 = .ok (.iload 4, 2) := by decide +kernel
theorem dX2_findWays_47 : decode cX2_findWays 47 = .ok (.aload_n 1, 1) := by decide +kernel
theorem dX2_findWays_48 : decode cX2_findWays 48 = .ok (.getfield 73, 3) := by decide +kernel
theorem dX2_findWays_51 : decode cX2_findWays 51 = .ok (.invokevirtual 76, 3) := by decide +kernel
theorem dX2_findWays_54 : decode cX2_findWays 54 = .ok (.ifCond .eq 5, 3) := by decide +kernel
theorem dX2_findWays_57 : decode cX2_findWays 57 = .ok (.iconst 1, 1) := by decide +kernel
theorem dX2_findWays_58 : decode cX2_findWays 58 = .ok (.istore_n 2, 1) := by decide +kernel
theorem dX2_findWays_59 : decode cX2_findWays 59 = .ok (.iinc 4 1, 3) := by decide +kernel
theorem dX2_findWays_62 : decode cX2_findWays 62 = .ok (.goto (-37), 3) := by decide +kernel
theorem dX2_findWays_65 : decode cX2_findWays 65 = .ok (.iinc 3 1, 3) := by decide +kernel
theorem dX2_findWays_68 : decode cX2_findWays 68 = .ok (.goto (-60), 3) := by decide +kernel
theorem dX2_findWays_71 : decode cX2_findWays 71 = .ok (.return_, 1) := by decide +kernel
theorem dX2_shortenBy_0 : decode cX2_shortenBy 0 = .ok (.iconst 0, 1) := by decide +kernel
theorem dX2_shortenBy_1 : decode cX2_shortenBy 1 = .ok (.istore_n 3, 1) := by decide +kernel
theorem dX2_shortenBy_2 : decode cX2_shortenBy 2 = .ok (.aload_n 0, 1) := by decide +kernel
theorem dX2_shortenBy_3 : decode cX2_shortenBy 3 = .ok (.getfield 15, 3) := by decide +kernel
theorem dX2_shortenBy_6 : decode cX2_shortenBy 6 = .ok (.iload_n 1, 1) := by decide +kernel
theorem dX2_shortenBy_7 : decode cX2_shortenBy 7 = .ok (.iaload, 1) := by decide +kernel
theorem dX2_shortenBy_8 : decode cX2_shortenBy 8 = .ok (.bipush 16, 2) := by decide +kernel
theorem dX2_shortenBy_10 : decode cX2_shortenBy 10 = .ok (.imul, 1) := by decide +kernel
theorem dX2_shortenBy_11 : decode cX2_shortenBy 11 = .ok (.istore 4, 2) := by decide +kernel
theorem dX2_shortenBy_13 : decode cX2_shortenBy 13 = .ok (.aload_n 0, 1) := by decide +kernel
theorem dX2_shortenBy_14 : decode cX2_shortenBy 14 = .ok (.getfield 19, 3) := by decide +kernel
theorem dX2_shortenBy_17 : decode cX2_shortenBy 17 = .ok (.iload_n 1, 1) := by decide +kernel
theorem dX2_shortenBy_18 : decode cX2_shortenBy 18 = .ok (.iaload, 1) := by decide +kernel
theorem dX2_shortenBy_19 : decode cX2_shortenBy 19 = .ok (.bipush 16, 2) := by decide +kernel
theorem dX2_shortenBy_21 : decode cX2_shortenBy 21 = .ok (.imul, 1) := by decide +kernel
theorem dX2_shortenBy_22 : decode cX2_shortenBy 22 = .ok (.istore 5, 2) := by decide +kernel
theorem dX2_shortenBy_24 : decode cX2_shortenBy 24 = .ok (.iconst 0, 1) := by decide +kernel
theorem dX2_shortenBy_25 : decode cX2_shortenBy 25 = .ok (.istore 6, 2) := by decide +kernel
theorem dX2_shortenBy_27 : decode cX2_shortenBy 27 = .ok (.iload 6, 2) := by decide +kernel
theorem dX2_shortenBy_29 : decode cX2_shortenBy 29 = .ok (.aload_n 0, 1) := by decide +kernel
theorem dX2_shortenBy_30 : decode cX2_shortenBy 30 = .ok (.getfield 41, 3) := by decide +kernel
theorem dX2_shortenBy_33 : decode cX2_shortenBy 33 = .ok (.if_icmp .ge 87, 3) := by decide +kernel
theorem dX2_shortenBy_36 : decode cX2_shortenBy 36 = .ok (.aload_n 0, 1) := by decide +kernel
theorem dX2_shortenBy_37 : decode cX2_shortenBy 37 = .ok (.getfield 22, 3) := by decide +kernel
theorem dX2_shortenBy_40 : decode cX2_shortenBy 40 = .ok (.iload_n 1, 1) := by decide +kernel
theorem dX2_shortenBy_41 : decode cX2_shortenBy 41 = .ok (.iaload, 1) := by decide +kernel
theorem dX2_shortenBy_42 : decode cX2_shortenBy 42 = .ok (.aload_n 2, 1) := by decide +kernel
theorem dX2_shortenBy_43 : decode cX2_shortenBy 43 = .ok (.iload 5, 2) := by decide +kernel
theorem dX2_shortenBy_45 : decode cX2_shortenBy 45 = .ok (.iload 6, 2) := by decide +kernel
theorem dX2_shortenBy_47 : decode cX2_shortenBy 47 = .ok (.iadd, 1) := by decide +kernel
theorem dX2_shortenBy_48 : decode cX2_shortenBy 48 = .ok (.iaload, 1) := by decide +kernel
theorem dX2_shortenBy_49 : decode cX2_shortenBy 49 = .ok (.iadd, 1) := by decide +kernel
theorem dX2_shortenBy_50 : decode cX2_shortenBy 50 = .ok (.istore 7, 2) := by decide +kernel
theorem dX2_shortenBy_52 : decode cX2_shortenBy 52 = .ok (.iload 7, 2) := by decide +kernel
theorem dX2_shortenBy_54 : decode cX2_shortenBy 54 = .ok (.aload_n 2, 1) := by decide +kernel
theorem dX2_shortenBy_55 : decode cX2_shortenBy 55 = .ok (.iload 4, 2) := by decide +kernel
theorem dX2_shortenBy_57 : decode cX2_shortenBy 57 = .ok (.iload 6, 2) := by decide +kernel
theorem dX2_shortenBy_59 : decode cX2_shortenBy 59 = .ok (.iadd, 1) := by decide +kernel
theorem dX2_shortenBy_60 : decode cX2_shortenBy 60 = .ok (.iaload, 1) := by decide +kernel
theorem dX2_shortenBy_61 : decode cX2_shortenBy 61 = .ok (.if_icmp .ge 14, 3) := by decide +kernel
theorem dX2_shortenBy_64 : decode cX2_shortenBy 64 = .ok (.aload_n 2, 1) := by decide +kernel
theorem dX2_shortenBy_65 : decode cX2_shortenBy 65 = .ok (.iload 4, 2) := by decide +kernel
theorem dX2_shortenBy_67 : decode cX2_shortenBy 67 = .ok (.iload 6, 2) := by decide +kernel
theorem dX2_shortenBy_69 : decode cX2_shortenBy 69 = .ok (.iadd, 1) := by decide +kernel
theorem dX2_shortenBy_70 : decode cX2_shortenBy 70 = .ok (.iload 7, 2) := by decide +kernel
theorem dX2_shortenBy_72 : decode cX2_shortenBy 72 = .ok (.iastore, 1) := by decide +kernel
theorem dX2_shortenBy_73 : decode cX2_shortenBy 73 = .ok (.iconst 1, 1) := by decide +kernel
theorem dX2_shortenBy_74 : decode cX2_shortenBy 74 = .ok (.istore_n 3, 1) := by decide +kernel
theorem dX2_shortenBy_75 : decode cX2_shortenBy 75 = .ok (.aload_n 0, 1) := by decide +kernel
theorem dX2_shortenBy_76 : decode cX2_shortenBy 76 = .ok (.getfield 25, 3) := by decide +kernel
theorem dX2_shortenBy_79 : decode cX2_shortenBy 79 = .ok (.iload_n 1, 1) := by decide +kernel
theorem dX2_shortenBy_80 : decode cX2_shortenBy 80 = .ok (.iaload, 1) := by decide +kernel
theorem dX2_shortenBy_81 : decode cX2_shortenBy 81 = .ok (.aload_n 2, 1) := by decide +kernel
theorem dX2_shortenBy_82 : decode cX2_shortenBy 82 = .ok (.iload 4, 2) := by decide +kernel
theorem dX2_shortenBy_84 : decode cX2_shortenBy 84 = .ok (.iload 6, 2) := by decide +kernel
theorem dX2_shortenBy_86 : decode cX2_shortenBy 86 = .ok (.iadd, 1) := by decide +kernel
theorem dX2_shortenBy_87 : decode cX2_shortenBy 87 = .ok (.iaload, 1) := by decide +kernel
theorem dX2_shortenBy_88 : decode cX2_shortenBy 88 = .ok (.iadd, 1) := by decide +kernel
theorem dX2_shortenBy_89 : decode cX2_shortenBy 89 = .ok (.istore 8, 2) := by decide +kernel
theorem dX2_shortenBy_91 : decode cX2_shortenBy 91 = .ok (.iload 8, 2) := by decide +kernel
theorem dX2_shortenBy_93 : decode cX2_shortenBy 93 = .ok (.aload_n 2, 1) := by decide +kernel
theorem dX2_shortenBy_94 : decode cX2_shortenBy 94 = .ok (.iload 5, 2) := by decide +kernel
theorem dX2_shortenBy_96 : decode cX2_shortenBy 96 = .ok (.iload 6, 2) := by decide +kernel
theorem dX2_shortenBy_98 : decode cX2_shortenBy 98 = .ok (.iadd, 1) := by decide +kernel
theorem dX2_shortenBy_99 : decode cX2_shortenBy 99 = .ok (.iaload, 1) := by decide +kernel
theorem dX2_shortenBy_100 : decode cX2_shortenBy 100 = .ok (.if_icmp .ge 14, 3) := by decide +kernel
theorem dX2_shortenBy_103 : decode cX2_shortenBy 103 = .ok (.aload_n 2, 1) := by decide +kernel
theorem dX2_shortenBy_104 : decode cX2_shortenBy 104 = .ok (.iload 5, 2) := by decide +kernel
theorem dX2_shortenBy_106 : decode cX2_shortenBy 106 = .ok (.iload 6, 2) := by decide +kernel
theorem dX2_shortenBy_108 : decode cX2_shortenBy 108 = .ok (.iadd, 1) := by decide +kernel
theorem dX2_shortenBy_109 : decode cX2_shortenBy 109 = .ok (.iload 8, 2) := by decide +kernel
theorem dX2_shortenBy_111 : decode cX2_shortenBy 111 = .ok (.iastore, 1) := by decide +kernel
theorem dX2_shortenBy_112 : decode cX2_shortenBy 112 = .ok (.iconst 1, 1) := by decide +kernel
theorem dX2_shortenBy_113 : decode cX2_shortenBy 113 = .ok (.istore_n 3, 1) := by decide +kernel
theorem dX2_shortenBy_114 : decode cX2_shortenBy 114 = .ok (.iinc 6 1, 3) := by decide +kernel
theorem dX2_shortenBy_117 : decode cX2_shortenBy 117 = .ok (.goto (-90), 3) := by decide +kernel
theorem dX2_shortenBy_120 : decode cX2_shortenBy 120 = .ok (.iload_n 3, 1) := by decide +kernel
theorem dX2_shortenBy_121 : decode cX2_shortenBy 121 = .ok (.ireturn, 1) := by decide +kernel
theorem dX2_hasLeastMinutes_0 : decode cX2_hasLeastMinutes 0 = .ok (.aload_n 0, 1) := by decide +kernel
theorem dX2_hasLeastMinutes_1 : decode cX2_hasLeastMinutes 1 = .ok (.aload_n 1, 1) := by decide +kernel
theorem dX2_hasLeastMinutes_2 : decode cX2_hasLeastMinutes 2 = .ok (.invokevirtual 80, 3) := by decide +kernel
theorem dX2_hasLeastMinutes_5 : decode cX2_hasLeastMinutes 5 = .ok (.iconst 0, 1) := by decide +kernel
theorem dX2_hasLeastMinutes_6 : decode cX2_hasLeastMinutes 6 = .ok (.istore_n 2, 1) := by decide +kernel
theorem dX2_hasLeastMinutes_7 : decode cX2_hasLeastMinutes 7 = .ok (.iload_n 2, 1) := by decide +kernel
theorem dX2_hasLeastMinutes_8 : decode cX2_hasLeastMinutes 8 = .ok (.aload_n 0, 1) := by decide +kernel
theorem dX2_hasLeastMinutes_9 : decode cX2_hasLeastMinutes 9 = .ok (.getfield 41, 3) := by decide +kernel
theorem dX2_hasLeastMinutes_12 : decode cX2_hasLeastMinutes 12 = .ok (.if_icmp .ge 14, 3) := by decide +kernel
theorem dX2_hasLeastMinutes_15 : decode cX2_hasLeastMinutes 15 = .ok (.aload_n 0, 1) := by decide +kernel
theorem dX2_hasLeastMinutes_16 : decode cX2_hasLeastMinutes 16 = .ok (.iload_n 2, 1) := by decide +kernel
theorem dX2_hasLeastMinutes_17 : decode cX2_hasLeastMinutes 17 = .ok (.invokevirtual 83, 3) := by decide +kernel
theorem dX2_hasLeastMinutes_20 : decode cX2_hasLeastMinutes 20 = .ok (.iinc 2 1, 3) := by decide +kernel
theorem dX2_hasLeastMinutes_23 : decode cX2_hasLeastMinutes 23 = .ok (.goto (-16), 3) := by decide +kernel
theorem dX2_hasLeastMinutes_26 : decode cX2_hasLeastMinutes 26 = .ok (.iconst 0, 1) := by decide +kernel
theorem dX2_hasLeastMinutes_27 : decode cX2_hasLeastMinutes 27 = .ok (.istore_n 2, 1) := by decide +kernel
theorem dX2_hasLeastMinutes_28 : decode cX2_hasLeastMinutes 28 = .ok (.iload_n 2, 1) := by decide +kernel
theorem dX2_hasLeastMinutes_29 : decode cX2_hasLeastMinutes 29 = .ok (.aload_n 0, 1) := by decide +kernel
theorem dX2_hasLeastMinutes_30 : decode cX2_hasLeastMinutes 30 = .ok (.getfield 41, 3) := by decide +kernel
theorem dX2_hasLeastMinutes_33 : decode cX2_hasLeastMinutes 33 = .ok (.if_icmp .ge 47, 3) := by decide +kernel
theorem dX2_hasLeastMinutes_36 : decode cX2_hasLeastMinutes 36 = .ok (.iconst 0, 1) := by decide +kernel
theorem dX2_hasLeastMinutes_37 : decode cX2_hasLeastMinutes 37 = .ok (.istore_n 3, 1) := by decide +kernel
theorem dX2_hasLeastMinutes_38 : decode cX2_hasLeastMinutes 38 = .ok (.iload_n 3, 1) := by decide +kernel
theorem dX2_hasLeastMinutes_39 : decode cX2_hasLeastMinutes 39 = .ok (.aload_n 0, 1) := by decide +kernel
theorem dX2_hasLeastMinutes_40 : decode cX2_hasLeastMinutes 40 = .ok (.getfield 41, 3) := by decide +kernel
theorem dX2_hasLeastMinutes_43 : decode cX2_hasLeastMinutes 43 = .ok (.if_icmp .ge 31, 3) := by decide +kernel
theorem dX2_hasLeastMinutes_46 : decode cX2_hasLeastMinutes 46 = .ok (.aload_n 0, 1) := by decide +kernel
theorem dX2_hasLeastMinutes_47 : decode cX2_hasLeastMinutes 47 = .ok (.getfield 38, 3) := by decide +kernel
theorem dX2_hasLeastMinutes_50 : decode cX2_hasLeastMinutes 50 = .ok (.iload_n 2, 1) := by decide +kernel
theorem dX2_hasLeastMinutes_51 : decode cX2_hasLeastMinutes 51 = .ok (.bipush 16, 2) := by decide +kernel
theorem dX2_hasLeastMinutes_53 : decode cX2_hasLeastMinutes 53 = .ok (.imul, 1) := by decide +kernel
theorem dX2_hasLeastMinutes_54 : decode cX2_hasLeastMinutes 54 = .ok (.iload_n 3, 1) := by decide +kernel
theorem dX2_hasLeastMinutes_55 : decode cX2_hasLeastMinutes 55 = .ok (.iadd, 1) := by decide +kernel
theorem dX2_hasLeastMinutes_56 : decode cX2_hasLeastMinutes 56 = .ok (.iaload, 1) := by decide +kernel
theorem dX2_hasLeastMinutes_57 : decode cX2_hasLeastMinutes 57 = .ok (.aload_n 1, 1) := by decide +kernel
theorem dX2_hasLeastMinutes_58 : decode cX2_hasLeastMinutes 58 = .ok (.iload_n 2, 1) := by decide +kernel
theorem dX2_hasLeastMinutes_59 : decode cX2_hasLeastMinutes 59 = .ok (.iload_n 3, 1) := by decide +kernel
theorem dX2_hasLeastMinutes_60 : decode cX2_hasLeastMinutes 60 = .ok (.invokevirtual 55, 3) := by decide +kernel
theorem dX2_hasLeastMinutes_63 : decode cX2_hasLeastMinutes 63 = .ok (.if_icmp .eq 5, 3) := by decide +kernel
theorem dX2_hasLeastMinutes_66 : decode cX2_hasLeastMinutes 66 = .ok (.iconst 0, 1) := by decide +kernel
theorem dX2_hasLeastMinutes_67 : decode cX2_hasLeastMinutes 67 = .ok (.ireturn, 1) := by decide +kernel
theorem dX2_hasLeastMinutes_68 : decode cX2_hasLeastMinutes 68 = .ok (.iinc 3 1, 3) := by decide +kernel
theorem dX2_hasLeastMinutes_71 : decode cX2_hasLeastMinutes 71 = .ok (.goto (-33), 3) := by decide +kernel
theorem dX2_hasLeastMinutes_74 : decode cX2_hasLeastMinutes 74 = .ok (.iinc 2 1, 3) := by decide +kernel
theorem dX2_hasLeastMinutes_77 : decode cX2_hasLeastMinutes 77 = .ok (.goto (-49), 3) := by decide +kernel
theorem dX2_hasLeastMinutes_80 : decode cX2_hasLeastMinutes 80 = .ok (.iconst 1, 1) := by decide +kernel
theorem dX2_hasLeastMinutes_81 : decode cX2_hasLeastMinutes 81 = .ok (.ireturn, 1) := by decide +kernel
theorem dX2_startComparing_0 : decode cX2_startComparing 0 = .ok (.iconst 0, 1) := by decide +kernel
theorem dX2_startComparing_1 : decode cX2_startComparing 1 = .ok (.istore_n 2, 1) := by decide +kernel
theorem dX2_startComparing_2 : decode cX2_startComparing 2 = .ok (.iload_n 2, 1) := by decide +kernel
theorem dX2_startComparing_3 : decode cX2_startComparing 3 = .ok (.aload_n 0, 1) := by decide +kernel
theorem dX2_startComparing_4 : decode cX2_startComparing 4 = .ok (.getfield 41, 3) := by decide +kernel
theorem dX2_startComparing_7 : decode cX2_startComparing 7 = .ok (.if_icmp .ge 47, 3) := by decide +kernel
theorem dX2_startComparing_10 : decode cX2_startComparing 10 = .ok (.iconst 0, 1) := by decide +kernel
theorem dX2_startComparing_11 : decode cX2_startComparing 11 = .ok (.istore_n 3, 1) := by decide +kernel
theorem dX2_startComparing_12 : decode cX2_startComparing 12 = .ok (.iload_n 3, 1) := by decide +kernel
theorem dX2_startComparing_13 : decode cX2_startComparing 13 = .ok (.aload_n 0, 1) := by decide +kernel
theorem dX2_startComparing_14 : decode cX2_startComparing 14 = .ok (.getfield 41, 3) := by decide +kernel
theorem dX2_startComparing_17 : decode cX2_startComparing 17 = .ok (.if_icmp .ge 31, 3) := by decide +kernel
theorem dX2_startComparing_20 : decode cX2_startComparing 20 = .ok (.aload_n 0, 1) := by decide +kernel
theorem dX2_startComparing_21 : decode cX2_startComparing 21 = .ok (.getfield 38, 3) := by decide +kernel
theorem dX2_startComparing_24 : decode cX2_startComparing 24 = .ok (.iload_n 2, 1) := by decide +kernel
theorem dX2_startComparing_25 : decode cX2_startComparing 25 = .ok (.bipush 16, 2) := by decide +kernel
theorem dX2_startComparing_27 : decode cX2_startComparing 27 = .ok (.imul, 1) := by decide +kernel
theorem dX2_startComparing_28 : decode cX2_startComparing 28 = .ok (.iload_n 3, 1) := by decide +kernel
theorem dX2_startComparing_29 : decode cX2_startComparing 29 = .ok (.iadd, 1) := by decide +kernel
theorem dX2_startComparing_30 : decode cX2_startComparing 30 = .ok (.iload_n 2, 1) := by decide +kernel
theorem dX2_startComparing_31 : decode cX2_startComparing 31 = .ok (.iload_n 3, 1) := by decide +kernel
theorem dX2_startComparing_32 : decode cX2_startComparing 32 = .ok (.if_icmp .ne 7, 3) := by decide +kernel
theorem dX2_startComparing_35 : decode cX2_startComparing 35 = .ok (.iconst 0, 1) := by decide +kernel
theorem dX2_startComparing_36 : decode cX2_startComparing 36 = .ok (.goto 5, 3) := by decide +kernel
theorem dX2_startComparing_39 : decode cX2_startComparing 39 = .ok (.ldc 59, 2) := by decide +kernel
theorem dX2_startComparing_41 : decode cX2_startComparing 41 = .ok (.iastore, 1) := by decide +kernel
theorem dX2_startComparing_42 : decode cX2_startComparing 42 = .ok (.iinc 3 1, 3) := by decide +kernel
theorem dX2_startComparing_45 : decode cX2_startComparing 45 = .ok (.goto (-33), 3) := by decide +kernel
theorem dX2_startComparing_48 : decode cX2_startComparing 48 = .ok (.iinc 2 1, 3) := by decide +kernel
theorem dX2_startComparing_51 : decode cX2_startComparing 51 = .ok (.goto (-49), 3) := by decide +kernel
theorem dX2_startComparing_54 : decode cX2_startComparing 54 = .ok (.iconst 0, 1) := by decide +kernel
theorem dX2_startComparing_55 : decode cX2_startComparing 55 = .ok (.istore_n 2, 1) := by decide +kernel
theorem dX2_startComparing_56 : decode cX2_startComparing 56 = .ok (.iload_n 2, 1) := by decide +kernel
theorem dX2_startComparing_57 : decode cX2_startComparing 57 = .ok (.aload_n 0, 1) := by decide +kernel
theorem dX2_startComparing_58 : decode cX2_startComparing 58 = .ok (.getfield 45, 3) := by decide +kernel
theorem dX2_startComparing_61 : decode cX2_startComparing 61 = .ok (.if_icmp .ge 97, 3) := by decide +kernel
theorem dX2_startComparing_64 : decode cX2_startComparing 64 = .ok (.aload_n 1, 1) := by decide +kernel
theorem dX2_startComparing_65 : decode cX2_startComparing 65 = .ok (.getfield 52, 3) := by decide +kernel
theorem dX2_startComparing_68 : decode cX2_startComparing 68 = .ok (.iload_n 2, 1) := by decide +kernel
theorem dX2_startComparing_69 : decode cX2_startComparing 69 = .ok (.baload, 1) := by decide +kernel
theorem dX2_startComparing_70 : decode cX2_startComparing 70 = .ok (.ifCond .ne 82, 3) := by decide +kernel
theorem dX2_startComparing_73 : decode cX2_startComparing 73 = .ok (.aload_n 0, 1) := by decide +kernel
theorem dX2_startComparing_74 : decode cX2_startComparing 74 = .ok (.getfield 15, 3) := by decide +kernel
theorem dX2_startComparing_77 : decode cX2_startComparing 77 = .ok (.iload_n 2, 1) := by decide +kernel
theorem dX2_startComparing_78 : decode cX2_startComparing 78 = .ok (.iaload, 1) := by decide +kernel
theorem dX2_startComparing_79 : decode cX2_startComparing 79 = .ok (.bipush 16, 2) := by decide +kernel
theorem dX2_startComparing_81 : decode cX2_startComparing 81 = .ok (.imul, 1) := by decide +kernel
theorem dX2_startComparing_82 : decode cX2_startComparing 82 = .ok (.aload_n 0, 1) := by decide +kernel
theorem dX2_startComparing_83 : decode cX2_startComparing 83 = .ok (.getfield 19, 3) := by decide +kernel
theorem dX2_startComparing_86 : decode cX2_startComparing 86 = .ok (.iload_n 2, 1) := by decide +kernel
theorem dX2_startComparing_87 : decode cX2_startComparing 87 = .ok (.iaload, 1) := by decide +kernel
theorem dX2_startComparing_88 : decode cX2_startComparing 88 = .ok (.iadd, 1) := by decide +kernel
theorem dX2_startComparing_89 : decode cX2_startComparing 89 = .ok (.istore_n 3, 1) := by decide +kernel
theorem dX2_startComparing_90 : decode cX2_startComparing 90 = .ok (.aload_n 0, 1) := by decide +kernel
theorem dX2_startComparing_91 : decode cX2_startComparing 91 = .ok (.getfield 19, 3) := by decide +kernel
theorem dX2_startComparing_94 : decode cX2_startComparing 94 = .ok (.iload_n 2, 1) := by decide +kernel
theorem dX2_startComparing_95 : decode cX2_startComparing 95 = .ok (.iaload, 1) := by decide +kernel
theorem dX2_startComparing_96 : decode cX2_startComparing 96 = .ok (.bipush 16, 2) := by decide +kernel
theorem dX2_startComparing_98 : decode cX2_startComparing 98 = .ok (.imul, 1) := by decide +kernel
theorem dX2_startComparing_99 : decode cX2_startComparing 99 = .ok (.aload_n 0, 1) := by decide +kernel
theorem dX2_startComparing_100 : decode cX2_startComparing 100 = .ok (.getfield 15, 3) := by decide +kernel
theorem dX2_startComparing_103 : decode cX2_startComparing 103 = .ok (.iload_n 2, 1) := by decide +kernel
theorem dX2_startComparing_104 : decode cX2_startComparing 104 = .ok (.iaload, 1) := by decide +kernel
theorem dX2_startComparing_105 : decode cX2_startComparing 105 = .ok (.iadd, 1) := by decide +kernel
theorem dX2_startComparing_106 : decode cX2_startComparing 106 = .ok (.istore 4, 2) := by decide +kernel
theorem dX2_startComparing_108 : decode cX2_startComparing 108 = .ok (.aload_n 0, 1) := by decide +kernel
theorem dX2_startComparing_109 : decode cX2_startComparing 109 = .ok (.getfield 38, 3) := by decide +kernel
theorem dX2_startComparing_112 : decode cX2_startComparing 112 = .ok (.iload_n 3, 1) := by decide +kernel
theorem dX2_startComparing_113 : decode cX2_startComparing 113 = .ok (.aload_n 0, 1) := by decide +kernel
theorem dX2_startComparing_114 : decode cX2_startComparing 114 = .ok (.getfield 38, 3) := by decide +kernel
theorem dX2_startComparing_117 : decode cX2_startComparing 117 = .ok (.iload_n 3, 1) := by decide +kernel
theorem dX2_startComparing_118 : decode cX2_startComparing 118 = .ok (.iaload, 1) := by decide +kernel
theorem dX2_startComparing_119 : decode cX2_startComparing 119 = .ok (.aload_n 0, 1) := by decide +kernel
theorem dX2_startComparing_120 : decode cX2_startComparing 120 = .ok (.getfield 22, 3) := by decide +kernel
theorem dX2_startComparing_123 : decode cX2_startComparing 123 = .ok (.iload_n 2, 1) := by decide +kernel
theorem dX2_startComparing_124 : decode cX2_startComparing 124 = .ok (.iaload, 1) := by decide +kernel
theorem dX2_startComparing_125 : decode cX2_startComparing 125 = .ok (.invokestatic 87, 3) := by decide +kernel
theorem dX2_startComparing_128 : decode cX2_startComparing 128 = .ok (.iastore, 1) := by decide +kernel
theorem dX2_startComparing_129 : decode cX2_startComparing 129 = .ok (.aload_n 0, 1) := by decide +kernel
theorem dX2_startComparing_130 : decode cX2_startComparing 130 = .ok (.getfield 38, 3) := by decide +kernel
theorem dX2_startComparing_133 : decode cX2_startComparing 133 = .ok (.iload 4, 2) := by decide +kernel
theorem dX2_startComparing_135 : decode cX2_startComparing 135 = .ok (.aload_n 0, 1) := by decide +kernel
theorem dX2_startComparing_136 : decode cX2_startComparing 136 = .ok (.getfield 38, 3) := by decide +kernel
theorem dX2_startComparing_139 : decode cX2_startComparing 139 = .ok (.iload 4, 2) := by decide +kernel
theorem dX2_startComparing_141 : decode cX2_startComparing 141 = .ok (.iaload, 1) := by decide +kernel
theorem dX2_startComparing_142 : decode cX2_startComparing 142 = .ok (.aload_n 0, 1) := by decide +kernel
theorem dX2_startComparing_143 : decode cX2_startComparing 143 = .ok (.getfield 25, 3) := by decide +kernel
theorem dX2_startComparing_146 : decode cX2_startComparing 146 = .ok (.iload_n 2, 1) := by decide +kernel
theorem dX2_startComparing_147 : decode cX2_startComparing 147 = .ok (.iaload, 1) := by decide +kernel
theorem dX2_startComparing_148 : decode cX2_startComparing 148 = .ok (.invokestatic 87, 3) := by decide +kernel
theorem dX2_startComparing_151 : decode cX2_startComparing 151 = .ok (.iastore, 1) := by decide +kernel
theorem dX2_startComparing_152 : decode cX2_startComparing 152 = .ok (.iinc 2 1, 3) := by decide +kernel
theorem dX2_startComparing_155 : decode cX2_startComparing 155 = .ok (.goto (-99), 3) := by decide +kernel
theorem dX2_startComparing_158 : decode cX2_startComparing 158 = .ok (.return_, 1) := by decide +kernel
theorem dX2_allowBetween_0 : decode cX2_allowBetween 0 = .ok (.iconst 0, 1) := by decide +kernel
theorem dX2_allowBetween_1 : decode cX2_allowBetween 1 = .ok (.istore_n 2, 1) := by decide +kernel
theorem dX2_allowBetween_2 : decode cX2_allowBetween 2 = .ok (.iload_n 2, 1) := by decide +kernel
theorem dX2_allowBetween_3 : decode cX2_allowBetween 3 = .ok (.aload_n 0, 1) := by decide +kernel
theorem dX2_allowBetween_4 : decode cX2_allowBetween 4 = .ok (.getfield 41, 3) := by decide +kernel
theorem dX2_allowBetween_7 : decode cX2_allowBetween 7 = .ok (.if_icmp .ge 79, 3) := by decide +kernel
theorem dX2_allowBetween_10 : decode cX2_allowBetween 10 = .ok (.aload_n 0, 1) := by decide +kernel
theorem dX2_allowBetween_11 : decode cX2_allowBetween 11 = .ok (.getfield 38, 3) := by decide +kernel
theorem dX2_allowBetween_14 : decode cX2_allowBetween 14 = .ok (.iload_n 2, 1) := by decide +kernel
theorem dX2_allowBetween_15 : decode cX2_allowBetween 15 = .ok (.bipush 16, 2) := by decide +kernel
theorem dX2_allowBetween_17 : decode cX2_allowBetween 17 = .ok (.imul, 1) := by decide +kernel
theorem dX2_allowBetween_18 : decode cX2_allowBetween 18 = .ok (.iload_n 1, 1) := by decide +kernel
theorem dX2_allowBetween_19 : decode cX2_allowBetween 19 = .ok (.iadd, 1) := by decide +kernel
theorem dX2_allowBetween_20 : decode cX2_allowBetween 20 = .ok (.iaload, 1) := by decide +kernel
theorem dX2_allowBetween_21 : decode cX2_allowBetween 21 = .ok (.istore_n 3, 1) := by decide +kernel
theorem dX2_allowBetween_22 : decode cX2_allowBetween 22 = .ok (.iconst 0, 1) := by decide +kernel
theorem dX2_allowBetween_23 : decode cX2_allowBetween 23 = .ok (.istore 4, 2) := by decide +kernel
theorem dX2_allowBetween_25 : decode cX2_allowBetween 25 = .ok (.iload 4, 2) := by decide +kernel
theorem dX2_allowBetween_27 : decode cX2_allowBetween 27 = .ok (.aload_n 0, 1) := by decide +kernel
theorem dX2_allowBetween_28 : decode cX2_allowBetween 28 = .ok (.getfield 41, 3) := by decide +kernel
theorem dX2_allowBetween_31 : decode cX2_allowBetween 31 = .ok (.if_icmp .ge 49, 3) := by decide +kernel
theorem dX2_allowBetween_34 : decode cX2_allowBetween 34 = .ok (.iload_n 2, 1) := by decide +kernel
theorem dX2_allowBetween_35 : decode cX2_allowBetween 35 = .ok (.bipush 16, 2) := by decide +kernel
theorem dX2_allowBetween_37 : decode cX2_allowBetween 37 = .ok (.imul, 1) := by decide +kernel
theorem dX2_allowBetween_38 : decode cX2_allowBetween 38 = .ok (.iload 4, 2) := by decide +kernel
theorem dX2_allowBetween_40 : decode cX2_allowBetween 40 = .ok (.iadd, 1) := by decide +kernel
theorem dX2_allowBetween_41 : decode cX2_allowBetween 41 = .ok (.istore 5, 2) := by decide +kernel
theorem dX2_allowBetween_43 : decode cX2_allowBetween 43 = .ok (.aload_n 0, 1) := by decide +kernel
theorem dX2_allowBetween_44 : decode cX2_allowBetween 44 = .ok (.getfield 38, 3) := by decide +kernel
theorem dX2_allowBetween_47 : decode cX2_allowBetween 47 = .ok (.iload 5, 2) := by decide +kernel
theorem dX2_allowBetween_49 : decode cX2_allowBetween 49 = .ok (.aload_n 0, 1) := by decide +kernel
theorem dX2_allowBetween_50 : decode cX2_allowBetween 50 = .ok (.getfield 38, 3) := by decide +kernel
theorem dX2_allowBetween_53 : decode cX2_allowBetween 53 = .ok (.iload 5, 2) := by decide +kernel
theorem dX2_allowBetween_55 : decode cX2_allowBetween 55 = .ok (.iaload, 1) := by decide +kernel
theorem dX2_allowBetween_56 : decode cX2_allowBetween 56 = .ok (.iload_n 3, 1) := by decide +kernel
theorem dX2_allowBetween_57 : decode cX2_allowBetween 57 = .ok (.aload_n 0, 1) := by decide +kernel
theorem dX2_allowBetween_58 : decode cX2_allowBetween 58 = .ok (.getfield 38, 3) := by decide +kernel
theorem dX2_allowBetween_61 : decode cX2_allowBetween 61 = .ok (.iload_n 1, 1) := by decide +kernel
theorem dX2_allowBetween_62 : decode cX2_allowBetween 62 = .ok (.bipush 16, 2) := by decide +kernel
theorem dX2_allowBetween_64 : decode cX2_allowBetween 64 = .ok (.imul, 1) := by decide +kernel
theorem dX2_allowBetween_65 : decode cX2_allowBetween 65 = .ok (.iload 4, 2) := by decide +kernel
theorem dX2_allowBetween_67 : decode cX2_allowBetween 67 = .ok (.iadd, 1) := by decide +kernel
theorem dX2_allowBetween_68 : decode cX2_allowBetween 68 = .ok (.iaload, 1) := by decide +kernel
theorem dX2_allowBetween_69 : decode cX2_allowBetween 69 = .ok (.iadd, 1) := by decide +kernel
theorem dX2_allowBetween_70 : decode cX2_allowBetween 70 = .ok (.invokestatic 87, 3) := by decide +kernel
theorem dX2_allowBetween_73 : decode cX2_allowBetween 73 = .ok (.iastore, 1) := by decide +kernel
theorem dX2_allowBetween_74 : decode cX2_allowBetween 74 = .ok (.iinc 4 1, 3) := by decide +kernel
theorem dX2_allowBetween_77 : decode cX2_allowBetween 77 = .ok (.goto (-52), 3) := by decide +kernel
theorem dX2_allowBetween_80 : decode cX2_allowBetween 80 = .ok (.iinc 2 1, 3) := by decide +kernel
theorem dX2_allowBetween_83 : decode cX2_allowBetween 83 = .ok (.goto (-81), 3) := by decide +kernel
theorem dX2_allowBetween_86 : decode cX2_allowBetween 86 = .ok (.return_, 1) := by decide +kernel
theorem dX3_init_0 : decode cX3_init 0 = .ok (.aload_n 0, 1) := by decide +kernel
theorem dX3_init_1 : decode cX3_init 1 = .ok (.invokespecial 3, 3) := by decide +kernel
theorem dX3_init_4 : decode cX3_init 4 = .ok (.aload_n 0, 1) := by decide +kernel
theorem dX3_init_5 : decode cX3_init 5 = .ok (.iconst 4, 1) := by decide +kernel
theorem dX3_init_6 : decode cX3_init 6 = .ok (.newarray .int, 2) := by decide +kernel
theorem dX3_init_8 : decode cX3_init 8 = .ok (.putfield 9, 3) := by decide +kernel
theorem dX3_init_11 : decode cX3_init 11 = .ok (.aload_n 0, 1) := by decide +kernel
theorem dX3_init_12 : decode cX3_init 12 = .ok (.iconst 4, 1) := by decide +kernel
theorem dX3_init_13 : decode cX3_init 13 = .ok (.newarray .int, 2) := by decide +kernel
theorem dX3_init_15 : decode cX3_init 15 = .ok (.putfield 15, 3) := by decide +kernel
theorem dX3_init_18 : decode cX3_init 18 = .ok (.aload_n 0, 1) := by decide +kernel
theorem dX3_init_19 : decode cX3_init 19 = .ok (.iconst 4, 1) := by decide +kernel
theorem dX3_init_20 : decode cX3_init 20 = .ok (.newarray .int, 2) := by decide +kernel
theorem dX3_init_22 : decode cX3_init 22 = .ok (.putfield 18, 3) := by decide +kernel
theorem dX3_init_25 : decode cX3_init 25 = .ok (.aload_n 0, 1) := by decide +kernel
theorem dX3_init_26 : decode cX3_init 26 = .ok (.iconst 0, 1) := by decide +kernel
theorem dX3_init_27 : decode cX3_init 27 = .ok (.putfield 21, 3) := by decide +kernel
theorem dX3_init_30 : decode cX3_init 30 = .ok (.aload_n 0, 1) := by decide +kernel
theorem dX3_init_31 : decode cX3_init 31 = .ok (.iconst 0, 1) := by decide +kernel
theorem dX3_init_32 : decode cX3_init 32 = .ok (.putfield 25, 3) := by decide +kernel
theorem dX3_init_35 : decode cX3_init 35 = .ok (.return_, 1) := by decide +kernel
theorem dX3_enlist_0 : decode cX3_enlist 0 = .ok (.aload_n 0, 1) := by decide +kernel
theorem dX3_enlist_1 : decode cX3_enlist 1 = .ok (.getfield 21, 3) := by decide +kernel
theorem dX3_enlist_4 : decode cX3_enlist 4 = .ok (.istore_n 3, 1) := by decide +kernel
theorem dX3_enlist_5 : decode cX3_enlist 5 = .ok (.aload_n 0, 1) := by decide +kernel
theorem dX3_enlist_6 : decode cX3_enlist 6 = .ok (.dup, 1) := by decide +kernel
theorem dX3_enlist_7 : decode cX3_enlist 7 = .ok (.getfield 21, 3) := by decide +kernel
theorem dX3_enlist_10 : decode cX3_enlist 10 = .ok (.iconst 1, 1) := by decide +kernel
theorem dX3_enlist_11 : decode cX3_enlist 11 = .ok (.iadd, 1) := by decide +kernel
theorem dX3_enlist_12 : decode cX3_enlist 12 = .ok (.putfield 21, 3) := by decide +kernel
theorem dX3_enlist_15 : decode cX3_enlist 15 = .ok (.aload_n 0, 1) := by decide +kernel
theorem dX3_enlist_16 : decode cX3_enlist 16 = .ok (.getfield 9, 3) := by decide +kernel
theorem dX3_enlist_19 : decode cX3_enlist 19 = .ok (.iload_n 3, 1) := by decide +kernel
theorem dX3_enlist_20 : decode cX3_enlist 20 = .ok (.iload_n 1, 1) := by decide +kernel
theorem dX3_enlist_21 : decode cX3_enlist 21 = .ok (.iastore, 1) := by decide +kernel
theorem dX3_enlist_22 : decode cX3_enlist 22 = .ok (.aload_n 0, 1) := by decide +kernel
theorem dX3_enlist_23 : decode cX3_enlist 23 = .ok (.getfield 15, 3) := by decide +kernel
theorem dX3_enlist_26 : decode cX3_enlist 26 = .ok (.iload_n 3, 1) := by decide +kernel
theorem dX3_enlist_27 : decode cX3_enlist 27 = .ok (.iload_n 2, 1) := by decide +kernel
theorem dX3_enlist_28 : decode cX3_enlist 28 = .ok (.iastore, 1) := by decide +kernel
theorem dX3_enlist_29 : decode cX3_enlist 29 = .ok (.iload_n 3, 1) := by decide +kernel
theorem dX3_enlist_30 : decode cX3_enlist 30 = .ok (.ireturn, 1) := by decide +kernel
theorem dX3_hasTool_0 : decode cX3_hasTool 0 = .ok (.aload_n 0, 1) := by decide +kernel
theorem dX3_hasTool_1 : decode cX3_hasTool 1 = .ok (.getfield 15, 3) := by decide +kernel
theorem dX3_hasTool_4 : decode cX3_hasTool 4 = .ok (.iload_n 1, 1) := by decide +kernel
theorem dX3_hasTool_5 : decode cX3_hasTool 5 = .ok (.iaload, 1) := by decide +kernel
theorem dX3_hasTool_6 : decode cX3_hasTool 6 = .ok (.iload_n 2, 1) := by decide +kernel
theorem dX3_hasTool_7 : decode cX3_hasTool 7 = .ok (.iand, 1) := by decide +kernel
theorem dX3_hasTool_8 : decode cX3_hasTool 8 = .ok (.iload_n 2, 1) := by decide +kernel
theorem dX3_hasTool_9 : decode cX3_hasTool 9 = .ok (.if_icmp .ne 7, 3) := by decide +kernel
theorem dX3_hasTool_12 : decode cX3_hasTool 12 = .ok (.iconst 1, 1) := by decide +kernel
theorem dX3_hasTool_13 : decode cX3_hasTool 13 = .ok (.goto 4, 3) := by decide +kernel
theorem dX3_hasTool_16 : decode cX3_hasTool 16 = .ok (.iconst 0, 1) := by decide +kernel
theorem dX3_hasTool_17 : decode cX3_hasTool 17 = .ok (.ireturn, 1) := by decide +kernel
theorem dX3_spend_0 : decode cX3_spend 0 = .ok (.aload_n 0, 1) := by decide +kernel
theorem dX3_spend_1 : decode cX3_spend 1 = .ok (.dup, 1) := by decide +kernel
theorem dX3_spend_2 : decode cX3_spend 2 = .ok (.getfield 25, 3) := by decide +kernel
theorem dX3_spend_5 : decode cX3_spend 5 = .ok (.iload_n 2, 1) := by decide +kernel
theorem dX3_spend_6 : decode cX3_spend 6 = .ok (.isub, 1) := by decide +kernel
theorem dX3_spend_7 : decode cX3_spend 7 = .ok (.putfield 25, 3) := by decide +kernel
theorem dX3_spend_10 : decode cX3_spend 10 = .ok (.aload_n 0, 1) := by decide +kernel
theorem dX3_spend_11 : decode cX3_spend 11 = .ok (.getfield 18, 3) := by decide +kernel
theorem dX3_spend_14 : decode cX3_spend 14 = .ok (.iload_n 1, 1) := by decide +kernel
theorem dX3_spend_15 : decode cX3_spend 15 = .ok (.dup2, 1) := by decide +kernel
theorem dX3_spend_16 : decode cX3_spend 16 = .ok (.iaload, 1) := by decide +kernel
theorem dX3_spend_17 : decode cX3_spend 17 = .ok (.iload_n 2, 1) := by decide +kernel
theorem dX3_spend_18 : decode cX3_spend 18 = .ok (.iadd, 1) := by decide +kernel
theorem dX3_spend_19 : decode cX3_spend 19 = .ok (.iastore, 1) := by decide +kernel
theorem dX3_spend_20 : decode cX3_spend 20 = .ok (.return_, 1) := by decide +kernel
theorem dX4_init_0 : decode cX4_init 0 = .ok (.aload_n 0, 1) := by decide +kernel
theorem dX4_init_1 : decode cX4_init 1 = .ok (.invokespecial 3, 3) := by decide +kernel
theorem dX4_init_4 : decode cX4_init 4 = .ok (.aload_n 0, 1) := by decide +kernel
theorem dX4_init_5 : decode cX4_init 5 = .ok (.bipush 40, 2) := by decide +kernel
theorem dX4_init_7 : decode cX4_init 7 = .ok (.newarray .char, 2) := by decide +kernel
theorem dX4_init_9 : decode cX4_init 9 = .ok (.putfield 9, 3) := by decide +kernel
theorem dX4_init_12 : decode cX4_init 12 = .ok (.aload_n 0, 1) := by decide +kernel
theorem dX4_init_13 : decode cX4_init 13 = .ok (.bipush 40, 2) := by decide +kernel
theorem dX4_init_15 : decode cX4_init 15 = .ok (.newarray .int, 2) := by decide +kernel
theorem dX4_init_17 : decode cX4_init 17 = .ok (.putfield 15, 3) := by decide +kernel
theorem dX4_init_20 : decode cX4_init 20 = .ok (.aload_n 0, 1) := by decide +kernel
theorem dX4_init_21 : decode cX4_init 21 = .ok (.bipush 40, 2) := by decide +kernel
theorem dX4_init_23 : decode cX4_init 23 = .ok (.newarray .int, 2) := by decide +kernel
theorem dX4_init_25 : decode cX4_init 25 = .ok (.putfield 19, 3) := by decide +kernel
theorem dX4_init_28 : decode cX4_init 28 = .ok (.aload_n 0, 1) := by decide +kernel
theorem dX4_init_29 : decode cX4_init 29 = .ok (.bipush 40, 2) := by decide +kernel
theorem dX4_init_31 : decode cX4_init 31 = .ok (.newarray .int, 2) := by decide +kernel
theorem dX4_init_33 : decode cX4_init 33 = .ok (.putfield 22, 3) := by decide +kernel
theorem dX4_init_36 : decode cX4_init 36 = .ok (.aload_n 0, 1) := by decide +kernel
theorem dX4_init_37 : decode cX4_init 37 = .ok (.iconst 0, 1) := by decide +kernel
theorem dX4_init_38 : decode cX4_init 38 = .ok (.putfield 25, 3) := by decide +kernel
theorem dX4_init_41 : decode cX4_init 41 = .ok (.return_, 1) := by decide +kernel
theorem dX4_hasRoom_0 : decode cX4_hasRoom 0 = .ok (.aload_n 0, 1) := by decide +kernel
theorem dX4_hasRoom_1 : decode cX4_hasRoom 1 = .ok (.getfield 25, 3) := by decide +kernel
theorem dX4_hasRoom_4 : decode cX4_hasRoom 4 = .ok (.bipush 40, 2) := by decide +kernel
theorem dX4_hasRoom_6 : decode cX4_hasRoom 6 = .ok (.if_icmp .ge 7, 3) := by decide +kernel
theorem dX4_hasRoom_9 : decode cX4_hasRoom 9 = .ok (.iconst 1, 1) := by decide +kernel
theorem dX4_hasRoom_10 : decode cX4_hasRoom 10 = .ok (.goto 4, 3) := by decide +kernel
theorem dX4_hasRoom_13 : decode cX4_hasRoom 13 = .ok (.iconst 0, 1) := by decide +kernel
theorem dX4_hasRoom_14 : decode cX4_hasRoom 14 = .ok (.ireturn, 1) := by decide +kernel
theorem dX4_make_0 : decode cX4_make 0 = .ok (.aload_n 0, 1) := by decide +kernel
theorem dX4_make_1 : decode cX4_make 1 = .ok (.getfield 25, 3) := by decide +kernel
theorem dX4_make_4 : decode cX4_make 4 = .ok (.istore 4, 2) := by decide +kernel
theorem dX4_make_6 : decode cX4_make 6 = .ok (.aload_n 0, 1) := by decide +kernel
theorem dX4_make_7 : decode cX4_make 7 = .ok (.dup, 1) := by decide +kernel
theorem dX4_make_8 : decode cX4_make 8 = .ok (.getfield 25, 3) := by decide +kernel
theorem dX4_make_11 : decode cX4_make 11 = .ok (.iconst 1, 1) := by decide +kernel
theorem dX4_make_12 : decode cX4_make 12 = .ok (.iadd, 1) := by decide +kernel
theorem dX4_make_13 : decode cX4_make 13 = .ok (.putfield 25, 3) := by decide +kernel
theorem dX4_make_16 : decode cX4_make 16 = .ok (.aload_n 0, 1) := by decide +kernel
theorem dX4_make_17 : decode cX4_make 17 = .ok (.getfield 9, 3) := by decide +kernel
theorem dX4_make_20 : decode cX4_make 20 = .ok (.iload 4, 2) := by decide +kernel
theorem dX4_make_22 : decode cX4_make 22 = .ok (.iload_n 1, 1) := by decide +kernel
theorem dX4_make_23 : decode cX4_make 23 = .ok (.castore, 1) := by decide +kernel
theorem dX4_make_24 : decode cX4_make 24 = .ok (.aload_n 0, 1) := by decide +kernel
theorem dX4_make_25 : decode cX4_make 25 = .ok (.getfield 15, 3) := by decide +kernel
theorem dX4_make_28 : decode cX4_make 28 = .ok (.iload 4, 2) := by decide +kernel
theorem dX4_make_30 : decode cX4_make 30 = .ok (.iload_n 2, 1) := by decide +kernel
theorem dX4_make_31 : decode cX4_make 31 = .ok (.iastore, 1) := by decide +kernel
theorem dX4_make_32 : decode cX4_make 32 = .ok (.aload_n 0, 1) := by decide +kernel
theorem dX4_make_33 : decode cX4_make 33 = .ok (.getfield 19, 3) := by decide +kernel
theorem dX4_make_36 : decode cX4_make 36 = .ok (.iload 4, 2) := by decide +kernel
theorem dX4_make_38 : decode cX4_make 38 = .ok (.iload_n 3, 1) := by decide +kernel
theorem dX4_make_39 : decode cX4_make 39 = .ok (.iastore, 1) := by decide +kernel
theorem dX4_make_40 : decode cX4_make 40 = .ok (.aload_n 0, 1) := by decide +kernel
theorem dX4_make_41 : decode cX4_make 41 = .ok (.getfield 22, 3) := by decide +kernel
theorem dX4_make_44 : decode cX4_make 44 = .ok (.iload 4, 2) := by decide +kernel
theorem dX4_make_46 : decode cX4_make 46 = .ok (.iconst (-1), 1) := by decide +kernel
theorem dX4_make_47 : decode cX4_make 47 = .ok (.iastore, 1) := by decide +kernel
theorem dX4_make_48 : decode cX4_make 48 = .ok (.iload 4, 2) := by decide +kernel
theorem dX4_make_50 : decode cX4_make 50 = .ok (.ireturn, 1) := by decide +kernel
theorem dX4_isOpen_0 : decode cX4_isOpen 0 = .ok (.aload_n 0, 1) := by decide +kernel
theorem dX4_isOpen_1 : decode cX4_isOpen 1 = .ok (.getfield 22, 3) := by decide +kernel
theorem dX4_isOpen_4 : decode cX4_isOpen 4 = .ok (.iload_n 1, 1) := by decide +kernel
theorem dX4_isOpen_5 : decode cX4_isOpen 5 = .ok (.iaload, 1) := by decide +kernel
theorem dX4_isOpen_6 : decode cX4_isOpen 6 = .ok (.iconst (-1), 1) := by decide +kernel
theorem dX4_isOpen_7 : decode cX4_isOpen 7 = .ok (.if_icmp .ne 7, 3) := by decide +kernel
theorem dX4_isOpen_10 : decode cX4_isOpen 10 = .ok (.iconst 1, 1) := by decide +kernel
theorem dX4_isOpen_11 : decode cX4_isOpen 11 = .ok (.goto 4, 3) := by decide +kernel
theorem dX4_isOpen_14 : decode cX4_isOpen 14 = .ok (.iconst 0, 1) := by decide +kernel
theorem dX4_isOpen_15 : decode cX4_isOpen 15 = .ok (.ireturn, 1) := by decide +kernel
theorem dX4_isAsked_0 : decode cX4_isAsked 0 = .ok (.iconst 0, 1) := by decide +kernel
theorem dX4_isAsked_1 : decode cX4_isAsked 1 = .ok (.istore_n 3, 1) := by decide +kernel
theorem dX4_isAsked_2 : decode cX4_isAsked 2 = .ok (.iload_n 3, 1) := by decide +kernel
theorem dX4_isAsked_3 : decode cX4_isAsked 3 = .ok (.aload_n 0, 1) := by decide +kernel
theorem dX4_isAsked_4 : decode cX4_isAsked 4 = .ok (.getfield 25, 3) := by decide +kernel
theorem dX4_isAsked_7 : decode cX4_isAsked 7 = .ok (.if_icmp .ge 39, 3) := by decide +kernel
theorem dX4_isAsked_10 : decode cX4_isAsked 10 = .ok (.aload_n 0, 1) := by decide +kernel
theorem dX4_isAsked_11 : decode cX4_isAsked 11 = .ok (.iload_n 3, 1) := by decide +kernel
theorem dX4_isAsked_12 : decode cX4_isAsked 12 = .ok (.invokevirtual 29, 3) := by decide +kernel
theorem dX4_isAsked_15 : decode cX4_isAsked 15 = .ok (.ifCond .eq 25, 3) := by decide +kernel
theorem dX4_isAsked_18 : decode cX4_isAsked 18 = .ok (.aload_n 0, 1) := by decide +kernel
theorem dX4_isAsked_19 : decode cX4_isAsked 19 = .ok (.getfield 9, 3) := by decide +kernel
theorem dX4_isAsked_22 : decode cX4_isAsked 22 = .ok (.iload_n 3, 1) := by decide +kernel
theorem dX4_isAsked_23 : decode cX4_isAsked 23 = .ok (.caload, 1) := by decide +kernel
theorem dX4_isAsked_24 : decode cX4_isAsked 24 = .ok (.iload_n 1, 1) := by decide +kernel
theorem dX4_isAsked_25 : decode cX4_isAsked 25 = .ok (.if_icmp .ne 15, 3) := by decide +kernel
theorem dX4_isAsked_28 : decode cX4_isAsked 28 = .ok (.aload_n 0, 1) := by decide +kernel
theorem dX4_isAsked_29 : decode cX4_isAsked 29 = .ok (.getfield 15, 3) := by decide +kernel
theorem dX4_isAsked_32 : decode cX4_isAsked 32 = .ok (.iload_n 3, 1) := by decide +kernel
theorem dX4_isAsked_33 : decode cX4_isAsked 33 = .ok (.iaload, 1) := by decide +kernel
theorem dX4_isAsked_34 : decode cX4_isAsked 34 = .ok (.iload_n 2, 1) := by decide +kernel
theorem dX4_isAsked_35 : decode cX4_isAsked 35 = .ok (.if_icmp .ne 5, 3) := by decide +kernel
theorem dX4_isAsked_38 : decode cX4_isAsked 38 = .ok (.iconst 1, 1) := by decide +kernel
theorem dX4_isAsked_39 : decode cX4_isAsked 39 = .ok (.ireturn, 1) := by decide +kernel
theorem dX4_isAsked_40 : decode cX4_isAsked 40 = .ok (.iinc 3 1, 3) := by decide +kernel
theorem dX4_isAsked_43 : decode cX4_isAsked 43 = .ok (.goto (-41), 3) := by decide +kernel
theorem dX4_isAsked_46 : decode cX4_isAsked 46 = .ok (.iconst 0, 1) := by decide +kernel
theorem dX4_isAsked_47 : decode cX4_isAsked 47 = .ok (.ireturn, 1) := by decide +kernel
theorem dX4_areDoneByOneOf_0 : decode cX4_areDoneByOneOf 0 = .ok (.iconst 0, 1) := by decide +kernel
theorem dX4_areDoneByOneOf_1 : decode cX4_areDoneByOneOf 1 = .ok (.istore_n 2, 1) := by decide +kernel
theorem dX4_areDoneByOneOf_2 : decode cX4_areDoneByOneOf 2 = .ok (.iload_n 2, 1) := by decide +kernel
theorem dX4_areDoneByOneOf_3 : decode cX4_areDoneByOneOf 3 = .ok (.aload_n 0, 1) := by decide +kernel
theorem dX4_areDoneByOneOf_4 : decode cX4_areDoneByOneOf 4 = .ok (.getfield 25, 3) := by decide +kernel
theorem dX4_areDoneByOneOf_7 : decode cX4_areDoneByOneOf 7 = .ok (.if_icmp .ge 38, 3) := by decide +kernel
theorem dX4_areDoneByOneOf_10 : decode cX4_areDoneByOneOf 10 = .ok (.aload_n 0, 1) := by decide +kernel
theorem dX4_areDoneByOneOf_11 : decode cX4_areDoneByOneOf 11 = .ok (.iload_n 2, 1) := by decide +kernel
theorem dX4_areDoneByOneOf_12 : decode cX4_areDoneByOneOf 12 = .ok (.invokevirtual 29, 3) := by decide +kernel
theorem dX4_areDoneByOneOf_15 : decode cX4_areDoneByOneOf 15 = .ok (.ifCond .ne 24, 3) := by decide +kernel
theorem dX4_areDoneByOneOf_18 : decode cX4_areDoneByOneOf 18 = .ok (.aload_n 0, 1) := by decide +kernel
theorem dX4_areDoneByOneOf_19 : decode cX4_areDoneByOneOf 19 = .ok (.getfield 22, 3) := by decide +kernel
theorem dX4_areDoneByOneOf_22 : decode cX4_areDoneByOneOf 22 = .ok (.iload_n 2, 1) := by decide +kernel
theorem dX4_areDoneByOneOf_23 : decode cX4_areDoneByOneOf 23 = .ok (.iaload, 1) := by decide +kernel
theorem dX4_areDoneByOneOf_24 : decode cX4_areDoneByOneOf 24 = .ok (.ifCond .lt 13, 3) := by decide +kernel
theorem dX4_areDoneByOneOf_27 : decode cX4_areDoneByOneOf 27 = .ok (.aload_n 0, 1) := by decide +kernel
theorem dX4_areDoneByOneOf_28 : decode cX4_areDoneByOneOf 28 = .ok (.getfield 22, 3) := by decide +kernel
theorem dX4_areDoneByOneOf_31 : decode cX4_areDoneByOneOf 31 = .ok (.iload_n 2, 1) := by decide +kernel
theorem dX4_areDoneByOneOf_32 : decode cX4_areDoneByOneOf 32 = .ok (.iaload, 1) := by decide +kernel
theorem dX4_areDoneByOneOf_33 : decode cX4_areDoneByOneOf 33 = .ok (.iload_n 1, 1) := by decide +kernel
theorem dX4_areDoneByOneOf_34 : decode cX4_areDoneByOneOf 34 = .ok (.if_icmp .lt 5, 3) := by decide +kernel
theorem dX4_areDoneByOneOf_37 : decode cX4_areDoneByOneOf 37 = .ok (.iconst 0, 1) := by decide +kernel
theorem dX4_areDoneByOneOf_38 : decode cX4_areDoneByOneOf 38 = .ok (.ireturn, 1) := by decide +kernel
theorem dX4_areDoneByOneOf_39 : decode cX4_areDoneByOneOf 39 = .ok (.iinc 2 1, 3) := by decide +kernel
theorem dX4_areDoneByOneOf_42 : decode cX4_areDoneByOneOf 42 = .ok (.goto (-40), 3) := by decide +kernel
theorem dX4_areDoneByOneOf_45 : decode cX4_areDoneByOneOf 45 = .ok (.iconst 1, 1) := by decide +kernel
theorem dX4_areDoneByOneOf_46 : decode cX4_areDoneByOneOf 46 = .ok (.ireturn, 1) := by decide +kernel
theorem dX5_init_0 : decode cX5_init 0 = .ok (.aload_n 0, 1) := by decide +kernel
theorem dX5_init_1 : decode cX5_init 1 = .ok (.invokespecial 3, 3) := by decide +kernel
theorem dX5_init_4 : decode cX5_init 4 = .ok (.aload_n 0, 1) := by decide +kernel
theorem dX5_init_5 : decode cX5_init 5 = .ok (.bipush 24, 2) := by decide +kernel
theorem dX5_init_7 : decode cX5_init 7 = .ok (.newarray .boolean, 2) := by decide +kernel
theorem dX5_init_9 : decode cX5_init 9 = .ok (.putfield 9, 3) := by decide +kernel
theorem dX5_init_12 : decode cX5_init 12 = .ok (.aload_n 0, 1) := by decide +kernel
theorem dX5_init_13 : decode cX5_init 13 = .ok (.sipush 256, 3) := by decide +kernel
theorem dX5_init_16 : decode cX5_init 16 = .ok (.newarray .int, 2) := by decide +kernel
theorem dX5_init_18 : decode cX5_init 18 = .ok (.putfield 15, 3) := by decide +kernel
theorem dX5_init_21 : decode cX5_init 21 = .ok (.aload_n 0, 1) := by decide +kernel
theorem dX5_init_22 : decode cX5_init 22 = .ok (.invokevirtual 19, 3) := by decide +kernel
theorem dX5_init_25 : decode cX5_init 25 = .ok (.return_, 1) := by decide +kernel
theorem dX5_forgetWays_0 : decode cX5_forgetWays 0 = .ok (.iconst 0, 1) := by decide +kernel
theorem dX5_forgetWays_1 : decode cX5_forgetWays 1 = .ok (.istore_n 1, 1) := by decide +kernel
theorem dX5_forgetWays_2 : decode cX5_forgetWays 2 = .ok (.iload_n 1, 1) := by decide +kernel
theorem dX5_forgetWays_3 : decode cX5_forgetWays 3 = .ok (.bipush 16, 2) := by decide +kernel
theorem dX5_forgetWays_5 : decode cX5_forgetWays 5 = .ok (.if_icmp .ge 45, 3) := by decide +kernel
theorem dX5_forgetWays_8 : decode cX5_forgetWays 8 = .ok (.iconst 0, 1) := by decide +kernel
theorem dX5_forgetWays_9 : decode cX5_forgetWays 9 = .ok (.istore_n 2, 1) := by decide +kernel
theorem dX5_forgetWays_10 : decode cX5_forgetWays 10 = .ok (.iload_n 2, 1) := by decide +kernel
theorem dX5_forgetWays_11 : decode cX5_forgetWays 11 = .ok (.bipush 16, 2) := by decide +kernel
theorem dX5_forgetWays_13 : decode cX5_forgetWays 13 = .ok (.if_icmp .ge 31, 3) := by decide +kernel
theorem dX5_forgetWays_16 : decode cX5_forgetWays 16 = .ok (.aload_n 0, 1) := by decide +kernel
theorem dX5_forgetWays_17 : decode cX5_forgetWays 17 = .ok (.getfield 15, 3) := by decide +kernel
theorem dX5_forgetWays_20 : decode cX5_forgetWays 20 = .ok (.iload_n 1, 1) := by decide +kernel
theorem dX5_forgetWays_21 : decode cX5_forgetWays 21 = .ok (.bipush 16, 2) := by decide +kernel
theorem dX5_forgetWays_23 : decode cX5_forgetWays 23 = .ok (.imul, 1) := by decide +kernel
theorem dX5_forgetWays_24 : decode cX5_forgetWays 24 = .ok (.iload_n 2, 1) := by decide +kernel
theorem dX5_forgetWays_25 : decode cX5_forgetWays 25 = .ok (.iadd, 1) := by decide +kernel
theorem dX5_forgetWays_26 : decode cX5_forgetWays 26 = .ok (.iload_n 1, 1) := by decide +kernel
theorem dX5_forgetWays_27 : decode cX5_forgetWays 27 = .ok (.iload_n 2, 1) := by decide +kernel
theorem dX5_forgetWays_28 : decode cX5_forgetWays 28 = .ok (.if_icmp .ne 7, 3) := by decide +kernel
theorem dX5_forgetWays_31 : decode cX5_forgetWays 31 = .ok (.iconst 0, 1) := by decide +kernel
theorem dX5_forgetWays_32 : decode cX5_forgetWays 32 = .ok (.goto 5, 3) := by decide +kernel
theorem dX5_forgetWays_35 : decode cX5_forgetWays 35 = .ok (.ldc 22, 2) := by decide +kernel
theorem dX5_forgetWays_37 : decode cX5_forgetWays 37 = .ok (.iastore, 1) := by decide +kernel
theorem dX5_forgetWays_38 : decode cX5_forgetWays 38 = .ok (.iinc 2 1, 3) := by decide +kernel
theorem dX5_forgetWays_41 : decode cX5_forgetWays 41 = .ok (.goto (-31), 3) := by decide +kernel
theorem dX5_forgetWays_44 : decode cX5_forgetWays 44 = .ok (.iinc 1 1, 3) := by decide +kernel
theorem dX5_forgetWays_47 : decode cX5_forgetWays 47 = .ok (.goto (-45), 3) := by decide +kernel
theorem dX5_forgetWays_50 : decode cX5_forgetWays 50 = .ok (.return_, 1) := by decide +kernel
theorem dX5_leastMinutes_0 : decode cX5_leastMinutes 0 = .ok (.aload_n 0, 1) := by decide +kernel
theorem dX5_leastMinutes_1 : decode cX5_leastMinutes 1 = .ok (.getfield 15, 3) := by decide +kernel
theorem dX5_leastMinutes_4 : decode cX5_leastMinutes 4 = .ok (.iload_n 1, 1) := by decide +kernel
theorem dX5_leastMinutes_5 : decode cX5_leastMinutes 5 = .ok (.bipush 16, 2) := by decide +kernel
theorem dX5_leastMinutes_7 : decode cX5_leastMinutes 7 = .ok (.imul, 1) := by decide +kernel
theorem dX5_leastMinutes_8 : decode cX5_leastMinutes 8 = .ok (.iload_n 2, 1) := by decide +kernel
theorem dX5_leastMinutes_9 : decode cX5_leastMinutes 9 = .ok (.iadd, 1) := by decide +kernel
theorem dX5_leastMinutes_10 : decode cX5_leastMinutes 10 = .ok (.iaload, 1) := by decide +kernel
theorem dX5_leastMinutes_11 : decode cX5_leastMinutes 11 = .ok (.ireturn, 1) := by decide +kernel
theorem dX6_init_0 : decode cX6_init 0 = .ok (.aload_n 0, 1) := by decide +kernel
theorem dX6_init_1 : decode cX6_init 1 = .ok (.invokespecial 3, 3) := by decide +kernel
theorem dX6_init_4 : decode cX6_init 4 = .ok (.aload_n 0, 1) := by decide +kernel
theorem dX6_init_5 : decode cX6_init 5 = .ok (.bipush 10, 2) := by decide +kernel
theorem dX6_init_7 : decode cX6_init 7 = .ok (.newarray .int, 2) := by decide +kernel
theorem dX6_init_9 : decode cX6_init 9 = .ok (.putfield 9, 3) := by decide +kernel
theorem dX6_init_12 : decode cX6_init 12 = .ok (.aload_n 0, 1) := by decide +kernel
theorem dX6_init_13 : decode cX6_init 13 = .ok (.sipush 240, 3) := by decide +kernel
theorem dX6_init_16 : decode cX6_init 16 = .ok (.newarray .int, 2) := by decide +kernel
theorem dX6_init_18 : decode cX6_init 18 = .ok (.putfield 15, 3) := by decide +kernel
theorem dX6_init_21 : decode cX6_init 21 = .ok (.iconst 0, 1) := by decide +kernel
theorem dX6_init_22 : decode cX6_init 22 = .ok (.istore_n 1, 1) := by decide +kernel
theorem dX6_init_23 : decode cX6_init 23 = .ok (.iload_n 1, 1) := by decide +kernel
theorem dX6_init_24 : decode cX6_init 24 = .ok (.bipush 10, 2) := by decide +kernel
theorem dX6_init_26 : decode cX6_init 26 = .ok (.if_icmp .ge 17, 3) := by decide +kernel
theorem dX6_init_29 : decode cX6_init 29 = .ok (.aload_n 0, 1) := by decide +kernel
theorem dX6_init_30 : decode cX6_init 30 = .ok (.getfield 9, 3) := by decide +kernel
theorem dX6_init_33 : decode cX6_init 33 = .ok (.iload_n 1, 1) := by decide +kernel
theorem dX6_init_34 : decode cX6_init 34 = .ok (.bipush 50, 2) := by decide +kernel
theorem dX6_init_36 : decode cX6_init 36 = .ok (.iastore, 1) := by decide +kernel
theorem dX6_init_37 : decode cX6_init 37 = .ok (.iinc 1 1, 3) := by decide +kernel
theorem dX6_init_40 : decode cX6_init 40 = .ok (.goto (-17), 3) := by decide +kernel
theorem dX6_init_43 : decode cX6_init 43 = .ok (.return_, 1) := by decide +kernel
theorem dX6_note_0 : decode cX6_note 0 = .ok (.aload_n 0, 1) := by decide +kernel
theorem dX6_note_1 : decode cX6_note 1 = .ok (.getfield 15, 3) := by decide +kernel
theorem dX6_note_4 : decode cX6_note 4 = .ok (.iload_n 2, 1) := by decide +kernel
theorem dX6_note_5 : decode cX6_note 5 = .ok (.bipush 10, 2) := by decide +kernel
theorem dX6_note_7 : decode cX6_note 7 = .ok (.imul, 1) := by decide +kernel
theorem dX6_note_8 : decode cX6_note 8 = .ok (.iload_n 1, 1) := by decide +kernel
theorem dX6_note_9 : decode cX6_note 9 = .ok (.iadd, 1) := by decide +kernel
theorem dX6_note_10 : decode cX6_note 10 = .ok (.iload_n 3, 1) := by decide +kernel
theorem dX6_note_11 : decode cX6_note 11 = .ok (.ifCond .eq 7, 3) := by decide +kernel
theorem dX6_note_14 : decode cX6_note 14 = .ok (.iconst 2, 1) := by decide +kernel
theorem dX6_note_15 : decode cX6_note 15 = .ok (.goto 4, 3) := by decide +kernel
theorem dX6_note_18 : decode cX6_note 18 = .ok (.iconst 1, 1) := by decide +kernel
theorem dX6_note_19 : decode cX6_note 19 = .ok (.iastore, 1) := by decide +kernel
theorem dX6_note_20 : decode cX6_note 20 = .ok (.return_, 1) := by decide +kernel
theorem dX6_countNotes_0 : decode cX6_countNotes 0 = .ok (.iconst 0, 1) := by decide +kernel
theorem dX6_countNotes_1 : decode cX6_countNotes 1 = .ok (.istore_n 2, 1) := by decide +kernel
theorem dX6_countNotes_2 : decode cX6_countNotes 2 = .ok (.iconst 0, 1) := by decide +kernel
theorem dX6_countNotes_3 : decode cX6_countNotes 3 = .ok (.istore_n 3, 1) := by decide +kernel
theorem dX6_countNotes_4 : decode cX6_countNotes 4 = .ok (.iload_n 3, 1) := by decide +kernel
theorem dX6_countNotes_5 : decode cX6_countNotes 5 = .ok (.bipush 10, 2) := by decide +kernel
theorem dX6_countNotes_7 : decode cX6_countNotes 7 = .ok (.if_icmp .ge 26, 3) := by decide +kernel
theorem dX6_countNotes_10 : decode cX6_countNotes 10 = .ok (.aload_n 0, 1) := by decide +kernel
theorem dX6_countNotes_11 : decode cX6_countNotes 11 = .ok (.getfield 15, 3) := by decide +kernel
theorem dX6_countNotes_14 : decode cX6_countNotes 14 = .ok (.iload_n 1, 1) := by decide +kernel
theorem dX6_countNotes_15 : decode cX6_countNotes 15 = .ok (.bipush 10, 2) := by decide +kernel
theorem dX6_countNotes_17 : decode cX6_countNotes 17 = .ok (.imul, 1) := by decide +kernel
theorem dX6_countNotes_18 : decode cX6_countNotes 18 = .ok (.iload_n 3, 1) := by decide +kernel
theorem dX6_countNotes_19 : decode cX6_countNotes 19 = .ok (.iadd, 1) := by decide +kernel
theorem dX6_countNotes_20 : decode cX6_countNotes 20 = .ok (.iaload, 1) := by decide +kernel
theorem dX6_countNotes_21 : decode cX6_countNotes 21 = .ok (.ifCond .eq 6, 3) := by decide +kernel
theorem dX6_countNotes_24 : decode cX6_countNotes 24 = .ok (.iinc 2 1, 3) := by decide +kernel
theorem dX6_countNotes_27 : decode cX6_countNotes 27 = .ok (.iinc 3 1, 3) := by decide +kernel
theorem dX6_countNotes_30 : decode cX6_countNotes 30 = .ok (.goto (-26), 3) := by decide +kernel
theorem dX6_countNotes_33 : decode cX6_countNotes 33 = .ok (.iload_n 2, 1) := by decide +kernel
theorem dX6_countNotes_34 : decode cX6_countNotes 34 = .ok (.ireturn, 1) := by decide +kernel
theorem dX6_believe_0 : decode cX6_believe 0 = .ok (.aload_n 0, 1) := by decide +kernel
theorem dX6_believe_1 : decode cX6_believe 1 = .ok (.iload_n 1, 1) := by decide +kernel
theorem dX6_believe_2 : decode cX6_believe 2 = .ok (.iconst 2, 1) := by decide +kernel
theorem dX6_believe_3 : decode cX6_believe 3 = .ok (.invokevirtual 18, 3) := by decide +kernel
theorem dX6_believe_6 : decode cX6_believe 6 = .ok (.istore_n 3, 1) := by decide +kernel
theorem dX6_believe_7 : decode cX6_believe 7 = .ok (.aload_n 0, 1) := by decide +kernel
theorem dX6_believe_8 : decode cX6_believe 8 = .ok (.iload_n 1, 1) := by decide +kernel
theorem dX6_believe_9 : decode cX6_believe 9 = .ok (.iconst 1, 1) := by decide +kernel
theorem dX6_believe_10 : decode cX6_believe 10 = .ok (.invokevirtual 18, 3) := by decide +kernel
theorem dX6_believe_13 : decode cX6_believe 13 = .ok (.istore 4, 2) := by decide +kernel
theorem dX6_believe_15 : decode cX6_believe 15 = .ok (.iload_n 3, 1) := by decide +kernel
theorem dX6_believe_16 : decode cX6_believe 16 = .ok (.bipush 100, 2) := by decide +kernel
theorem dX6_believe_18 : decode cX6_believe 18 = .ok (.if_icmp .lt 11, 3) := by decide +kernel
theorem dX6_believe_21 : decode cX6_believe 21 = .ok (.iload_n 3, 1) := by decide +kernel
theorem dX6_believe_22 : decode cX6_believe 22 = .ok (.iload 4, 2) := by decide +kernel
theorem dX6_believe_24 : decode cX6_believe 24 = .ok (.if_icmp .le 5, 3) := by decide +kernel
theorem dX6_believe_27 : decode cX6_believe 27 = .ok (.iconst 1, 1) := by decide +kernel
theorem dX6_believe_28 : decode cX6_believe 28 = .ok (.ireturn, 1) := by decide +kernel
theorem dX6_believe_29 : decode cX6_believe 29 = .ok (.iload 4, 2) := by decide +kernel
theorem dX6_believe_31 : decode cX6_believe 31 = .ok (.bipush 100, 2) := by decide +kernel
theorem dX6_believe_33 : decode cX6_believe 33 = .ok (.if_icmp .lt 11, 3) := by decide +kernel
theorem dX6_believe_36 : decode cX6_believe 36 = .ok (.iload 4, 2) := by decide +kernel
theorem dX6_believe_38 : decode cX6_believe 38 = .ok (.iload_n 3, 1) := by decide +kernel
theorem dX6_believe_39 : decode cX6_believe 39 = .ok (.if_icmp .lt 5, 3) := by decide +kernel
theorem dX6_believe_42 : decode cX6_believe 42 = .ok (.iconst 0, 1) := by decide +kernel
theorem dX6_believe_43 : decode cX6_believe 43 = .ok (.ireturn, 1) := by decide +kernel
theorem dX6_believe_44 : decode cX6_believe 44 = .ok (.iload_n 2, 1) := by decide +kernel
theorem dX6_believe_45 : decode cX6_believe 45 = .ok (.ireturn, 1) := by decide +kernel
theorem dX6_trustOfAll_0 : decode cX6_trustOfAll 0 = .ok (.iconst 0, 1) := by decide +kernel
theorem dX6_trustOfAll_1 : decode cX6_trustOfAll 1 = .ok (.istore_n 3, 1) := by decide +kernel
theorem dX6_trustOfAll_2 : decode cX6_trustOfAll 2 = .ok (.iconst 0, 1) := by decide +kernel
theorem dX6_trustOfAll_3 : decode cX6_trustOfAll 3 = .ok (.istore 4, 2) := by decide +kernel
theorem dX6_trustOfAll_5 : decode cX6_trustOfAll 5 = .ok (.iload 4, 2) := by decide +kernel
theorem dX6_trustOfAll_7 : decode cX6_trustOfAll 7 = .ok (.bipush 10, 2) := by decide +kernel
theorem dX6_trustOfAll_9 : decode cX6_trustOfAll 9 = .ok (.if_icmp .ge 35, 3) := by decide +kernel
theorem dX6_trustOfAll_12 : decode cX6_trustOfAll 12 = .ok (.aload_n 0, 1) := by decide +kernel
theorem dX6_trustOfAll_13 : decode cX6_trustOfAll 13 = .ok (.getfield 15, 3) := by decide +kernel
theorem dX6_trustOfAll_16 : decode cX6_trustOfAll 16 = .ok (.iload_n 1, 1) := by decide +kernel
theorem dX6_trustOfAll_17 : decode cX6_trustOfAll 17 = .ok (.bipush 10, 2) := by decide +kernel
theorem dX6_trustOfAll_19 : decode cX6_trustOfAll 19 = .ok (.imul, 1) := by decide +kernel
theorem dX6_trustOfAll_20 : decode cX6_trustOfAll 20 = .ok (.iload 4, 2) := by decide +kernel
theorem dX6_trustOfAll_22 : decode cX6_trustOfAll 22 = .ok (.iadd, 1) := by decide +kernel
theorem dX6_trustOfAll_23 : decode cX6_trustOfAll 23 = .ok (.iaload, 1) := by decide +kernel
theorem dX6_trustOfAll_24 : decode cX6_trustOfAll 24 = .ok (.iload_n 2, 1) := by decide +kernel
theorem dX6_trustOfAll_25 : decode cX6_trustOfAll 25 = .ok (.if_icmp .ne 13, 3) := by decide +kernel
theorem dX6_trustOfAll_28 : decode cX6_trustOfAll 28 = .ok (.iload_n 3, 1) := by decide +kernel
theorem dX6_trustOfAll_29 : decode cX6_trustOfAll 29 = .ok (.aload_n 0, 1) := by decide +kernel
theorem dX6_trustOfAll_30 : decode cX6_trustOfAll 30 = .ok (.getfield 9, 3) := by decide +kernel
theorem dX6_trustOfAll_33 : decode cX6_trustOfAll 33 = .ok (.iload 4, 2) := by decide +kernel
theorem dX6_trustOfAll_35 : decode cX6_trustOfAll 35 = .ok (.iaload, 1) := by decide +kernel
theorem dX6_trustOfAll_36 : decode cX6_trustOfAll 36 = .ok (.iadd, 1) := by decide +kernel
theorem dX6_trustOfAll_37 : decode cX6_trustOfAll 37 = .ok (.istore_n 3, 1) := by decide +kernel
theorem dX6_trustOfAll_38 : decode cX6_trustOfAll 38 = .ok (.iinc 4 1, 3) := by decide +kernel
theorem dX6_trustOfAll_41 : decode cX6_trustOfAll 41 = .ok (.goto (-36), 3) := by decide +kernel
theorem dX6_trustOfAll_44 : decode cX6_trustOfAll 44 = .ok (.iload_n 3, 1) := by decide +kernel
theorem dX6_trustOfAll_45 : decode cX6_trustOfAll 45 = .ok (.ireturn, 1) := by decide +kernel
theorem dX6_judge_0 : decode cX6_judge 0 = .ok (.iload_n 2, 1) := by decide +kernel
theorem dX6_judge_1 : decode cX6_judge 1 = .ok (.ifCond .eq 7, 3) := by decide +kernel
theorem dX6_judge_4 : decode cX6_judge 4 = .ok (.iconst 2, 1) := by decide +kernel
theorem dX6_judge_5 : decode cX6_judge 5 = .ok (.goto 4, 3) := by decide +kernel
theorem dX6_judge_8 : decode cX6_judge 8 = .ok (.iconst 1, 1) := by decide +kernel
theorem dX6_judge_9 : decode cX6_judge 9 = .ok (.istore_n 3, 1) := by decide +kernel
theorem dX6_judge_10 : decode cX6_judge 10 = .ok (.iconst 0, 1) := by decide +kernel
theorem dX6_judge_11 : decode cX6_judge 11 = .ok (.istore 4, 2) := by decide +kernel
theorem dX6_judge_13 : decode cX6_judge 13 = .ok (.iload 4, 2) := by decide +kernel
theorem dX6_judge_15 : decode cX6_judge 15 = .ok (.bipush 10, 2) := by decide +kernel
theorem dX6_judge_17 : decode cX6_judge 17 = .ok (.if_icmp .ge 93, 3) := by decide +kernel
theorem dX6_judge_20 : decode cX6_judge 20 = .ok (.aload_n 0, 1) := by decide +kernel
theorem dX6_judge_21 : decode cX6_judge 21 = .ok (.getfield 15, 3) := by decide +kernel
theorem dX6_judge_24 : decode cX6_judge 24 = .ok (.iload_n 1, 1) := by decide +kernel
theorem dX6_judge_25 : decode cX6_judge 25 = .ok (.bipush 10, 2) := by decide +kernel
theorem dX6_judge_27 : decode cX6_judge 27 = .ok (.imul, 1) := by decide +kernel
theorem dX6_judge_28 : decode cX6_judge 28 = .ok (.iload 4, 2) := by decide +kernel
theorem dX6_judge_30 : decode cX6_judge 30 = .ok (.iadd, 1) := by decide +kernel
theorem dX6_judge_31 : decode cX6_judge 31 = .ok (.iaload, 1) := by decide +kernel
theorem dX6_judge_32 : decode cX6_judge 32 = .ok (.istore 5, 2) := by decide +kernel
theorem dX6_judge_34 : decode cX6_judge 34 = .ok (.iload 5, 2) := by decide +kernel
theorem dX6_judge_36 : decode cX6_judge 36 = .ok (.iload_n 3, 1) := by decide +kernel
theorem dX6_judge_37 : decode cX6_judge 37 = .ok (.if_icmp .ne 28, 3) := by decide +kernel
theorem dX6_judge_40 : decode cX6_judge 40 = .ok (.aload_n 0, 1) := by decide +kernel
theorem dX6_judge_41 : decode cX6_judge 41 = .ok (.getfield 9, 3) := by decide +kernel
theorem dX6_judge_44 : decode cX6_judge 44 = .ok (.iload 4, 2) := by decide +kernel
theorem dX6_judge_46 : decode cX6_judge 46 = .ok (.aload_n 0, 1) := by decide +kernel
theorem dX6_judge_47 : decode cX6_judge 47 = .ok (.getfield 9, 3) := by decide +kernel
theorem dX6_judge_50 : decode cX6_judge 50 = .ok (.iload 4, 2) := by decide +kernel
theorem dX6_judge_52 : decode cX6_judge 52 = .ok (.iaload, 1) := by decide +kernel
theorem dX6_judge_53 : decode cX6_judge 53 = .ok (.bipush 10, 2) := by decide +kernel
theorem dX6_judge_55 : decode cX6_judge 55 = .ok (.iadd, 1) := by decide +kernel
theorem dX6_judge_56 : decode cX6_judge 56 = .ok (.bipush 100, 2) := by decide +kernel
theorem dX6_judge_58 : decode cX6_judge 58 = .ok (.invokestatic 22, 3) := by decide +kernel
theorem dX6_judge_61 : decode cX6_judge 61 = .ok (.iastore, 1) := by decide +kernel
theorem dX6_judge_62 : decode cX6_judge 62 = .ok (.goto 29, 3) := by decide +kernel
theorem dX6_judge_65 : decode cX6_judge 65 = .ok (.iload 5, 2) := by decide +kernel
theorem dX6_judge_67 : decode cX6_judge 67 = .ok (.ifCond .eq 24, 3) := by decide +kernel
theorem dX6_judge_70 : decode cX6_judge 70 = .ok (.aload_n 0, 1) := by decide +kernel
theorem dX6_judge_71 : decode cX6_judge 71 = .ok (.getfield 9, 3) := by decide +kernel
theorem dX6_judge_74 : decode cX6_judge 74 = .ok (.iload 4, 2) := by decide +kernel
theorem dX6_judge_76 : decode cX6_judge 76 = .ok (.aload_n 0, 1) := by decide +kernel
theorem dX6_judge_77 : decode cX6_judge 77 = .ok (.getfield 9, 3) := by decide +kernel
theorem dX6_judge_80 : decode cX6_judge 80 = .ok (.iload 4, 2) := by decide +kernel
theorem dX6_judge_82 : decode cX6_judge 82 = .ok (.iaload, 1) := by decide +kernel
theorem dX6_judge_83 : decode cX6_judge 83 = .ok (.bipush 20, 2) := by decide +kernel
theorem dX6_judge_85 : decode cX6_judge 85 = .ok (.isub, 1) := by decide +kernel
theorem dX6_judge_86 : decode cX6_judge 86 = .ok (.iconst 0, 1) := by decide +kernel
theorem dX6_judge_87 : decode cX6_judge 87 = .ok (.invokestatic 27, 3) := by decide +kernel
theorem dX6_judge_90 : decode cX6_judge 90 = .ok (.iastore, 1) := by decide +kernel
theorem dX6_judge_91 : decode cX6_judge 91 = .ok (.aload_n 0, 1) := by decide +kernel
theorem dX6_judge_92 : decode cX6_judge 92 = .ok (.getfield 15, 3) := by decide +kernel
theorem dX6_judge_95 : decode cX6_judge 95 = .ok (.iload_n 1, 1) := by decide +kernel
theorem dX6_judge_96 : decode cX6_judge 96 = .ok (.bipush 10, 2) := by decide +kernel
theorem dX6_judge_98 : decode cX6_judge 98 = .ok (.imul, 1) := by decide +kernel
theorem dX6_judge_99 : decode cX6_judge 99 = .ok (.iload 4, 2) := by decide +kernel
theorem dX6_judge_101 : decode cX6_judge 101 = .ok (.iadd, 1) := by decide +kernel
theorem dX6_judge_102 : decode cX6_judge 102 = .ok (.iconst 0, 1) := by decide +kernel
theorem dX6_judge_103 : decode cX6_judge 103 = .ok (.iastore, 1) := by decide +kernel
theorem dX6_judge_104 : decode cX6_judge 104 = .ok (.iinc 4 1, 3) := by decide +kernel
theorem dX6_judge_107 : decode cX6_judge 107 = .ok (.goto (-94), 3) := by decide +kernel
theorem dX6_judge_110 : decode cX6_judge 110 = .ok (.return_, 1) := by decide +kernel
theorem dX7_init_0 : decode cX7_init 0 = .ok (.aload_n 0, 1) := by decide +kernel
theorem dX7_init_1 : decode cX7_init 1 = .ok (.invokespecial 1, 3) := by decide +kernel
theorem dX7_init_4 : decode cX7_init 4 = .ok (.aload_n 0, 1) := by decide +kernel
theorem dX7_init_5 : decode cX7_init 5 = .ok (.new 7, 3) := by decide +kernel
theorem dX7_init_8 : decode cX7_init 8 = .ok (.dup, 1) := by decide +kernel
theorem dX7_init_9 : decode cX7_init 9 = .ok (.invokespecial 9, 3) := by decide +kernel
theorem dX7_init_12 : decode cX7_init 12 = .ok (.putfield 10, 3) := by decide +kernel
theorem dX7_init_15 : decode cX7_init 15 = .ok (.aload_n 0, 1) := by decide +kernel
theorem dX7_init_16 : decode cX7_init 16 = .ok (.new 16, 3) := by decide +kernel
theorem dX7_init_19 : decode cX7_init 19 = .ok (.dup, 1) := by decide +kernel
theorem dX7_init_20 : decode cX7_init 20 = .ok (.invokespecial 18, 3) := by decide +kernel
theorem dX7_init_23 : decode cX7_init 23 = .ok (.putfield 19, 3) := by decide +kernel
theorem dX7_init_26 : decode cX7_init 26 = .ok (.aload_n 0, 1) := by decide +kernel
theorem dX7_init_27 : decode cX7_init 27 = .ok (.new 23, 3) := by decide +kernel
theorem dX7_init_30 : decode cX7_init 30 = .ok (.dup, 1) := by decide +kernel
theorem dX7_init_31 : decode cX7_init 31 = .ok (.invokespecial 25, 3) := by decide +kernel
theorem dX7_init_34 : decode cX7_init 34 = .ok (.putfield 26, 3) := by decide +kernel
theorem dX7_init_37 : decode cX7_init 37 = .ok (.aload_n 0, 1) := by decide +kernel
theorem dX7_init_38 : decode cX7_init 38 = .ok (.new 30, 3) := by decide +kernel
theorem dX7_init_41 : decode cX7_init 41 = .ok (.dup, 1) := by decide +kernel
theorem dX7_init_42 : decode cX7_init 42 = .ok (.invokespecial 32, 3) := by decide +kernel
theorem dX7_init_45 : decode cX7_init 45 = .ok (.putfield 33, 3) := by decide +kernel
theorem dX7_init_48 : decode cX7_init 48 = .ok (.aload_n 0, 1) := by decide +kernel
theorem dX7_init_49 : decode cX7_init 49 = .ok (.new 37, 3) := by decide +kernel
theorem dX7_init_52 : decode cX7_init 52 = .ok (.dup, 1) := by decide +kernel
theorem dX7_init_53 : decode cX7_init 53 = .ok (.invokespecial 39, 3) := by decide +kernel
theorem dX7_init_56 : decode cX7_init 56 = .ok (.putfield 40, 3) := by decide +kernel
theorem dX7_init_59 : decode cX7_init 59 = .ok (.aload_n 0, 1) := by decide +kernel
theorem dX7_init_60 : decode cX7_init 60 = .ok (.new 44, 3) := by decide +kernel
theorem dX7_init_63 : decode cX7_init 63 = .ok (.dup, 1) := by decide +kernel
theorem dX7_init_64 : decode cX7_init 64 = .ok (.invokespecial 46, 3) := by decide +kernel
theorem dX7_init_67 : decode cX7_init 67 = .ok (.putfield 47, 3) := by decide +kernel
theorem dX7_init_70 : decode cX7_init 70 = .ok (.aload_n 0, 1) := by decide +kernel
theorem dX7_init_71 : decode cX7_init 71 = .ok (.iconst 0, 1) := by decide +kernel
theorem dX7_init_72 : decode cX7_init 72 = .ok (.putfield 51, 3) := by decide +kernel
theorem dX7_init_75 : decode cX7_init 75 = .ok (.return_, 1) := by decide +kernel
theorem dX7_addFork_0 : decode cX7_addFork 0 = .ok (.aload_n 0, 1) := by decide +kernel
theorem dX7_addFork_1 : decode cX7_addFork 1 = .ok (.getfield 10, 3) := by decide +kernel
theorem dX7_addFork_4 : decode cX7_addFork 4 = .ok (.getfield 55, 3) := by decide +kernel
theorem dX7_addFork_7 : decode cX7_addFork 7 = .ok (.bipush 16, 2) := by decide +kernel
theorem dX7_addFork_9 : decode cX7_addFork 9 = .ok (.if_icmp .lt 13, 3) := by decide +kernel
theorem dX7_addFork_12 : decode cX7_addFork 12 = .ok (.new 58, 3) := by decide +kernel
theorem dX7_addFork_15 : decode cX7_addFork 15 = .ok (.dup, 1) := by decide +kernel
theorem dX7_addFork_16 : decode cX7_addFork 16 = .ok (.ldc 60, 2) := by decide +kernel
theorem dX7_addFork_18 : decode cX7_addFork 18 = .ok (.invokespecial 62, 3) := by decide +kernel
theorem dX7_addFork_21 : decode cX7_addFork 21 = .ok (.athrow, 1) := by decide +kernel
theorem dX7_addFork_22 : decode cX7_addFork 22 = .ok (.aload_n 0, 1) := by decide +kernel
theorem dX7_addFork_23 : decode cX7_addFork 23 = .ok (.getfield 10, 3) := by decide +kernel
theorem dX7_addFork_26 : decode cX7_addFork 26 = .ok (.getfield 65, 3) := by decide +kernel
theorem dX7_addFork_29 : decode cX7_addFork 29 = .ok (.aload_n 0, 1) := by decide +kernel
theorem dX7_addFork_30 : decode cX7_addFork 30 = .ok (.getfield 10, 3) := by decide +kernel
theorem dX7_addFork_33 : decode cX7_addFork 33 = .ok (.getfield 55, 3) := by decide +kernel
theorem dX7_addFork_36 : decode cX7_addFork 36 = .ok (.iload_n 1, 1) := by decide +kernel
theorem dX7_addFork_37 : decode cX7_addFork 37 = .ok (.bastore, 1) := by decide +kernel
theorem dX7_addFork_38 : decode cX7_addFork 38 = .ok (.aload_n 0, 1) := by decide +kernel
theorem dX7_addFork_39 : decode cX7_addFork 39 = .ok (.getfield 10, 3) := by decide +kernel
theorem dX7_addFork_42 : decode cX7_addFork 42 = .ok (.dup, 1) := by decide +kernel
theorem dX7_addFork_43 : decode cX7_addFork 43 = .ok (.getfield 55, 3) := by decide +kernel
theorem dX7_addFork_46 : decode cX7_addFork 46 = .ok (.iconst 1, 1) := by decide +kernel
theorem dX7_addFork_47 : decode cX7_addFork 47 = .ok (.iadd, 1) := by decide +kernel
theorem dX7_addFork_48 : decode cX7_addFork 48 = .ok (.putfield 55, 3) := by decide +kernel
theorem dX7_addFork_51 : decode cX7_addFork 51 = .ok (.aload_n 0, 1) := by decide +kernel
theorem dX7_addFork_52 : decode cX7_addFork 52 = .ok (.getfield 10, 3) := by decide +kernel
theorem dX7_addFork_55 : decode cX7_addFork 55 = .ok (.getfield 55, 3) := by decide +kernel
theorem dX7_addFork_58 : decode cX7_addFork 58 = .ok (.iconst 1, 1) := by decide +kernel
theorem dX7_addFork_59 : decode cX7_addFork 59 = .ok (.isub, 1) := by decide +kernel
theorem dX7_addFork_60 : decode cX7_addFork 60 = .ok (.ireturn, 1) := by decide +kernel
theorem dX7_addTrail_0 : decode cX7_addTrail 0 = .ok (.aload_n 0, 1) := by decide +kernel
theorem dX7_addTrail_1 : decode cX7_addTrail 1 = .ok (.iload_n 1, 1) := by decide +kernel
theorem dX7_addTrail_2 : decode cX7_addTrail 2 = .ok (.invokevirtual 69, 3) := by decide +kernel
theorem dX7_addTrail_5 : decode cX7_addTrail 5 = .ok (.aload_n 0, 1) := by decide +kernel
theorem dX7_addTrail_6 : decode cX7_addTrail 6 = .ok (.iload_n 2, 1) := by decide +kernel
theorem dX7_addTrail_7 : decode cX7_addTrail 7 = .ok (.invokevirtual 69, 3) := by decide +kernel
theorem dX7_addTrail_10 : decode cX7_addTrail 10 = .ok (.iload_n 1, 1) := by decide +kernel
theorem dX7_addTrail_11 : decode cX7_addTrail 11 = .ok (.iload_n 2, 1) := by decide +kernel
theorem dX7_addTrail_12 : decode cX7_addTrail 12 = .ok (.if_icmp .ne 13, 3) := by decide +kernel
theorem dX7_addTrail_15 : decode cX7_addTrail 15 = .ok (.new 73, 3) := by decide +kernel
theorem dX7_addTrail_18 : decode cX7_addTrail 18 = .ok (.dup, 1) := by decide +kernel
theorem dX7_addTrail_19 : decode cX7_addTrail 19 = .ok (.ldc 75, 2) := by decide +kernel
theorem dX7_addTrail_21 : decode cX7_addTrail 21 = .ok (.invokespecial 77, 3) := by decide +kernel
theorem dX7_addTrail_24 : decode cX7_addTrail 24 = .ok (.athrow, 1) := by decide +kernel
theorem dX7_addTrail_25 : decode cX7_addTrail 25 = .ok (.aload_n 0, 1) := by decide +kernel
theorem dX7_addTrail_26 : decode cX7_addTrail 26 = .ok (.iload_n 3, 1) := by decide +kernel
theorem dX7_addTrail_27 : decode cX7_addTrail 27 = .ok (.invokevirtual 78, 3) := by decide +kernel
theorem dX7_addTrail_30 : decode cX7_addTrail 30 = .ok (.aload_n 0, 1) := by decide +kernel
theorem dX7_addTrail_31 : decode cX7_addTrail 31 = .ok (.iload 4, 2) := by decide +kernel
theorem dX7_addTrail_33 : decode cX7_addTrail 33 = .ok (.invokevirtual 78, 3) := by decide +kernel
theorem dX7_addTrail_36 : decode cX7_addTrail 36 = .ok (.aload_n 0, 1) := by decide +kernel
theorem dX7_addTrail_37 : decode cX7_addTrail 37 = .ok (.getfield 10, 3) := by decide +kernel
theorem dX7_addTrail_40 : decode cX7_addTrail 40 = .ok (.getfield 81, 3) := by decide +kernel
theorem dX7_addTrail_43 : decode cX7_addTrail 43 = .ok (.bipush 24, 2) := by decide +kernel
theorem dX7_addTrail_45 : decode cX7_addTrail 45 = .ok (.if_icmp .lt 13, 3) := by decide +kernel
theorem dX7_addTrail_48 : decode cX7_addTrail 48 = .ok (.new 58, 3) := by decide +kernel
theorem dX7_addTrail_51 : decode cX7_addTrail 51 = .ok (.dup, 1) := by decide +kernel
theorem dX7_addTrail_52 : decode cX7_addTrail 52 = .ok (.ldc 84, 2) := by decide +kernel
theorem dX7_addTrail_54 : decode cX7_addTrail 54 = .ok (.invokespecial 62, 3) := by decide +kernel
theorem dX7_addTrail_57 : decode cX7_addTrail 57 = .ok (.athrow, 1) := by decide +kernel
theorem dX7_addTrail_58 : decode cX7_addTrail 58 = .ok (.aload_n 0, 1) := by decide +kernel
theorem dX7_addTrail_59 : decode cX7_addTrail 59 = .ok (.getfield 10, 3) := by decide +kernel
theorem dX7_addTrail_62 : decode cX7_addTrail 62 = .ok (.iload_n 1, 1) := by decide +kernel
theorem dX7_addTrail_63 : decode cX7_addTrail 63 = .ok (.iload_n 2, 1) := by decide +kernel
theorem dX7_addTrail_64 : decode cX7_addTrail 64 = .ok (.iload_n 3, 1) := by decide +kernel
theorem dX7_addTrail_65 : decode cX7_addTrail 65 = .ok (.iload 4, 2) := by decide +kernel
theorem dX7_addTrail_67 : decode cX7_addTrail 67 = .ok (.invokevirtual 86, 3) := by decide +kernel
theorem dX7_addTrail_70 : decode cX7_addTrail 70 = .ok (.ireturn, 1) := by decide +kernel
theorem dX7_washOut_0 : decode cX7_washOut 0 = .ok (.aload_n 0, 1) := by decide +kernel
theorem dX7_washOut_1 : decode cX7_washOut 1 = .ok (.iload_n 1, 1) := by decide +kernel
theorem dX7_washOut_2 : decode cX7_washOut 2 = .ok (.invokevirtual 90, 3) := by decide +kernel
theorem dX7_washOut_5 : decode cX7_washOut 5 = .ok (.aload_n 0, 1) := by decide +kernel
theorem dX7_washOut_6 : decode cX7_washOut 6 = .ok (.getfield 10, 3) := by decide +kernel
theorem dX7_washOut_9 : decode cX7_washOut 9 = .ok (.getfield 93, 3) := by decide +kernel
theorem dX7_washOut_12 : decode cX7_washOut 12 = .ok (.getfield 97, 3) := by decide +kernel
theorem dX7_washOut_15 : decode cX7_washOut 15 = .ok (.iload_n 1, 1) := by decide +kernel
theorem dX7_washOut_16 : decode cX7_washOut 16 = .ok (.baload, 1) := by decide +kernel
theorem dX7_washOut_17 : decode cX7_washOut 17 = .ok (.ifCond .ne 7, 3) := by decide +kernel
theorem dX7_washOut_20 : decode cX7_washOut 20 = .ok (.iconst 1, 1) := by decide +kernel
theorem dX7_washOut_21 : decode cX7_washOut 21 = .ok (.goto 4, 3) := by decide +kernel
theorem dX7_washOut_24 : decode cX7_washOut 24 = .ok (.iconst 0, 1) := by decide +kernel
theorem dX7_washOut_25 : decode cX7_washOut 25 = .ok (.istore_n 2, 1) := by decide +kernel
theorem dX7_washOut_26 : decode cX7_washOut 26 = .ok (.aload_n 0, 1) := by decide +kernel
theorem dX7_washOut_27 : decode cX7_washOut 27 = .ok (.getfield 10, 3) := by decide +kernel
theorem dX7_washOut_30 : decode cX7_washOut 30 = .ok (.aload_n 0, 1) := by decide +kernel
theorem dX7_washOut_31 : decode cX7_washOut 31 = .ok (.getfield 10, 3) := by decide +kernel
theorem dX7_washOut_34 : decode cX7_washOut 34 = .ok (.getfield 93, 3) := by decide +kernel
theorem dX7_washOut_37 : decode cX7_washOut 37 = .ok (.iload_n 1, 1) := by decide +kernel
theorem dX7_washOut_38 : decode cX7_washOut 38 = .ok (.iconst 1, 1) := by decide +kernel
theorem dX7_washOut_39 : decode cX7_washOut 39 = .ok (.invokevirtual 102, 3) := by decide +kernel
theorem dX7_washOut_42 : decode cX7_washOut 42 = .ok (.iload_n 2, 1) := by decide +kernel
theorem dX7_washOut_43 : decode cX7_washOut 43 = .ok (.ireturn, 1) := by decide +kernel
theorem dX7_isGone_0 : decode cX7_isGone 0 = .ok (.aload_n 0, 1) := by decide +kernel
theorem dX7_isGone_1 : decode cX7_isGone 1 = .ok (.iload_n 1, 1) := by decide +kernel
theorem dX7_isGone_2 : decode cX7_isGone 2 = .ok (.invokevirtual 90, 3) := by decide +kernel
theorem dX7_isGone_5 : decode cX7_isGone 5 = .ok (.aload_n 0, 1) := by decide +kernel
theorem dX7_isGone_6 : decode cX7_isGone 6 = .ok (.getfield 10, 3) := by decide +kernel
theorem dX7_isGone_9 : decode cX7_isGone 9 = .ok (.iload_n 2, 1) := by decide +kernel
theorem dX7_isGone_10 : decode cX7_isGone 10 = .ok (.invokevirtual 106, 3) := by decide +kernel
theorem dX7_isGone_13 : decode cX7_isGone 13 = .ok (.getfield 97, 3) := by decide +kernel
theorem dX7_isGone_16 : decode cX7_isGone 16 = .ok (.iload_n 1, 1) := by decide +kernel
theorem dX7_isGone_17 : decode cX7_isGone 17 = .ok (.baload, 1) := by decide +kernel
theorem dX7_isGone_18 : decode cX7_isGone 18 = .ok (.ireturn, 1) := by decide +kernel
theorem dX7_minutes_0 : decode cX7_minutes 0 = .ok (.aload_n 0, 1) := by decide +kernel
theorem dX7_minutes_1 : decode cX7_minutes 1 = .ok (.iload_n 1, 1) := by decide +kernel
theorem dX7_minutes_2 : decode cX7_minutes 2 = .ok (.invokevirtual 69, 3) := by decide +kernel
theorem dX7_minutes_5 : decode cX7_minutes 5 = .ok (.aload_n 0, 1) := by decide +kernel
theorem dX7_minutes_6 : decode cX7_minutes 6 = .ok (.iload_n 2, 1) := by decide +kernel
theorem dX7_minutes_7 : decode cX7_minutes 7 = .ok (.invokevirtual 69, 3) := by decide +kernel
theorem dX7_minutes_10 : decode cX7_minutes 10 = .ok (.aload_n 0, 1) := by decide +kernel
theorem dX7_minutes_11 : decode cX7_minutes 11 = .ok (.getfield 10, 3) := by decide +kernel
theorem dX7_minutes_14 : decode cX7_minutes 14 = .ok (.iload_n 3, 1) := by decide +kernel
theorem dX7_minutes_15 : decode cX7_minutes 15 = .ok (.invokevirtual 106, 3) := by decide +kernel
theorem dX7_minutes_18 : decode cX7_minutes 18 = .ok (.iload_n 1, 1) := by decide +kernel
theorem dX7_minutes_19 : decode cX7_minutes 19 = .ok (.iload_n 2, 1) := by decide +kernel
theorem dX7_minutes_20 : decode cX7_minutes 20 = .ok (.invokevirtual 110, 3) := by decide +kernel
theorem dX7_minutes_23 : decode cX7_minutes 23 = .ok (.istore 4, 2) := by decide +kernel
theorem dX7_minutes_25 : decode cX7_minutes 25 = .ok (.iload 4, 2) := by decide +kernel
theorem dX7_minutes_27 : decode cX7_minutes 27 = .ok (.ldc 114, 2) := by decide +kernel
theorem dX7_minutes_29 : decode cX7_minutes 29 = .ok (.if_icmp .lt 13, 3) := by decide +kernel
theorem dX7_minutes_32 : decode cX7_minutes 32 = .ok (.new 115, 3) := by decide +kernel
theorem dX7_minutes_35 : decode cX7_minutes 35 = .ok (.dup, 1) := by decide +kernel
theorem dX7_minutes_36 : decode cX7_minutes 36 = .ok (.ldc 117, 2) := by decide +kernel
theorem dX7_minutes_38 : decode cX7_minutes 38 = .ok (.invokespecial 119, 3) := by decide +kernel
theorem dX7_minutes_41 : decode cX7_minutes 41 = .ok (.athrow, 1) := by decide +kernel
theorem dX7_minutes_42 : decode cX7_minutes 42 = .ok (.iload 4, 2) := by decide +kernel
theorem dX7_minutes_44 : decode cX7_minutes 44 = .ok (.ireturn, 1) := by decide +kernel
theorem dX7_firstTrail_0 : decode cX7_firstTrail 0 = .ok (.aload_n 0, 1) := by decide +kernel
theorem dX7_firstTrail_1 : decode cX7_firstTrail 1 = .ok (.iload_n 1, 1) := by decide +kernel
theorem dX7_firstTrail_2 : decode cX7_firstTrail 2 = .ok (.invokevirtual 69, 3) := by decide +kernel
theorem dX7_firstTrail_5 : decode cX7_firstTrail 5 = .ok (.aload_n 0, 1) := by decide +kernel
theorem dX7_firstTrail_6 : decode cX7_firstTrail 6 = .ok (.iload_n 2, 1) := by decide +kernel
theorem dX7_firstTrail_7 : decode cX7_firstTrail 7 = .ok (.invokevirtual 69, 3) := by decide +kernel
theorem dX7_firstTrail_10 : decode cX7_firstTrail 10 = .ok (.aload_n 0, 1) := by decide +kernel
theorem dX7_firstTrail_11 : decode cX7_firstTrail 11 = .ok (.getfield 10, 3) := by decide +kernel
theorem dX7_firstTrail_14 : decode cX7_firstTrail 14 = .ok (.iload_n 1, 1) := by decide +kernel
theorem dX7_firstTrail_15 : decode cX7_firstTrail 15 = .ok (.iload_n 2, 1) := by decide +kernel
theorem dX7_firstTrail_16 : decode cX7_firstTrail 16 = .ok (.invokevirtual 120, 3) := by decide +kernel
theorem dX7_firstTrail_19 : decode cX7_firstTrail 19 = .ok (.istore_n 3, 1) := by decide +kernel
theorem dX7_firstTrail_20 : decode cX7_firstTrail 20 = .ok (.iload_n 3, 1) := by decide +kernel
theorem dX7_firstTrail_21 : decode cX7_firstTrail 21 = .ok (.iconst (-1), 1) := by decide +kernel
theorem dX7_firstTrail_22 : decode cX7_firstTrail 22 = .ok (.if_icmp .ne 13, 3) := by decide +kernel
theorem dX7_firstTrail_25 : decode cX7_firstTrail 25 = .ok (.new 115, 3) := by decide +kernel
theorem dX7_firstTrail_28 : decode cX7_firstTrail 28 = .ok (.dup, 1) := by decide +kernel
theorem dX7_firstTrail_29 : decode cX7_firstTrail 29 = .ok (.ldc 123, 2) := by decide +kernel
theorem dX7_firstTrail_31 : decode cX7_firstTrail 31 = .ok (.invokespecial 119, 3) := by decide +kernel
theorem dX7_firstTrail_34 : decode cX7_firstTrail 34 = .ok (.athrow, 1) := by decide +kernel
theorem dX7_firstTrail_35 : decode cX7_firstTrail 35 = .ok (.iload_n 3, 1) := by decide +kernel
theorem dX7_firstTrail_36 : decode cX7_firstTrail 36 = .ok (.ireturn, 1) := by decide +kernel
theorem dX7_addWood_0 : decode cX7_addWood 0 = .ok (.iload_n 1, 1) := by decide +kernel
theorem dX7_addWood_1 : decode cX7_addWood 1 = .ok (.iconst 1, 1) := by decide +kernel
theorem dX7_addWood_2 : decode cX7_addWood 2 = .ok (.if_icmp .lt 9, 3) := by decide +kernel
theorem dX7_addWood_5 : decode cX7_addWood 5 = .ok (.iload_n 1, 1) := by decide +kernel
theorem dX7_addWood_6 : decode cX7_addWood 6 = .ok (.bipush 99, 2) := by decide +kernel
theorem dX7_addWood_8 : decode cX7_addWood 8 = .ok (.if_icmp .le 13, 3) := by decide +kernel
theorem dX7_addWood_11 : decode cX7_addWood 11 = .ok (.new 73, 3) := by decide +kernel
theorem dX7_addWood_14 : decode cX7_addWood 14 = .ok (.dup, 1) := by decide +kernel
theorem dX7_addWood_15 : decode cX7_addWood 15 = .ok (.ldc 125, 2) := by decide +kernel
theorem dX7_addWood_17 : decode cX7_addWood 17 = .ok (.invokespecial 77, 3) := by decide +kernel
theorem dX7_addWood_20 : decode cX7_addWood 20 = .ok (.athrow, 1) := by decide +kernel
theorem dX7_addWood_21 : decode cX7_addWood 21 = .ok (.aload_n 0, 1) := by decide +kernel
theorem dX7_addWood_22 : decode cX7_addWood 22 = .ok (.getfield 19, 3) := by decide +kernel
theorem dX7_addWood_25 : decode cX7_addWood 25 = .ok (.dup, 1) := by decide +kernel
theorem dX7_addWood_26 : decode cX7_addWood 26 = .ok (.getfield 127, 3) := by decide +kernel
theorem dX7_addWood_29 : decode cX7_addWood 29 = .ok (.iload_n 1, 1) := by decide +kernel
theorem dX7_addWood_30 : decode cX7_addWood 30 = .ok (.iadd, 1) := by decide +kernel
theorem dX7_addWood_31 : decode cX7_addWood 31 = .ok (.putfield 127, 3) := by decide +kernel
theorem dX7_addWood_34 : decode cX7_addWood 34 = .ok (.aload_n 0, 1) := by decide +kernel
theorem dX7_addWood_35 : decode cX7_addWood 35 = .ok (.getfield 19, 3) := by decide +kernel
theorem dX7_addWood_38 : decode cX7_addWood 38 = .ok (.getfield 127, 3) := by decide +kernel
theorem dX7_addWood_41 : decode cX7_addWood 41 = .ok (.ireturn, 1) := by decide +kernel
theorem dX7_cut_0 : decode cX7_cut 0 = .ok (.aload_n 0, 1) := by decide +kernel
theorem dX7_cut_1 : decode cX7_cut 1 = .ok (.iload_n 1, 1) := by decide +kernel
theorem dX7_cut_2 : decode cX7_cut 2 = .ok (.invokevirtual 69, 3) := by decide +kernel
theorem dX7_cut_5 : decode cX7_cut 5 = .ok (.aload_n 0, 1) := by decide +kernel
theorem dX7_cut_6 : decode cX7_cut 6 = .ok (.iload_n 2, 1) := by decide +kernel
theorem dX7_cut_7 : decode cX7_cut 7 = .ok (.invokevirtual 69, 3) := by decide +kernel
theorem dX7_cut_10 : decode cX7_cut 10 = .ok (.aload_n 0, 1) := by decide +kernel
theorem dX7_cut_11 : decode cX7_cut 11 = .ok (.getfield 10, 3) := by decide +kernel
theorem dX7_cut_14 : decode cX7_cut 14 = .ok (.getfield 65, 3) := by decide +kernel
theorem dX7_cut_17 : decode cX7_cut 17 = .ok (.iload_n 2, 1) := by decide +kernel
theorem dX7_cut_18 : decode cX7_cut 18 = .ok (.baload, 1) := by decide +kernel
theorem dX7_cut_19 : decode cX7_cut 19 = .ok (.ifCond .eq 8, 3) := by decide +kernel
theorem dX7_cut_22 : decode cX7_cut 22 = .ok (.iload_n 1, 1) := by decide +kernel
theorem dX7_cut_23 : decode cX7_cut 23 = .ok (.iload_n 2, 1) := by decide +kernel
theorem dX7_cut_24 : decode cX7_cut 24 = .ok (.if_icmp .ne 13, 3) := by decide +kernel
theorem dX7_cut_27 : decode cX7_cut 27 = .ok (.new 73, 3) := by decide +kernel
theorem dX7_cut_30 : decode cX7_cut 30 = .ok (.dup, 1) := by decide +kernel
theorem dX7_cut_31 : decode cX7_cut 31 = .ok (.ldc 130, 2) := by decide +kernel
theorem dX7_cut_33 : decode cX7_cut 33 = .ok (.invokespecial 77, 3) := by decide +kernel
theorem dX7_cut_36 : decode cX7_cut 36 = .ok (.athrow, 1) := by decide +kernel
theorem dX7_cut_37 : decode cX7_cut 37 = .ok (.aload_n 0, 1) := by decide +kernel
theorem dX7_cut_38 : decode cX7_cut 38 = .ok (.iload_n 1, 1) := by decide +kernel
theorem dX7_cut_39 : decode cX7_cut 39 = .ok (.iload_n 2, 1) := by decide +kernel
theorem dX7_cut_40 : decode cX7_cut 40 = .ok (.invokevirtual 132, 3) := by decide +kernel
theorem dX7_cut_43 : decode cX7_cut 43 = .ok (.ifCond .ne 13, 3) := by decide +kernel
theorem dX7_cut_46 : decode cX7_cut 46 = .ok (.new 115, 3) := by decide +kernel
theorem dX7_cut_49 : decode cX7_cut 49 = .ok (.dup, 1) := by decide +kernel
theorem dX7_cut_50 : decode cX7_cut 50 = .ok (.ldc 136, 2) := by decide +kernel
theorem dX7_cut_52 : decode cX7_cut 52 = .ok (.invokespecial 119, 3) := by decide +kernel
theorem dX7_cut_55 : decode cX7_cut 55 = .ok (.athrow, 1) := by decide +kernel
theorem dX7_cut_56 : decode cX7_cut 56 = .ok (.aload_n 0, 1) := by decide +kernel
theorem dX7_cut_57 : decode cX7_cut 57 = .ok (.getfield 19, 3) := by decide +kernel
theorem dX7_cut_60 : decode cX7_cut 60 = .ok (.getfield 127, 3) := by decide +kernel
theorem dX7_cut_63 : decode cX7_cut 63 = .ok (.iconst 1, 1) := by decide +kernel
theorem dX7_cut_64 : decode cX7_cut 64 = .ok (.if_icmp .ge 13, 3) := by decide +kernel
theorem dX7_cut_67 : decode cX7_cut 67 = .ok (.new 138, 3) := by decide +kernel
theorem dX7_cut_70 : decode cX7_cut 70 = .ok (.dup, 1) := by decide +kernel
theorem dX7_cut_71 : decode cX7_cut 71 = .ok (.ldc 140, 2) := by decide +kernel
theorem dX7_cut_73 : decode cX7_cut 73 = .ok (.invokespecial 142, 3) := by decide +kernel
theorem dX7_cut_76 : decode cX7_cut 76 = .ok (.athrow, 1) := by decide +kernel
theorem dX7_cut_77 : decode cX7_cut 77 = .ok (.aload_n 0, 1) := by decide +kernel
theorem dX7_cut_78 : decode cX7_cut 78 = .ok (.getfield 19, 3) := by decide +kernel
theorem dX7_cut_81 : decode cX7_cut 81 = .ok (.getfield 143, 3) := by decide +kernel
theorem dX7_cut_84 : decode cX7_cut 84 = .ok (.bipush 30, 2) := by decide +kernel
theorem dX7_cut_86 : decode cX7_cut 86 = .ok (.if_icmp .lt 13, 3) := by decide +kernel
theorem dX7_cut_89 : decode cX7_cut 89 = .ok (.new 58, 3) := by decide +kernel
theorem dX7_cut_92 : decode cX7_cut 92 = .ok (.dup, 1) := by decide +kernel
theorem dX7_cut_93 : decode cX7_cut 93 = .ok (.ldc 146, 2) := by decide +kernel
theorem dX7_cut_95 : decode cX7_cut 95 = .ok (.invokespecial 62, 3) := by decide +kernel
theorem dX7_cut_98 : decode cX7_cut 98 = .ok (.athrow, 1) := by decide +kernel
theorem dX7_cut_99 : decode cX7_cut 99 = .ok (.aload_n 0, 1) := by decide +kernel
theorem dX7_cut_100 : decode cX7_cut 100 = .ok (.getfield 19, 3) := by decide +kernel
theorem dX7_cut_103 : decode cX7_cut 103 = .ok (.getfield 143, 3) := by decide +kernel
theorem dX7_cut_106 : decode cX7_cut 106 = .ok (.istore_n 3, 1) := by decide +kernel
theorem dX7_cut_107 : decode cX7_cut 107 = .ok (.aload_n 0, 1) := by decide +kernel
theorem dX7_cut_108 : decode cX7_cut 108 = .ok (.getfield 19, 3) := by decide +kernel
theorem dX7_cut_111 : decode cX7_cut 111 = .ok (.dup, 1) := by decide +kernel
theorem dX7_cut_112 : decode cX7_cut 112 = .ok (.getfield 143, 3) := by decide +kernel
theorem dX7_cut_115 : decode cX7_cut 115 = .ok (.iconst 1, 1) := by decide +kernel
theorem dX7_cut_116 : decode cX7_cut 116 = .ok (.iadd, 1) := by decide +kernel
theorem dX7_cut_117 : decode cX7_cut 117 = .ok (.putfield 143, 3) := by decide +kernel
theorem dX7_cut_120 : decode cX7_cut 120 = .ok (.aload_n 0, 1) := by decide +kernel
theorem dX7_cut_121 : decode cX7_cut 121 = .ok (.getfield 19, 3) := by decide +kernel
theorem dX7_cut_124 : decode cX7_cut 124 = .ok (.getfield 148, 3) := by decide +kernel
theorem dX7_cut_127 : decode cX7_cut 127 = .ok (.iload_n 3, 1) := by decide +kernel
theorem dX7_cut_128 : decode cX7_cut 128 = .ok (.iload_n 1, 1) := by decide +kernel
theorem dX7_cut_129 : decode cX7_cut 129 = .ok (.iastore, 1) := by decide +kernel
theorem dX7_cut_130 : decode cX7_cut 130 = .ok (.aload_n 0, 1) := by decide +kernel
theorem dX7_cut_131 : decode cX7_cut 131 = .ok (.getfield 19, 3) := by decide +kernel
theorem dX7_cut_134 : decode cX7_cut 134 = .ok (.getfield 152, 3) := by decide +kernel
theorem dX7_cut_137 : decode cX7_cut 137 = .ok (.iload_n 3, 1) := by decide +kernel
theorem dX7_cut_138 : decode cX7_cut 138 = .ok (.iload_n 2, 1) := by decide +kernel
theorem dX7_cut_139 : decode cX7_cut 139 = .ok (.iastore, 1) := by decide +kernel
theorem dX7_cut_140 : decode cX7_cut 140 = .ok (.aload_n 0, 1) := by decide +kernel
theorem dX7_cut_141 : decode cX7_cut 141 = .ok (.iload_n 3, 1) := by decide +kernel
theorem dX7_cut_142 : decode cX7_cut 142 = .ok (.invokevirtual 155, 3) := by decide +kernel
theorem dX7_cut_145 : decode cX7_cut 145 = .ok (.iload_n 3, 1) := by decide +kernel
theorem dX7_cut_146 : decode cX7_cut 146 = .ok (.ireturn, 1) := by decide +kernel
theorem dX7_trailOf_0 : decode cX7_trailOf 0 = .ok (.aload_n 0, 1) := by decide +kernel
theorem dX7_trailOf_1 : decode cX7_trailOf 1 = .ok (.iload_n 1, 1) := by decide +kernel
theorem dX7_trailOf_2 : decode cX7_trailOf 2 = .ok (.invokevirtual 158, 3) := by decide +kernel
theorem dX7_trailOf_5 : decode cX7_trailOf 5 = .ok (.aload_n 0, 1) := by decide +kernel
theorem dX7_trailOf_6 : decode cX7_trailOf 6 = .ok (.getfield 19, 3) := by decide +kernel
theorem dX7_trailOf_9 : decode cX7_trailOf 9 = .ok (.getfield 161, 3) := by decide +kernel
theorem dX7_trailOf_12 : decode cX7_trailOf 12 = .ok (.iload_n 1, 1) := by decide +kernel
theorem dX7_trailOf_13 : decode cX7_trailOf 13 = .ok (.iaload, 1) := by decide +kernel
theorem dX7_trailOf_14 : decode cX7_trailOf 14 = .ok (.ireturn, 1) := by decide +kernel
theorem dX7_told_0 : decode cX7_told 0 = .ok (.aload_n 0, 1) := by decide +kernel
theorem dX7_told_1 : decode cX7_told 1 = .ok (.iload_n 1, 1) := by decide +kernel
theorem dX7_told_2 : decode cX7_told 2 = .ok (.invokevirtual 158, 3) := by decide +kernel
theorem dX7_told_5 : decode cX7_told 5 = .ok (.aload_n 0, 1) := by decide +kernel
theorem dX7_told_6 : decode cX7_told 6 = .ok (.getfield 19, 3) := by decide +kernel
theorem dX7_told_9 : decode cX7_told 9 = .ok (.getfield 164, 3) := by decide +kernel
theorem dX7_told_12 : decode cX7_told 12 = .ok (.iload_n 1, 1) := by decide +kernel
theorem dX7_told_13 : decode cX7_told 13 = .ok (.iaload, 1) := by decide +kernel
theorem dX7_told_14 : decode cX7_told 14 = .ok (.ireturn, 1) := by decide +kernel
theorem dX7_isCovered_0 : decode cX7_isCovered 0 = .ok (.aload_n 0, 1) := by decide +kernel
theorem dX7_isCovered_1 : decode cX7_isCovered 1 = .ok (.iload_n 1, 1) := by decide +kernel
theorem dX7_isCovered_2 : decode cX7_isCovered 2 = .ok (.invokevirtual 158, 3) := by decide +kernel
theorem dX7_isCovered_5 : decode cX7_isCovered 5 = .ok (.aload_n 0, 1) := by decide +kernel
theorem dX7_isCovered_6 : decode cX7_isCovered 6 = .ok (.getfield 19, 3) := by decide +kernel
theorem dX7_isCovered_9 : decode cX7_isCovered 9 = .ok (.getfield 167, 3) := by decide +kernel
theorem dX7_isCovered_12 : decode cX7_isCovered 12 = .ok (.iload_n 1, 1) := by decide +kernel
theorem dX7_isCovered_13 : decode cX7_isCovered 13 = .ok (.baload, 1) := by decide +kernel
theorem dX7_isCovered_14 : decode cX7_isCovered 14 = .ok (.ireturn, 1) := by decide +kernel
theorem dX7_danger_0 : decode cX7_danger 0 = .ok (.aload_n 0, 1) := by decide +kernel
theorem dX7_danger_1 : decode cX7_danger 1 = .ok (.iload_n 1, 1) := by decide +kernel
theorem dX7_danger_2 : decode cX7_danger 2 = .ok (.invokevirtual 158, 3) := by decide +kernel
theorem dX7_danger_5 : decode cX7_danger 5 = .ok (.aload_n 0, 1) := by decide +kernel
theorem dX7_danger_6 : decode cX7_danger 6 = .ok (.getfield 19, 3) := by decide +kernel
theorem dX7_danger_9 : decode cX7_danger 9 = .ok (.iload_n 1, 1) := by decide +kernel
theorem dX7_danger_10 : decode cX7_danger 10 = .ok (.aload_n 0, 1) := by decide +kernel
theorem dX7_danger_11 : decode cX7_danger 11 = .ok (.getfield 10, 3) := by decide +kernel
theorem dX7_danger_14 : decode cX7_danger 14 = .ok (.aload_n 0, 1) := by decide +kernel
theorem dX7_danger_15 : decode cX7_danger 15 = .ok (.getfield 10, 3) := by decide +kernel
theorem dX7_danger_18 : decode cX7_danger 18 = .ok (.iload_n 2, 1) := by decide +kernel
theorem dX7_danger_19 : decode cX7_danger 19 = .ok (.invokevirtual 106, 3) := by decide +kernel
theorem dX7_danger_22 : decode cX7_danger 22 = .ok (.invokevirtual 170, 3) := by decide +kernel
theorem dX7_danger_25 : decode cX7_danger 25 = .ok (.ireturn, 1) := by decide +kernel
theorem dX7_unsafe_0 : decode cX7_unsafe 0 = .ok (.iconst 0, 1) := by decide +kernel
theorem dX7_unsafe_1 : decode cX7_unsafe 1 = .ok (.istore_n 2, 1) := by decide +kernel
theorem dX7_unsafe_2 : decode cX7_unsafe 2 = .ok (.iconst 0, 1) := by decide +kernel
theorem dX7_unsafe_3 : decode cX7_unsafe 3 = .ok (.istore_n 3, 1) := by decide +kernel
theorem dX7_unsafe_4 : decode cX7_unsafe 4 = .ok (.iload_n 3, 1) := by decide +kernel
theorem dX7_unsafe_5 : decode cX7_unsafe 5 = .ok (.aload_n 0, 1) := by decide +kernel
theorem dX7_unsafe_6 : decode cX7_unsafe 6 = .ok (.getfield 19, 3) := by decide +kernel
theorem dX7_unsafe_9 : decode cX7_unsafe 9 = .ok (.getfield 143, 3) := by decide +kernel
theorem dX7_unsafe_12 : decode cX7_unsafe 12 = .ok (.if_icmp .ge 50, 3) := by decide +kernel
theorem dX7_unsafe_15 : decode cX7_unsafe 15 = .ok (.aload_n 0, 1) := by decide +kernel
theorem dX7_unsafe_16 : decode cX7_unsafe 16 = .ok (.getfield 19, 3) := by decide +kernel
theorem dX7_unsafe_19 : decode cX7_unsafe 19 = .ok (.getfield 167, 3) := by decide +kernel
theorem dX7_unsafe_22 : decode cX7_unsafe 22 = .ok (.iload_n 3, 1) := by decide +kernel
theorem dX7_unsafe_23 : decode cX7_unsafe 23 = .ok (.baload, 1) := by decide +kernel
theorem dX7_unsafe_24 : decode cX7_unsafe 24 = .ok (.ifCond .ne 32, 3) := by decide +kernel
theorem dX7_unsafe_27 : decode cX7_unsafe 27 = .ok (.aload_n 0, 1) := by decide +kernel
theorem dX7_unsafe_28 : decode cX7_unsafe 28 = .ok (.getfield 19, 3) := by decide +kernel
theorem dX7_unsafe_31 : decode cX7_unsafe 31 = .ok (.iload_n 3, 1) := by decide +kernel
theorem dX7_unsafe_32 : decode cX7_unsafe 32 = .ok (.aload_n 0, 1) := by decide +kernel
theorem dX7_unsafe_33 : decode cX7_unsafe 33 = .ok (.getfield 10, 3) := by decide +kernel
theorem dX7_unsafe_36 : decode cX7_unsafe 36 = .ok (.aload_n 0, 1) := by decide +kernel
theorem dX7_unsafe_37 : decode cX7_unsafe 37 = .ok (.getfield 10, 3) := by decide +kernel
theorem dX7_unsafe_40 : decode cX7_unsafe 40 = .ok (.iload_n 1, 1) := by decide +kernel
theorem dX7_unsafe_41 : decode cX7_unsafe 41 = .ok (.invokevirtual 106, 3) := by decide +kernel
theorem dX7_unsafe_44 : decode cX7_unsafe 44 = .ok (.invokevirtual 170, 3) := by decide +kernel
theorem dX7_unsafe_47 : decode cX7_unsafe 47 = .ok (.sipush 1000, 3) := by decide +kernel
theorem dX7_unsafe_50 : decode cX7_unsafe 50 = .ok (.if_icmp .ne 6, 3) := by decide +kernel
theorem dX7_unsafe_53 : decode cX7_unsafe 53 = .ok (.iinc 2 1, 3) := by decide +kernel
theorem dX7_unsafe_56 : decode cX7_unsafe 56 = .ok (.iinc 3 1, 3) := by decide +kernel
theorem dX7_unsafe_59 : decode cX7_unsafe 59 = .ok (.goto (-55), 3) := by decide +kernel
theorem dX7_unsafe_62 : decode cX7_unsafe 62 = .ok (.iload_n 2, 1) := by decide +kernel
theorem dX7_unsafe_63 : decode cX7_unsafe 63 = .ok (.ireturn, 1) := by decide +kernel
theorem dX7_report_0 : decode cX7_report 0 = .ok (.aload_n 0, 1) := by decide +kernel
theorem dX7_report_1 : decode cX7_report 1 = .ok (.iload_n 1, 1) := by decide +kernel
theorem dX7_report_2 : decode cX7_report 2 = .ok (.invokevirtual 174, 3) := by decide +kernel
theorem dX7_report_5 : decode cX7_report 5 = .ok (.aload_n 0, 1) := by decide +kernel
theorem dX7_report_6 : decode cX7_report 6 = .ok (.iload_n 2, 1) := by decide +kernel
theorem dX7_report_7 : decode cX7_report 7 = .ok (.invokevirtual 90, 3) := by decide +kernel
theorem dX7_report_10 : decode cX7_report 10 = .ok (.aload_n 0, 1) := by decide +kernel
theorem dX7_report_11 : decode cX7_report 11 = .ok (.getfield 26, 3) := by decide +kernel
theorem dX7_report_14 : decode cX7_report 14 = .ok (.iload_n 1, 1) := by decide +kernel
theorem dX7_report_15 : decode cX7_report 15 = .ok (.iload_n 2, 1) := by decide +kernel
theorem dX7_report_16 : decode cX7_report 16 = .ok (.iload_n 3, 1) := by decide +kernel
theorem dX7_report_17 : decode cX7_report 17 = .ok (.invokevirtual 177, 3) := by decide +kernel
theorem dX7_report_20 : decode cX7_report 20 = .ok (.aload_n 0, 1) := by decide +kernel
theorem dX7_report_21 : decode cX7_report 21 = .ok (.getfield 10, 3) := by decide +kernel
theorem dX7_report_24 : decode cX7_report 24 = .ok (.aload_n 0, 1) := by decide +kernel
theorem dX7_report_25 : decode cX7_report 25 = .ok (.getfield 10, 3) := by decide +kernel
theorem dX7_report_28 : decode cX7_report 28 = .ok (.getfield 181, 3) := by decide +kernel
theorem dX7_report_31 : decode cX7_report 31 = .ok (.iload_n 2, 1) := by decide +kernel
theorem dX7_report_32 : decode cX7_report 32 = .ok (.aload_n 0, 1) := by decide +kernel
theorem dX7_report_33 : decode cX7_report 33 = .ok (.getfield 26, 3) := by decide +kernel
theorem dX7_report_36 : decode cX7_report 36 = .ok (.iload_n 2, 1) := by decide +kernel
theorem dX7_report_37 : decode cX7_report 37 = .ok (.aload_n 0, 1) := by decide +kernel
theorem dX7_report_38 : decode cX7_report 38 = .ok (.getfield 10, 3) := by decide +kernel
theorem dX7_report_41 : decode cX7_report 41 = .ok (.getfield 181, 3) := by decide +kernel
theorem dX7_report_44 : decode cX7_report 44 = .ok (.getfield 97, 3) := by decide +kernel
theorem dX7_report_47 : decode cX7_report 47 = .ok (.iload_n 2, 1) := by decide +kernel
theorem dX7_report_48 : decode cX7_report 48 = .ok (.baload, 1) := by decide +kernel
theorem dX7_report_49 : decode cX7_report 49 = .ok (.invokevirtual 184, 3) := by decide +kernel
theorem dX7_report_52 : decode cX7_report 52 = .ok (.invokevirtual 102, 3) := by decide +kernel
theorem dX7_report_55 : decode cX7_report 55 = .ok (.aload_n 0, 1) := by decide +kernel
theorem dX7_report_56 : decode cX7_report 56 = .ok (.getfield 10, 3) := by decide +kernel
theorem dX7_report_59 : decode cX7_report 59 = .ok (.getfield 181, 3) := by decide +kernel
theorem dX7_report_62 : decode cX7_report 62 = .ok (.getfield 97, 3) := by decide +kernel
theorem dX7_report_65 : decode cX7_report 65 = .ok (.iload_n 2, 1) := by decide +kernel
theorem dX7_report_66 : decode cX7_report 66 = .ok (.baload, 1) := by decide +kernel
theorem dX7_report_67 : decode cX7_report 67 = .ok (.ireturn, 1) := by decide +kernel
theorem dX7_trust_0 : decode cX7_trust 0 = .ok (.aload_n 0, 1) := by decide +kernel
theorem dX7_trust_1 : decode cX7_trust 1 = .ok (.iload_n 1, 1) := by decide +kernel
theorem dX7_trust_2 : decode cX7_trust 2 = .ok (.invokevirtual 174, 3) := by decide +kernel
theorem dX7_trust_5 : decode cX7_trust 5 = .ok (.aload_n 0, 1) := by decide +kernel
theorem dX7_trust_6 : decode cX7_trust 6 = .ok (.getfield 26, 3) := by decide +kernel
theorem dX7_trust_9 : decode cX7_trust 9 = .ok (.getfield 188, 3) := by decide +kernel
theorem dX7_trust_12 : decode cX7_trust 12 = .ok (.iload_n 1, 1) := by decide +kernel
theorem dX7_trust_13 : decode cX7_trust 13 = .ok (.iaload, 1) := by decide +kernel
theorem dX7_trust_14 : decode cX7_trust 14 = .ok (.ireturn, 1) := by decide +kernel
theorem dX7_reports_0 : decode cX7_reports 0 = .ok (.aload_n 0, 1) := by decide +kernel
theorem dX7_reports_1 : decode cX7_reports 1 = .ok (.iload_n 1, 1) := by decide +kernel
theorem dX7_reports_2 : decode cX7_reports 2 = .ok (.invokevirtual 90, 3) := by decide +kernel
theorem dX7_reports_5 : decode cX7_reports 5 = .ok (.aload_n 0, 1) := by decide +kernel
theorem dX7_reports_6 : decode cX7_reports 6 = .ok (.getfield 26, 3) := by decide +kernel
theorem dX7_reports_9 : decode cX7_reports 9 = .ok (.iload_n 1, 1) := by decide +kernel
theorem dX7_reports_10 : decode cX7_reports 10 = .ok (.invokevirtual 191, 3) := by decide +kernel
theorem dX7_reports_13 : decode cX7_reports 13 = .ok (.ireturn, 1) := by decide +kernel
theorem dX7_addTask_0 : decode cX7_addTask 0 = .ok (.iload_n 1, 1) := by decide +kernel
theorem dX7_addTask_1 : decode cX7_addTask 1 = .ok (.bipush 109, 2) := by decide +kernel
theorem dX7_addTask_3 : decode cX7_addTask 3 = .ok (.if_icmp .eq 19, 3) := by decide +kernel
theorem dX7_addTask_6 : decode cX7_addTask 6 = .ok (.iload_n 1, 1) := by decide +kernel
theorem dX7_addTask_7 : decode cX7_addTask 7 = .ok (.bipush 114, 2) := by decide +kernel
theorem dX7_addTask_9 : decode cX7_addTask 9 = .ok (.if_icmp .eq 13, 3) := by decide +kernel
theorem dX7_addTask_12 : decode cX7_addTask 12 = .ok (.new 73, 3) := by decide +kernel
theorem dX7_addTask_15 : decode cX7_addTask 15 = .ok (.dup, 1) := by decide +kernel
theorem dX7_addTask_16 : decode cX7_addTask 16 = .ok (.ldc 195, 2) := by decide +kernel
theorem dX7_addTask_18 : decode cX7_addTask 18 = .ok (.invokespecial 77, 3) := by decide +kernel
theorem dX7_addTask_21 : decode cX7_addTask 21 = .ok (.athrow, 1) := by decide +kernel
theorem dX7_addTask_22 : decode cX7_addTask 22 = .ok (.iload_n 3, 1) := by decide +kernel
theorem dX7_addTask_23 : decode cX7_addTask 23 = .ok (.ifCond .lt 10, 3) := by decide +kernel
theorem dX7_addTask_26 : decode cX7_addTask 26 = .ok (.iload_n 3, 1) := by decide +kernel
theorem dX7_addTask_27 : decode cX7_addTask 27 = .ok (.sipush 999, 3) := by decide +kernel
theorem dX7_addTask_30 : decode cX7_addTask 30 = .ok (.if_icmp .le 13, 3) := by decide +kernel
theorem dX7_addTask_33 : decode cX7_addTask 33 = .ok (.new 73, 3) := by decide +kernel
theorem dX7_addTask_36 : decode cX7_addTask 36 = .ok (.dup, 1) := by decide +kernel
theorem dX7_addTask_37 : decode cX7_addTask 37 = .ok (.ldc 197, 2) := by decide +kernel
theorem dX7_addTask_39 : decode cX7_addTask 39 = .ok (.invokespecial 77, 3) := by decide +kernel
theorem dX7_addTask_42 : decode cX7_addTask 42 = .ok (.athrow, 1) := by decide +kernel
theorem dX7_addTask_43 : decode cX7_addTask 43 = .ok (.iload_n 1, 1) := by decide +kernel
theorem dX7_addTask_44 : decode cX7_addTask 44 = .ok (.bipush 109, 2) := by decide +kernel
theorem dX7_addTask_46 : decode cX7_addTask 46 = .ok (.if_icmp .ne 11, 3) := by decide +kernel
theorem dX7_addTask_49 : decode cX7_addTask 49 = .ok (.aload_n 0, 1) := by decide +kernel
theorem dX7_addTask_50 : decode cX7_addTask 50 = .ok (.iload_n 2, 1) := by decide +kernel
theorem dX7_addTask_51 : decode cX7_addTask 51 = .ok (.invokevirtual 90, 3) := by decide +kernel
theorem dX7_addTask_54 : decode cX7_addTask 54 = .ok (.goto 8, 3) := by decide +kernel
theorem dX7_addTask_57 : decode cX7_addTask 57 = .ok (.aload_n 0, 1) := by decide +kernel
theorem dX7_addTask_58 : decode cX7_addTask 58 = .ok (.iload_n 2, 1) := by decide +kernel
theorem dX7_addTask_59 : decode cX7_addTask 59 = .ok (.invokevirtual 158, 3) := by decide +kernel
theorem dX7_addTask_62 : decode cX7_addTask 62 = .ok (.aload_n 0, 1) := by decide +kernel
theorem dX7_addTask_63 : decode cX7_addTask 63 = .ok (.getfield 33, 3) := by decide +kernel
theorem dX7_addTask_66 : decode cX7_addTask 66 = .ok (.invokevirtual 199, 3) := by decide +kernel
theorem dX7_addTask_69 : decode cX7_addTask 69 = .ok (.ifCond .ne 13, 3) := by decide +kernel
theorem dX7_addTask_72 : decode cX7_addTask 72 = .ok (.new 58, 3) := by decide +kernel
theorem dX7_addTask_75 : decode cX7_addTask 75 = .ok (.dup, 1) := by decide +kernel
theorem dX7_addTask_76 : decode cX7_addTask 76 = .ok (.ldc 203, 2) := by decide +kernel
theorem dX7_addTask_78 : decode cX7_addTask 78 = .ok (.invokespecial 62, 3) := by decide +kernel
theorem dX7_addTask_81 : decode cX7_addTask 81 = .ok (.athrow, 1) := by decide +kernel
theorem dX7_addTask_82 : decode cX7_addTask 82 = .ok (.aload_n 0, 1) := by decide +kernel
theorem dX7_addTask_83 : decode cX7_addTask 83 = .ok (.getfield 33, 3) := by decide +kernel
theorem dX7_addTask_86 : decode cX7_addTask 86 = .ok (.iload_n 1, 1) := by decide +kernel
theorem dX7_addTask_87 : decode cX7_addTask 87 = .ok (.iload_n 2, 1) := by decide +kernel
theorem dX7_addTask_88 : decode cX7_addTask 88 = .ok (.iload_n 3, 1) := by decide +kernel
theorem dX7_addTask_89 : decode cX7_addTask 89 = .ok (.invokevirtual 205, 3) := by decide +kernel
theorem dX7_addTask_92 : decode cX7_addTask 92 = .ok (.ireturn, 1) := by decide +kernel
theorem dX7_plan_0 : decode cX7_plan 0 = .ok (.iconst 0, 1) := by decide +kernel
theorem dX7_plan_1 : decode cX7_plan 1 = .ok (.istore_n 1, 1) := by decide +kernel
theorem dX7_plan_2 : decode cX7_plan 2 = .ok (.iconst 0, 1) := by decide +kernel
theorem dX7_plan_3 : decode cX7_plan 3 = .ok (.istore_n 2, 1) := by decide +kernel
theorem dX7_plan_4 : decode cX7_plan 4 = .ok (.iload_n 2, 1) := by decide +kernel
theorem dX7_plan_5 : decode cX7_plan 5 = .ok (.bipush 30, 2) := by decide +kernel
theorem dX7_plan_7 : decode cX7_plan 7 = .ok (.if_icmp .ge 67, 3) := by decide +kernel
theorem dX7_plan_10 : decode cX7_plan 10 = .ok (.aload_n 0, 1) := by decide +kernel
theorem dX7_plan_11 : decode cX7_plan 11 = .ok (.getfield 33, 3) := by decide +kernel
theorem dX7_plan_14 : decode cX7_plan 14 = .ok (.invokevirtual 199, 3) := by decide +kernel
theorem dX7_plan_17 : decode cX7_plan 17 = .ok (.ifCond .eq 57, 3) := by decide +kernel
theorem dX7_plan_20 : decode cX7_plan 20 = .ok (.aload_n 0, 1) := by decide +kernel
theorem dX7_plan_21 : decode cX7_plan 21 = .ok (.invokevirtual 209, 3) := by decide +kernel
theorem dX7_plan_24 : decode cX7_plan 24 = .ok (.istore_n 3, 1) := by decide +kernel
theorem dX7_plan_25 : decode cX7_plan 25 = .ok (.iload_n 3, 1) := by decide +kernel
theorem dX7_plan_26 : decode cX7_plan 26 = .ok (.iconst (-1), 1) := by decide +kernel
theorem dX7_plan_27 : decode cX7_plan 27 = .ok (.if_icmp .ne 5, 3) := by decide +kernel
theorem dX7_plan_30 : decode cX7_plan 30 = .ok (.iload_n 1, 1) := by decide +kernel
theorem dX7_plan_31 : decode cX7_plan 31 = .ok (.ireturn, 1) := by decide +kernel
theorem dX7_plan_32 : decode cX7_plan 32 = .ok (.aload_n 0, 1) := by decide +kernel
theorem dX7_plan_33 : decode cX7_plan 33 = .ok (.getfield 33, 3) := by decide +kernel
theorem dX7_plan_36 : decode cX7_plan 36 = .ok (.aload_n 0, 1) := by decide +kernel
theorem dX7_plan_37 : decode cX7_plan 37 = .ok (.iload_n 3, 1) := by decide +kernel
theorem dX7_plan_38 : decode cX7_plan 38 = .ok (.invokevirtual 213, 3) := by decide +kernel
theorem dX7_plan_41 : decode cX7_plan 41 = .ok (.iload_n 3, 1) := by decide +kernel
theorem dX7_plan_42 : decode cX7_plan 42 = .ok (.aload_n 0, 1) := by decide +kernel
theorem dX7_plan_43 : decode cX7_plan 43 = .ok (.getfield 19, 3) := by decide +kernel
theorem dX7_plan_46 : decode cX7_plan 46 = .ok (.iload_n 3, 1) := by decide +kernel
theorem dX7_plan_47 : decode cX7_plan 47 = .ok (.aload_n 0, 1) := by decide +kernel
theorem dX7_plan_48 : decode cX7_plan 48 = .ok (.getfield 10, 3) := by decide +kernel
theorem dX7_plan_51 : decode cX7_plan 51 = .ok (.aload_n 0, 1) := by decide +kernel
theorem dX7_plan_52 : decode cX7_plan 52 = .ok (.getfield 10, 3) := by decide +kernel
theorem dX7_plan_55 : decode cX7_plan 55 = .ok (.getfield 181, 3) := by decide +kernel
theorem dX7_plan_58 : decode cX7_plan 58 = .ok (.invokevirtual 170, 3) := by decide +kernel
theorem dX7_plan_61 : decode cX7_plan 61 = .ok (.invokevirtual 205, 3) := by decide +kernel
theorem dX7_plan_64 : decode cX7_plan 64 = .ok (.pop, 1) := by decide +kernel
theorem dX7_plan_65 : decode cX7_plan 65 = .ok (.iinc 1 1, 3) := by decide +kernel
theorem dX7_plan_68 : decode cX7_plan 68 = .ok (.iinc 2 1, 3) := by decide +kernel
theorem dX7_plan_71 : decode cX7_plan 71 = .ok (.goto (-67), 3) := by decide +kernel
theorem dX7_plan_74 : decode cX7_plan 74 = .ok (.iload_n 1, 1) := by decide +kernel
theorem dX7_plan_75 : decode cX7_plan 75 = .ok (.ireturn, 1) := by decide +kernel
theorem dX7_kindOf_0 : decode cX7_kindOf 0 = .ok (.aload_n 0, 1) := by decide +kernel
theorem dX7_kindOf_1 : decode cX7_kindOf 1 = .ok (.iload_n 1, 1) := by decide +kernel
theorem dX7_kindOf_2 : decode cX7_kindOf 2 = .ok (.invokevirtual 217, 3) := by decide +kernel
theorem dX7_kindOf_5 : decode cX7_kindOf 5 = .ok (.aload_n 0, 1) := by decide +kernel
theorem dX7_kindOf_6 : decode cX7_kindOf 6 = .ok (.getfield 33, 3) := by decide +kernel
theorem dX7_kindOf_9 : decode cX7_kindOf 9 = .ok (.getfield 220, 3) := by decide +kernel
theorem dX7_kindOf_12 : decode cX7_kindOf 12 = .ok (.iload_n 1, 1) := by decide +kernel
theorem dX7_kindOf_13 : decode cX7_kindOf 13 = .ok (.caload, 1) := by decide +kernel
theorem dX7_kindOf_14 : decode cX7_kindOf 14 = .ok (.ireturn, 1) := by decide +kernel
theorem dX7_numberOf_0 : decode cX7_numberOf 0 = .ok (.aload_n 0, 1) := by decide +kernel
theorem dX7_numberOf_1 : decode cX7_numberOf 1 = .ok (.iload_n 1, 1) := by decide +kernel
theorem dX7_numberOf_2 : decode cX7_numberOf 2 = .ok (.invokevirtual 217, 3) := by decide +kernel
theorem dX7_numberOf_5 : decode cX7_numberOf 5 = .ok (.aload_n 0, 1) := by decide +kernel
theorem dX7_numberOf_6 : decode cX7_numberOf 6 = .ok (.getfield 33, 3) := by decide +kernel
theorem dX7_numberOf_9 : decode cX7_numberOf 9 = .ok (.getfield 224, 3) := by decide +kernel
theorem dX7_numberOf_12 : decode cX7_numberOf 12 = .ok (.iload_n 1, 1) := by decide +kernel
theorem dX7_numberOf_13 : decode cX7_numberOf 13 = .ok (.iaload, 1) := by decide +kernel
theorem dX7_numberOf_14 : decode cX7_numberOf 14 = .ok (.ireturn, 1) := by decide +kernel
theorem dX7_doneBy_0 : decode cX7_doneBy 0 = .ok (.aload_n 0, 1) := by decide +kernel
theorem dX7_doneBy_1 : decode cX7_doneBy 1 = .ok (.iload_n 1, 1) := by decide +kernel
theorem dX7_doneBy_2 : decode cX7_doneBy 2 = .ok (.invokevirtual 217, 3) := by decide +kernel
theorem dX7_doneBy_5 : decode cX7_doneBy 5 = .ok (.aload_n 0, 1) := by decide +kernel
theorem dX7_doneBy_6 : decode cX7_doneBy 6 = .ok (.getfield 33, 3) := by decide +kernel
theorem dX7_doneBy_9 : decode cX7_doneBy 9 = .ok (.iload_n 1, 1) := by decide +kernel
theorem dX7_doneBy_10 : decode cX7_doneBy 10 = .ok (.invokevirtual 227, 3) := by decide +kernel
theorem dX7_doneBy_13 : decode cX7_doneBy 13 = .ok (.ifCond .eq 13, 3) := by decide +kernel
theorem dX7_doneBy_16 : decode cX7_doneBy 16 = .ok (.new 115, 3) := by decide +kernel
theorem dX7_doneBy_19 : decode cX7_doneBy 19 = .ok (.dup, 1) := by decide +kernel
theorem dX7_doneBy_20 : decode cX7_doneBy 20 = .ok (.ldc 231, 2) := by decide +kernel
theorem dX7_doneBy_22 : decode cX7_doneBy 22 = .ok (.invokespecial 119, 3) := by decide +kernel
theorem dX7_doneBy_25 : decode cX7_doneBy 25 = .ok (.athrow, 1) := by decide +kernel
theorem dX7_doneBy_26 : decode cX7_doneBy 26 = .ok (.aload_n 0, 1) := by decide +kernel
theorem dX7_doneBy_27 : decode cX7_doneBy 27 = .ok (.getfield 33, 3) := by decide +kernel
theorem dX7_doneBy_30 : decode cX7_doneBy 30 = .ok (.getfield 233, 3) := by decide +kernel
theorem dX7_doneBy_33 : decode cX7_doneBy 33 = .ok (.iload_n 1, 1) := by decide +kernel
theorem dX7_doneBy_34 : decode cX7_doneBy 34 = .ok (.iaload, 1) := by decide +kernel
theorem dX7_doneBy_35 : decode cX7_doneBy 35 = .ok (.ireturn, 1) := by decide +kernel
theorem dX7_openTasks_0 : decode cX7_openTasks 0 = .ok (.iconst 0, 1) := by decide +kernel
theorem dX7_openTasks_1 : decode cX7_openTasks 1 = .ok (.istore_n 1, 1) := by decide +kernel
theorem dX7_openTasks_2 : decode cX7_openTasks 2 = .ok (.iconst 0, 1) := by decide +kernel
theorem dX7_openTasks_3 : decode cX7_openTasks 3 = .ok (.istore_n 2, 1) := by decide +kernel
theorem dX7_openTasks_4 : decode cX7_openTasks 4 = .ok (.iload_n 2, 1) := by decide +kernel
theorem dX7_openTasks_5 : decode cX7_openTasks 5 = .ok (.aload_n 0, 1) := by decide +kernel
theorem dX7_openTasks_6 : decode cX7_openTasks 6 = .ok (.getfield 33, 3) := by decide +kernel
theorem dX7_openTasks_9 : decode cX7_openTasks 9 = .ok (.getfield 236, 3) := by decide +kernel
theorem dX7_openTasks_12 : decode cX7_openTasks 12 = .ok (.if_icmp .ge 23, 3) := by decide +kernel
theorem dX7_openTasks_15 : decode cX7_openTasks 15 = .ok (.aload_n 0, 1) := by decide +kernel
theorem dX7_openTasks_16 : decode cX7_openTasks 16 = .ok (.getfield 33, 3) := by decide +kernel
theorem dX7_openTasks_19 : decode cX7_openTasks 19 = .ok (.iload_n 2, 1) := by decide +kernel
theorem dX7_openTasks_20 : decode cX7_openTasks 20 = .ok (.invokevirtual 227, 3) := by decide +kernel
theorem dX7_openTasks_23 : decode cX7_openTasks 23 = .ok (.ifCond .eq 6, 3) := by decide +kernel
theorem dX7_openTasks_26 : decode cX7_openTasks 26 = .ok (.iinc 1 1, 3) := by decide +kernel
theorem dX7_openTasks_29 : decode cX7_openTasks 29 = .ok (.iinc 2 1, 3) := by decide +kernel
theorem dX7_openTasks_32 : decode cX7_openTasks 32 = .ok (.goto (-28), 3) := by decide +kernel
theorem dX7_openTasks_35 : decode cX7_openTasks 35 = .ok (.iload_n 1, 1) := by decide +kernel
theorem dX7_openTasks_36 : decode cX7_openTasks 36 = .ok (.ireturn, 1) := by decide +kernel
theorem dX7_addRanger_0 : decode cX7_addRanger 0 = .ok (.aload_n 0, 1) := by decide +kernel
theorem dX7_addRanger_1 : decode cX7_addRanger 1 = .ok (.iload_n 1, 1) := by decide +kernel
theorem dX7_addRanger_2 : decode cX7_addRanger 2 = .ok (.invokevirtual 69, 3) := by decide +kernel
theorem dX7_addRanger_5 : decode cX7_addRanger 5 = .ok (.iload_n 2, 1) := by decide +kernel
theorem dX7_addRanger_6 : decode cX7_addRanger 6 = .ok (.ifCond .lt 8, 3) := by decide +kernel
theorem dX7_addRanger_9 : decode cX7_addRanger 9 = .ok (.iload_n 2, 1) := by decide +kernel
theorem dX7_addRanger_10 : decode cX7_addRanger 10 = .ok (.iconst 3, 1) := by decide +kernel
theorem dX7_addRanger_11 : decode cX7_addRanger 11 = .ok (.if_icmp .le 13, 3) := by decide +kernel
theorem dX7_addRanger_14 : decode cX7_addRanger 14 = .ok (.new 73, 3) := by decide +kernel
theorem dX7_addRanger_17 : decode cX7_addRanger 17 = .ok (.dup, 1) := by decide +kernel
theorem dX7_addRanger_18 : decode cX7_addRanger 18 = .ok (.ldc 237, 2) := by decide +kernel
theorem dX7_addRanger_20 : decode cX7_addRanger 20 = .ok (.invokespecial 77, 3) := by decide +kernel
theorem dX7_addRanger_23 : decode cX7_addRanger 23 = .ok (.athrow, 1) := by decide +kernel
theorem dX7_addRanger_24 : decode cX7_addRanger 24 = .ok (.aload_n 0, 1) := by decide +kernel
theorem dX7_addRanger_25 : decode cX7_addRanger 25 = .ok (.getfield 40, 3) := by decide +kernel
theorem dX7_addRanger_28 : decode cX7_addRanger 28 = .ok (.getfield 239, 3) := by decide +kernel
theorem dX7_addRanger_31 : decode cX7_addRanger 31 = .ok (.iconst 4, 1) := by decide +kernel
theorem dX7_addRanger_32 : decode cX7_addRanger 32 = .ok (.if_icmp .lt 13, 3) := by decide +kernel
theorem dX7_addRanger_35 : decode cX7_addRanger 35 = .ok (.new 58, 3) := by decide +kernel
theorem dX7_addRanger_38 : decode cX7_addRanger 38 = .ok (.dup, 1) := by decide +kernel
theorem dX7_addRanger_39 : decode cX7_addRanger 39 = .ok (.ldc 240, 2) := by decide +kernel
theorem dX7_addRanger_41 : decode cX7_addRanger 41 = .ok (.invokespecial 62, 3) := by decide +kernel
theorem dX7_addRanger_44 : decode cX7_addRanger 44 = .ok (.athrow, 1) := by decide +kernel
theorem dX7_addRanger_45 : decode cX7_addRanger 45 = .ok (.aload_n 0, 1) := by decide +kernel
theorem dX7_addRanger_46 : decode cX7_addRanger 46 = .ok (.getfield 40, 3) := by decide +kernel
theorem dX7_addRanger_49 : decode cX7_addRanger 49 = .ok (.iload_n 1, 1) := by decide +kernel
theorem dX7_addRanger_50 : decode cX7_addRanger 50 = .ok (.iload_n 2, 1) := by decide +kernel
theorem dX7_addRanger_51 : decode cX7_addRanger 51 = .ok (.invokevirtual 242, 3) := by decide +kernel
theorem dX7_addRanger_54 : decode cX7_addRanger 54 = .ok (.ireturn, 1) := by decide +kernel
theorem dX7_forkOf_0 : decode cX7_forkOf 0 = .ok (.aload_n 0, 1) := by decide +kernel
theorem dX7_forkOf_1 : decode cX7_forkOf 1 = .ok (.iload_n 1, 1) := by decide +kernel
theorem dX7_forkOf_2 : decode cX7_forkOf 2 = .ok (.invokevirtual 245, 3) := by decide +kernel
theorem dX7_forkOf_5 : decode cX7_forkOf 5 = .ok (.aload_n 0, 1) := by decide +kernel
theorem dX7_forkOf_6 : decode cX7_forkOf 6 = .ok (.getfield 40, 3) := by decide +kernel
theorem dX7_forkOf_9 : decode cX7_forkOf 9 = .ok (.getfield 248, 3) := by decide +kernel
theorem dX7_forkOf_12 : decode cX7_forkOf 12 = .ok (.iload_n 1, 1) := by decide +kernel
theorem dX7_forkOf_13 : decode cX7_forkOf 13 = .ok (.iaload, 1) := by decide +kernel
theorem dX7_forkOf_14 : decode cX7_forkOf 14 = .ok (.ireturn, 1) := by decide +kernel
theorem dX7_worked_0 : decode cX7_worked 0 = .ok (.aload_n 0, 1) := by decide +kernel
theorem dX7_worked_1 : decode cX7_worked 1 = .ok (.iload_n 1, 1) := by decide +kernel
theorem dX7_worked_2 : decode cX7_worked 2 = .ok (.invokevirtual 245, 3) := by decide +kernel
theorem dX7_worked_5 : decode cX7_worked 5 = .ok (.aload_n 0, 1) := by decide +kernel
theorem dX7_worked_6 : decode cX7_worked 6 = .ok (.getfield 40, 3) := by decide +kernel
theorem dX7_worked_9 : decode cX7_worked 9 = .ok (.getfield 249, 3) := by decide +kernel
theorem dX7_worked_12 : decode cX7_worked 12 = .ok (.iload_n 1, 1) := by decide +kernel
theorem dX7_worked_13 : decode cX7_worked 13 = .ok (.iaload, 1) := by decide +kernel
theorem dX7_worked_14 : decode cX7_worked 14 = .ok (.ireturn, 1) := by decide +kernel
theorem dX7_day_0 : decode cX7_day 0 = .ok (.aload_n 0, 1) := by decide +kernel
theorem dX7_day_1 : decode cX7_day 1 = .ok (.getfield 51, 3) := by decide +kernel
theorem dX7_day_4 : decode cX7_day 4 = .ok (.bipush 50, 2) := by decide +kernel
theorem dX7_day_6 : decode cX7_day 6 = .ok (.if_icmp .lt 13, 3) := by decide +kernel
theorem dX7_day_9 : decode cX7_day 9 = .ok (.new 58, 3) := by decide +kernel
theorem dX7_day_12 : decode cX7_day 12 = .ok (.dup, 1) := by decide +kernel
theorem dX7_day_13 : decode cX7_day 13 = .ok (.ldc 252, 2) := by decide +kernel
theorem dX7_day_15 : decode cX7_day 15 = .ok (.invokespecial 62, 3) := by decide +kernel
theorem dX7_day_18 : decode cX7_day 18 = .ok (.athrow, 1) := by decide +kernel
theorem dX7_day_19 : decode cX7_day 19 = .ok (.iconst 0, 1) := by decide +kernel
theorem dX7_day_20 : decode cX7_day 20 = .ok (.istore_n 1, 1) := by decide +kernel
theorem dX7_day_21 : decode cX7_day 21 = .ok (.iconst 0, 1) := by decide +kernel
theorem dX7_day_22 : decode cX7_day 22 = .ok (.istore_n 2, 1) := by decide +kernel
theorem dX7_day_23 : decode cX7_day 23 = .ok (.iload_n 2, 1) := by decide +kernel
theorem dX7_day_24 : decode cX7_day 24 = .ok (.aload_n 0, 1) := by decide +kernel
theorem dX7_day_25 : decode cX7_day 25 = .ok (.getfield 40, 3) := by decide +kernel
theorem dX7_day_28 : decode cX7_day 28 = .ok (.getfield 239, 3) := by decide +kernel
theorem dX7_day_31 : decode cX7_day 31 = .ok (.if_icmp .ge 17, 3) := by decide +kernel
theorem dX7_day_34 : decode cX7_day 34 = .ok (.iload_n 1, 1) := by decide +kernel
theorem dX7_day_35 : decode cX7_day 35 = .ok (.aload_n 0, 1) := by decide +kernel
theorem dX7_day_36 : decode cX7_day 36 = .ok (.iload_n 2, 1) := by decide +kernel
theorem dX7_day_37 : decode cX7_day 37 = .ok (.invokevirtual 254, 3) := by decide +kernel
theorem dX7_day_40 : decode cX7_day 40 = .ok (.iadd, 1) := by decide +kernel
theorem dX7_day_41 : decode cX7_day 41 = .ok (.istore_n 1, 1) := by decide +kernel
theorem dX7_day_42 : decode cX7_day 42 = .ok (.iinc 2 1, 3) := by decide +kernel
theorem dX7_day_45 : decode cX7_day 45 = .ok (.goto (-22), 3) := by decide +kernel
theorem dX7_day_48 : decode cX7_day 48 = .ok (.aload_n 0, 1) := by decide +kernel
theorem dX7_day_49 : decode cX7_day 49 = .ok (.dup, 1) := by decide +kernel
theorem dX7_day_50 : decode cX7_day 50 = .ok (.getfield 51, 3) := by decide +kernel
theorem dX7_day_53 : decode cX7_day 53 = .ok (.iconst 1, 1) := by decide +kernel
theorem dX7_day_54 : decode cX7_day 54 = .ok (.iadd, 1) := by decide +kernel
theorem dX7_day_55 : decode cX7_day 55 = .ok (.putfield 51, 3) := by decide +kernel
theorem dX7_day_58 : decode cX7_day 58 = .ok (.iload_n 1, 1) := by decide +kernel
theorem dX7_day_59 : decode cX7_day 59 = .ok (.ireturn, 1) := by decide +kernel
theorem dX7_print_0 : decode cX7_print 0 = .ok (.aload_n 0, 1) := by decide +kernel
theorem dX7_print_1 : decode cX7_print 1 = .ok (.getfield 47, 3) := by decide +kernel
theorem dX7_print_4 : decode cX7_print 4 = .ok (.getfield 257, 3) := by decide +kernel
theorem dX7_print_7 : decode cX7_print 7 = .ok (.bipush 10, 2) := by decide +kernel
theorem dX7_print_9 : decode cX7_print 9 = .ok (.if_icmp .lt 14, 3) := by decide +kernel
theorem dX7_print_12 : decode cX7_print 12 = .ok (.new 58, 3) := by decide +kernel
theorem dX7_print_15 : decode cX7_print 15 = .ok (.dup, 1) := by decide +kernel
theorem dX7_print_16 : decode cX7_print 16 = .ok (.ldc_w 258, 3) := by decide +kernel
theorem dX7_print_19 : decode cX7_print 19 = .ok (.invokespecial 62, 3) := by decide +kernel
theorem dX7_print_22 : decode cX7_print 22 = .ok (.athrow, 1) := by decide +kernel
theorem dX7_print_23 : decode cX7_print 23 = .ok (.aload_n 0, 1) := by decide +kernel
theorem dX7_print_24 : decode cX7_print 24 = .ok (.getfield 47, 3) := by decide +kernel
theorem dX7_print_27 : decode cX7_print 27 = .ok (.aload_n 0, 1) := by decide +kernel
theorem dX7_print_28 : decode cX7_print 28 = .ok (.getfield 10, 3) := by decide +kernel
theorem dX7_print_31 : decode cX7_print 31 = .ok (.aload_n 0, 1) := by decide +kernel
theorem dX7_print_32 : decode cX7_print 32 = .ok (.getfield 51, 3) := by decide +kernel
theorem dX7_print_35 : decode cX7_print 35 = .ok (.invokevirtual 260, 3) := by decide +kernel
theorem dX7_print_38 : decode cX7_print 38 = .ok (.ireturn, 1) := by decide +kernel
theorem dX7_shows_0 : decode cX7_shows 0 = .ok (.aload_n 0, 1) := by decide +kernel
theorem dX7_shows_1 : decode cX7_shows 1 = .ok (.iload_n 1, 1) := by decide +kernel
theorem dX7_shows_2 : decode cX7_shows 2 = .ok (.invokevirtual 264, 3) := by decide +kernel
theorem dX7_shows_5 : decode cX7_shows 5 = .ok (.aload_n 0, 1) := by decide +kernel
theorem dX7_shows_6 : decode cX7_shows 6 = .ok (.iload_n 2, 1) := by decide +kernel
theorem dX7_shows_7 : decode cX7_shows 7 = .ok (.invokevirtual 90, 3) := by decide +kernel
theorem dX7_shows_10 : decode cX7_shows 10 = .ok (.aload_n 0, 1) := by decide +kernel
theorem dX7_shows_11 : decode cX7_shows 11 = .ok (.getfield 47, 3) := by decide +kernel
theorem dX7_shows_14 : decode cX7_shows 14 = .ok (.iload_n 1, 1) := by decide +kernel
theorem dX7_shows_15 : decode cX7_shows 15 = .ok (.iload_n 2, 1) := by decide +kernel
theorem dX7_shows_16 : decode cX7_shows 16 = .ok (.invokevirtual 267, 3) := by decide +kernel
theorem dX7_shows_19 : decode cX7_shows 19 = .ok (.ireturn, 1) := by decide +kernel
theorem dX7_age_0 : decode cX7_age 0 = .ok (.aload_n 0, 1) := by decide +kernel
theorem dX7_age_1 : decode cX7_age 1 = .ok (.iload_n 1, 1) := by decide +kernel
theorem dX7_age_2 : decode cX7_age 2 = .ok (.invokevirtual 264, 3) := by decide +kernel
theorem dX7_age_5 : decode cX7_age 5 = .ok (.aload_n 0, 1) := by decide +kernel
theorem dX7_age_6 : decode cX7_age 6 = .ok (.getfield 51, 3) := by decide +kernel
theorem dX7_age_9 : decode cX7_age 9 = .ok (.aload_n 0, 1) := by decide +kernel
theorem dX7_age_10 : decode cX7_age 10 = .ok (.getfield 47, 3) := by decide +kernel
theorem dX7_age_13 : decode cX7_age 13 = .ok (.getfield 270, 3) := by decide +kernel
theorem dX7_age_16 : decode cX7_age 16 = .ok (.iload_n 1, 1) := by decide +kernel
theorem dX7_age_17 : decode cX7_age 17 = .ok (.iaload, 1) := by decide +kernel
theorem dX7_age_18 : decode cX7_age 18 = .ok (.isub, 1) := by decide +kernel
theorem dX7_age_19 : decode cX7_age 19 = .ok (.ireturn, 1) := by decide +kernel
theorem dX7_knownShare_0 : decode cX7_knownShare 0 = .ok (.aload_n 0, 1) := by decide +kernel
theorem dX7_knownShare_1 : decode cX7_knownShare 1 = .ok (.getfield 10, 3) := by decide +kernel
theorem dX7_knownShare_4 : decode cX7_knownShare 4 = .ok (.getfield 81, 3) := by decide +kernel
theorem dX7_knownShare_7 : decode cX7_knownShare 7 = .ok (.iconst 1, 1) := by decide +kernel
theorem dX7_knownShare_8 : decode cX7_knownShare 8 = .ok (.if_icmp .ge 14, 3) := by decide +kernel
theorem dX7_knownShare_11 : decode cX7_knownShare 11 = .ok (.new 273, 3) := by decide +kernel
theorem dX7_knownShare_14 : decode cX7_knownShare 14 = .ok (.dup, 1) := by decide +kernel
theorem dX7_knownShare_15 : decode cX7_knownShare 15 = .ok (.ldc_w 275, 3) := by decide +kernel
theorem dX7_knownShare_18 : decode cX7_knownShare 18 = .ok (.invokespecial 277, 3) := by decide +kernel
theorem dX7_knownShare_21 : decode cX7_knownShare 21 = .ok (.athrow, 1) := by decide +kernel
theorem dX7_knownShare_22 : decode cX7_knownShare 22 = .ok (.iconst 0, 1) := by decide +kernel
theorem dX7_knownShare_23 : decode cX7_knownShare 23 = .ok (.istore_n 1, 1) := by decide +kernel
theorem dX7_knownShare_24 : decode cX7_knownShare 24 = .ok (.iconst 0, 1) := by decide +kernel
theorem dX7_knownShare_25 : decode cX7_knownShare 25 = .ok (.istore_n 2, 1) := by decide +kernel
theorem dX7_knownShare_26 : decode cX7_knownShare 26 = .ok (.iload_n 2, 1) := by decide +kernel
theorem dX7_knownShare_27 : decode cX7_knownShare 27 = .ok (.aload_n 0, 1) := by decide +kernel
theorem dX7_knownShare_28 : decode cX7_knownShare 28 = .ok (.getfield 10, 3) := by decide +kernel
theorem dX7_knownShare_31 : decode cX7_knownShare 31 = .ok (.getfield 81, 3) := by decide +kernel
theorem dX7_knownShare_34 : decode cX7_knownShare 34 = .ok (.if_icmp .ge 39, 3) := by decide +kernel
theorem dX7_knownShare_37 : decode cX7_knownShare 37 = .ok (.aload_n 0, 1) := by decide +kernel
theorem dX7_knownShare_38 : decode cX7_knownShare 38 = .ok (.getfield 10, 3) := by decide +kernel
theorem dX7_knownShare_41 : decode cX7_knownShare 41 = .ok (.getfield 181, 3) := by decide +kernel
theorem dX7_knownShare_44 : decode cX7_knownShare 44 = .ok (.getfield 97, 3) := by decide +kernel
theorem dX7_knownShare_47 : decode cX7_knownShare 47 = .ok (.iload_n 2, 1) := by decide +kernel
theorem dX7_knownShare_48 : decode cX7_knownShare 48 = .ok (.baload, 1) := by decide +kernel
theorem dX7_knownShare_49 : decode cX7_knownShare 49 = .ok (.aload_n 0, 1) := by decide +kernel
theorem dX7_knownShare_50 : decode cX7_knownShare 50 = .ok (.getfield 10, 3) := by decide +kernel
theorem dX7_knownShare_53 : decode cX7_knownShare 53 = .ok (.getfield 93, 3) := by decide +kernel
theorem dX7_knownShare_56 : decode cX7_knownShare 56 = .ok (.getfield 97, 3) := by decide +kernel
theorem dX7_knownShare_59 : decode cX7_knownShare 59 = .ok (.iload_n 2, 1) := by decide +kernel
theorem dX7_knownShare_60 : decode cX7_knownShare 60 = .ok (.baload, 1) := by decide +kernel
theorem dX7_knownShare_61 : decode cX7_knownShare 61 = .ok (.if_icmp .ne 6, 3) := by decide +kernel
theorem dX7_knownShare_64 : decode cX7_knownShare 64 = .ok (.iinc 1 1, 3) := by decide +kernel
theorem dX7_knownShare_67 : decode cX7_knownShare 67 = .ok (.iinc 2 1, 3) := by decide +kernel
theorem dX7_knownShare_70 : decode cX7_knownShare 70 = .ok (.goto (-44), 3) := by decide +kernel
theorem dX7_knownShare_73 : decode cX7_knownShare 73 = .ok (.iload_n 1, 1) := by decide +kernel
theorem dX7_knownShare_74 : decode cX7_knownShare 74 = .ok (.i2f, 1) := by decide +kernel
theorem dX7_knownShare_75 : decode cX7_knownShare 75 = .ok (.aload_n 0, 1) := by decide +kernel
theorem dX7_knownShare_76 : decode cX7_knownShare 76 = .ok (.getfield 10, 3) := by decide +kernel
theorem dX7_knownShare_79 : decode cX7_knownShare 79 = .ok (.getfield 81, 3) := by decide +kernel
theorem dX7_knownShare_82 : decode cX7_knownShare 82 = .ok (.i2f, 1) := by decide +kernel
theorem dX7_knownShare_83 : decode cX7_knownShare 83 = .ok (.fdiv, 1) := by decide +kernel
theorem dX7_knownShare_84 : decode cX7_knownShare 84 = .ok (.freturn, 1) := by decide +kernel
theorem dX7_meanDanger_0 : decode cX7_meanDanger 0 = .ok (.aload_n 0, 1) := by decide +kernel
theorem dX7_meanDanger_1 : decode cX7_meanDanger 1 = .ok (.getfield 19, 3) := by decide +kernel
theorem dX7_meanDanger_4 : decode cX7_meanDanger 4 = .ok (.getfield 143, 3) := by decide +kernel
theorem dX7_meanDanger_7 : decode cX7_meanDanger 7 = .ok (.iconst 1, 1) := by decide +kernel
theorem dX7_meanDanger_8 : decode cX7_meanDanger 8 = .ok (.if_icmp .ge 14, 3) := by decide +kernel
theorem dX7_meanDanger_11 : decode cX7_meanDanger 11 = .ok (.new 273, 3) := by decide +kernel
theorem dX7_meanDanger_14 : decode cX7_meanDanger 14 = .ok (.dup, 1) := by decide +kernel
theorem dX7_meanDanger_15 : decode cX7_meanDanger 15 = .ok (.ldc_w 278, 3) := by decide +kernel
theorem dX7_meanDanger_18 : decode cX7_meanDanger 18 = .ok (.invokespecial 277, 3) := by decide +kernel
theorem dX7_meanDanger_21 : decode cX7_meanDanger 21 = .ok (.athrow, 1) := by decide +kernel
theorem dX7_meanDanger_22 : decode cX7_meanDanger 22 = .ok (.iconst 0, 1) := by decide +kernel
theorem dX7_meanDanger_23 : decode cX7_meanDanger 23 = .ok (.istore_n 1, 1) := by decide +kernel
theorem dX7_meanDanger_24 : decode cX7_meanDanger 24 = .ok (.iconst 0, 1) := by decide +kernel
theorem dX7_meanDanger_25 : decode cX7_meanDanger 25 = .ok (.istore_n 2, 1) := by decide +kernel
theorem dX7_meanDanger_26 : decode cX7_meanDanger 26 = .ok (.iload_n 2, 1) := by decide +kernel
theorem dX7_meanDanger_27 : decode cX7_meanDanger 27 = .ok (.aload_n 0, 1) := by decide +kernel
theorem dX7_meanDanger_28 : decode cX7_meanDanger 28 = .ok (.getfield 19, 3) := by decide +kernel
theorem dX7_meanDanger_31 : decode cX7_meanDanger 31 = .ok (.getfield 143, 3) := by decide +kernel
theorem dX7_meanDanger_34 : decode cX7_meanDanger 34 = .ok (.if_icmp .ge 31, 3) := by decide +kernel
theorem dX7_meanDanger_37 : decode cX7_meanDanger 37 = .ok (.iload_n 1, 1) := by decide +kernel
theorem dX7_meanDanger_38 : decode cX7_meanDanger 38 = .ok (.aload_n 0, 1) := by decide +kernel
theorem dX7_meanDanger_39 : decode cX7_meanDanger 39 = .ok (.getfield 19, 3) := by decide +kernel
theorem dX7_meanDanger_42 : decode cX7_meanDanger 42 = .ok (.iload_n 2, 1) := by decide +kernel
theorem dX7_meanDanger_43 : decode cX7_meanDanger 43 = .ok (.aload_n 0, 1) := by decide +kernel
theorem dX7_meanDanger_44 : decode cX7_meanDanger 44 = .ok (.getfield 10, 3) := by decide +kernel
theorem dX7_meanDanger_47 : decode cX7_meanDanger 47 = .ok (.aload_n 0, 1) := by decide +kernel
theorem dX7_meanDanger_48 : decode cX7_meanDanger 48 = .ok (.getfield 10, 3) := by decide +kernel
theorem dX7_meanDanger_51 : decode cX7_meanDanger 51 = .ok (.getfield 181, 3) := by decide +kernel
theorem dX7_meanDanger_54 : decode cX7_meanDanger 54 = .ok (.invokevirtual 170, 3) := by decide +kernel
theorem dX7_meanDanger_57 : decode cX7_meanDanger 57 = .ok (.iadd, 1) := by decide +kernel
theorem dX7_meanDanger_58 : decode cX7_meanDanger 58 = .ok (.istore_n 1, 1) := by decide +kernel
theorem dX7_meanDanger_59 : decode cX7_meanDanger 59 = .ok (.iinc 2 1, 3) := by decide +kernel
theorem dX7_meanDanger_62 : decode cX7_meanDanger 62 = .ok (.goto (-36), 3) := by decide +kernel
theorem dX7_meanDanger_65 : decode cX7_meanDanger 65 = .ok (.iload_n 1, 1) := by decide +kernel
theorem dX7_meanDanger_66 : decode cX7_meanDanger 66 = .ok (.i2d, 1) := by decide +kernel
theorem dX7_meanDanger_67 : decode cX7_meanDanger 67 = .ok (.aload_n 0, 1) := by decide +kernel
theorem dX7_meanDanger_68 : decode cX7_meanDanger 68 = .ok (.getfield 19, 3) := by decide +kernel
theorem dX7_meanDanger_71 : decode cX7_meanDanger 71 = .ok (.getfield 143, 3) := by decide +kernel
theorem dX7_meanDanger_74 : decode cX7_meanDanger 74 = .ok (.i2d, 1) := by decide +kernel
theorem dX7_meanDanger_75 : decode cX7_meanDanger 75 = .ok (.ddiv, 1) := by decide +kernel
theorem dX7_meanDanger_76 : decode cX7_meanDanger 76 = .ok (.dreturn, 1) := by decide +kernel
theorem dX7_isSound_0 : decode cX7_isSound 0 = .ok (.aload_n 0, 1) := by decide +kernel
theorem dX7_isSound_1 : decode cX7_isSound 1 = .ok (.getfield 10, 3) := by decide +kernel
theorem dX7_isSound_4 : decode cX7_isSound 4 = .ok (.aload_n 0, 1) := by decide +kernel
theorem dX7_isSound_5 : decode cX7_isSound 5 = .ok (.getfield 10, 3) := by decide +kernel
theorem dX7_isSound_8 : decode cX7_isSound 8 = .ok (.getfield 93, 3) := by decide +kernel
theorem dX7_isSound_11 : decode cX7_isSound 11 = .ok (.invokevirtual 280, 3) := by decide +kernel
theorem dX7_isSound_14 : decode cX7_isSound 14 = .ok (.ifCond .eq 41, 3) := by decide +kernel
theorem dX7_isSound_17 : decode cX7_isSound 17 = .ok (.aload_n 0, 1) := by decide +kernel
theorem dX7_isSound_18 : decode cX7_isSound 18 = .ok (.getfield 10, 3) := by decide +kernel
theorem dX7_isSound_21 : decode cX7_isSound 21 = .ok (.aload_n 0, 1) := by decide +kernel
theorem dX7_isSound_22 : decode cX7_isSound 22 = .ok (.getfield 10, 3) := by decide +kernel
theorem dX7_isSound_25 : decode cX7_isSound 25 = .ok (.getfield 181, 3) := by decide +kernel
theorem dX7_isSound_28 : decode cX7_isSound 28 = .ok (.invokevirtual 280, 3) := by decide +kernel
theorem dX7_isSound_31 : decode cX7_isSound 31 = .ok (.ifCond .eq 24, 3) := by decide +kernel
theorem dX7_isSound_34 : decode cX7_isSound 34 = .ok (.aload_n 0, 1) := by decide +kernel
theorem dX7_isSound_35 : decode cX7_isSound 35 = .ok (.getfield 33, 3) := by decide +kernel
theorem dX7_isSound_38 : decode cX7_isSound 38 = .ok (.aload_n 0, 1) := by decide +kernel
theorem dX7_isSound_39 : decode cX7_isSound 39 = .ok (.getfield 40, 3) := by decide +kernel
theorem dX7_isSound_42 : decode cX7_isSound 42 = .ok (.getfield 239, 3) := by decide +kernel
theorem dX7_isSound_45 : decode cX7_isSound 45 = .ok (.invokevirtual 284, 3) := by decide +kernel
theorem dX7_isSound_48 : decode cX7_isSound 48 = .ok (.ifCond .eq 7, 3) := by decide +kernel
theorem dX7_isSound_51 : decode cX7_isSound 51 = .ok (.iconst 1, 1) := by decide +kernel
theorem dX7_isSound_52 : decode cX7_isSound 52 = .ok (.goto 4, 3) := by decide +kernel
theorem dX7_isSound_55 : decode cX7_isSound 55 = .ok (.iconst 0, 1) := by decide +kernel
theorem dX7_isSound_56 : decode cX7_isSound 56 = .ok (.ireturn, 1) := by decide +kernel
theorem dX7_requireFork_0 : decode cX7_requireFork 0 = .ok (.iload_n 1, 1) := by decide +kernel
theorem dX7_requireFork_1 : decode cX7_requireFork 1 = .ok (.ifCond .lt 14, 3) := by decide +kernel
theorem dX7_requireFork_4 : decode cX7_requireFork 4 = .ok (.iload_n 1, 1) := by decide +kernel
theorem dX7_requireFork_5 : decode cX7_requireFork 5 = .ok (.aload_n 0, 1) := by decide +kernel
theorem dX7_requireFork_6 : decode cX7_requireFork 6 = .ok (.getfield 10, 3) := by decide +kernel
theorem dX7_requireFork_9 : decode cX7_requireFork 9 = .ok (.getfield 55, 3) := by decide +kernel
theorem dX7_requireFork_12 : decode cX7_requireFork 12 = .ok (.if_icmp .lt 14, 3) := by decide +kernel
theorem dX7_requireFork_15 : decode cX7_requireFork 15 = .ok (.new 287, 3) := by decide +kernel
theorem dX7_requireFork_18 : decode cX7_requireFork 18 = .ok (.dup, 1) := by decide +kernel
theorem dX7_requireFork_19 : decode cX7_requireFork 19 = .ok (.ldc_w 289, 3) := by decide +kernel
theorem dX7_requireFork_22 : decode cX7_requireFork 22 = .ok (.invokespecial 291, 3) := by decide +kernel
theorem dX7_requireFork_25 : decode cX7_requireFork 25 = .ok (.athrow, 1) := by decide +kernel
theorem dX7_requireFork_26 : decode cX7_requireFork 26 = .ok (.return_, 1) := by decide +kernel
theorem dX7_requireTrail_0 : decode cX7_requireTrail 0 = .ok (.iload_n 1, 1) := by decide +kernel
theorem dX7_requireTrail_1 : decode cX7_requireTrail 1 = .ok (.ifCond .lt 14, 3) := by decide +kernel
theorem dX7_requireTrail_4 : decode cX7_requireTrail 4 = .ok (.iload_n 1, 1) := by decide +kernel
theorem dX7_requireTrail_5 : decode cX7_requireTrail 5 = .ok (.aload_n 0, 1) := by decide +kernel
theorem dX7_requireTrail_6 : decode cX7_requireTrail 6 = .ok (.getfield 10, 3) := by decide +kernel
theorem dX7_requireTrail_9 : decode cX7_requireTrail 9 = .ok (.getfield 81, 3) := by decide +kernel
theorem dX7_requireTrail_12 : decode cX7_requireTrail 12 = .ok (.if_icmp .lt 14, 3) := by decide +kernel
theorem dX7_requireTrail_15 : decode cX7_requireTrail 15 = .ok (.new 287, 3) := by decide +kernel
theorem dX7_requireTrail_18 : decode cX7_requireTrail 18 = .ok (.dup, 1) := by decide +kernel
theorem dX7_requireTrail_19 : decode cX7_requireTrail 19 = .ok (.ldc_w 292, 3) := by decide +kernel
theorem dX7_requireTrail_22 : decode cX7_requireTrail 22 = .ok (.invokespecial 291, 3) := by decide +kernel
theorem dX7_requireTrail_25 : decode cX7_requireTrail 25 = .ok (.athrow, 1) := by decide +kernel
theorem dX7_requireTrail_26 : decode cX7_requireTrail 26 = .ok (.return_, 1) := by decide +kernel
theorem dX7_requireBoard_0 : decode cX7_requireBoard 0 = .ok (.iload_n 1, 1) := by decide +kernel
theorem dX7_requireBoard_1 : decode cX7_requireBoard 1 = .ok (.ifCond .lt 14, 3) := by decide +kernel
theorem dX7_requireBoard_4 : decode cX7_requireBoard 4 = .ok (.iload_n 1, 1) := by decide +kernel
theorem dX7_requireBoard_5 : decode cX7_requireBoard 5 = .ok (.aload_n 0, 1) := by decide +kernel
theorem dX7_requireBoard_6 : decode cX7_requireBoard 6 = .ok (.getfield 19, 3) := by decide +kernel
theorem dX7_requireBoard_9 : decode cX7_requireBoard 9 = .ok (.getfield 143, 3) := by decide +kernel
theorem dX7_requireBoard_12 : decode cX7_requireBoard 12 = .ok (.if_icmp .lt 14, 3) := by decide +kernel
theorem dX7_requireBoard_15 : decode cX7_requireBoard 15 = .ok (.new 287, 3) := by decide +kernel
theorem dX7_requireBoard_18 : decode cX7_requireBoard 18 = .ok (.dup, 1) := by decide +kernel
theorem dX7_requireBoard_19 : decode cX7_requireBoard 19 = .ok (.ldc_w 294, 3) := by decide +kernel
theorem dX7_requireBoard_22 : decode cX7_requireBoard 22 = .ok (.invokespecial 291, 3) := by decide +kernel
theorem dX7_requireBoard_25 : decode cX7_requireBoard 25 = .ok (.athrow, 1) := by decide +kernel
theorem dX7_requireBoard_26 : decode cX7_requireBoard 26 = .ok (.return_, 1) := by decide +kernel
theorem dX7_requireTask_0 : decode cX7_requireTask 0 = .ok (.iload_n 1, 1) := by decide +kernel
theorem dX7_requireTask_1 : decode cX7_requireTask 1 = .ok (.ifCond .lt 14, 3) := by decide +kernel
theorem dX7_requireTask_4 : decode cX7_requireTask 4 = .ok (.iload_n 1, 1) := by decide +kernel
theorem dX7_requireTask_5 : decode cX7_requireTask 5 = .ok (.aload_n 0, 1) := by decide +kernel
theorem dX7_requireTask_6 : decode cX7_requireTask 6 = .ok (.getfield 33, 3) := by decide +kernel
theorem dX7_requireTask_9 : decode cX7_requireTask 9 = .ok (.getfield 236, 3) := by decide +kernel
theorem dX7_requireTask_12 : decode cX7_requireTask 12 = .ok (.if_icmp .lt 14, 3) := by decide +kernel
theorem dX7_requireTask_15 : decode cX7_requireTask 15 = .ok (.new 287, 3) := by decide +kernel
theorem dX7_requireTask_18 : decode cX7_requireTask 18 = .ok (.dup, 1) := by decide +kernel
theorem dX7_requireTask_19 : decode cX7_requireTask 19 = .ok (.ldc_w 296, 3) := by decide +kernel
theorem dX7_requireTask_22 : decode cX7_requireTask 22 = .ok (.invokespecial 291, 3) := by decide +kernel
theorem dX7_requireTask_25 : decode cX7_requireTask 25 = .ok (.athrow, 1) := by decide +kernel
theorem dX7_requireTask_26 : decode cX7_requireTask 26 = .ok (.return_, 1) := by decide +kernel
theorem dX7_requireRanger_0 : decode cX7_requireRanger 0 = .ok (.iload_n 1, 1) := by decide +kernel
theorem dX7_requireRanger_1 : decode cX7_requireRanger 1 = .ok (.ifCond .lt 14, 3) := by decide +kernel
theorem dX7_requireRanger_4 : decode cX7_requireRanger 4 = .ok (.iload_n 1, 1) := by decide +kernel
theorem dX7_requireRanger_5 : decode cX7_requireRanger 5 = .ok (.aload_n 0, 1) := by decide +kernel
theorem dX7_requireRanger_6 : decode cX7_requireRanger 6 = .ok (.getfield 40, 3) := by decide +kernel
theorem dX7_requireRanger_9 : decode cX7_requireRanger 9 = .ok (.getfield 239, 3) := by decide +kernel
theorem dX7_requireRanger_12 : decode cX7_requireRanger 12 = .ok (.if_icmp .lt 14, 3) := by decide +kernel
theorem dX7_requireRanger_15 : decode cX7_requireRanger 15 = .ok (.new 287, 3) := by decide +kernel
theorem dX7_requireRanger_18 : decode cX7_requireRanger 18 = .ok (.dup, 1) := by decide +kernel
theorem dX7_requireRanger_19 : decode cX7_requireRanger 19 = .ok (.ldc_w 298, 3) := by decide +kernel
theorem dX7_requireRanger_22 : decode cX7_requireRanger 22 = .ok (.invokespecial 291, 3) := by decide +kernel
theorem dX7_requireRanger_25 : decode cX7_requireRanger 25 = .ok (.athrow, 1) := by decide +kernel
theorem dX7_requireRanger_26 : decode cX7_requireRanger 26 = .ok (.return_, 1) := by decide +kernel
theorem dX7_requireMap_0 : decode cX7_requireMap 0 = .ok (.iload_n 1, 1) := by decide +kernel
theorem dX7_requireMap_1 : decode cX7_requireMap 1 = .ok (.ifCond .lt 14, 3) := by decide +kernel
theorem dX7_requireMap_4 : decode cX7_requireMap 4 = .ok (.iload_n 1, 1) := by decide +kernel
theorem dX7_requireMap_5 : decode cX7_requireMap 5 = .ok (.aload_n 0, 1) := by decide +kernel
theorem dX7_requireMap_6 : decode cX7_requireMap 6 = .ok (.getfield 47, 3) := by decide +kernel
theorem dX7_requireMap_9 : decode cX7_requireMap 9 = .ok (.getfield 257, 3) := by decide +kernel
theorem dX7_requireMap_12 : decode cX7_requireMap 12 = .ok (.if_icmp .lt 14, 3) := by decide +kernel
theorem dX7_requireMap_15 : decode cX7_requireMap 15 = .ok (.new 287, 3) := by decide +kernel
theorem dX7_requireMap_18 : decode cX7_requireMap 18 = .ok (.dup, 1) := by decide +kernel
theorem dX7_requireMap_19 : decode cX7_requireMap 19 = .ok (.ldc_w 300, 3) := by decide +kernel
theorem dX7_requireMap_22 : decode cX7_requireMap 22 = .ok (.invokespecial 291, 3) := by decide +kernel
theorem dX7_requireMap_25 : decode cX7_requireMap 25 = .ok (.athrow, 1) := by decide +kernel
theorem dX7_requireMap_26 : decode cX7_requireMap 26 = .ok (.return_, 1) := by decide +kernel
theorem dX7_requireWalker_0 : decode cX7_requireWalker 0 = .ok (.iload_n 1, 1) := by decide +kernel
theorem dX7_requireWalker_1 : decode cX7_requireWalker 1 = .ok (.ifCond .lt 9, 3) := by decide +kernel
theorem dX7_requireWalker_4 : decode cX7_requireWalker 4 = .ok (.iload_n 1, 1) := by decide +kernel
theorem dX7_requireWalker_5 : decode cX7_requireWalker 5 = .ok (.bipush 10, 2) := by decide +kernel
theorem dX7_requireWalker_7 : decode cX7_requireWalker 7 = .ok (.if_icmp .lt 14, 3) := by decide +kernel
theorem dX7_requireWalker_10 : decode cX7_requireWalker 10 = .ok (.new 73, 3) := by decide +kernel
theorem dX7_requireWalker_13 : decode cX7_requireWalker 13 = .ok (.dup, 1) := by decide +kernel
theorem dX7_requireWalker_14 : decode cX7_requireWalker 14 = .ok (.ldc_w 302, 3) := by decide +kernel
theorem dX7_requireWalker_17 : decode cX7_requireWalker 17 = .ok (.invokespecial 77, 3) := by decide +kernel
theorem dX7_requireWalker_20 : decode cX7_requireWalker 20 = .ok (.athrow, 1) := by decide +kernel
theorem dX7_requireWalker_21 : decode cX7_requireWalker 21 = .ok (.return_, 1) := by decide +kernel
theorem dX7_requireTrailMinutes_0 : decode cX7_requireTrailMinutes 0 = .ok (.iload_n 1, 1) := by decide +kernel
theorem dX7_requireTrailMinutes_1 : decode cX7_requireTrailMinutes 1 = .ok (.iconst 1, 1) := by decide +kernel
theorem dX7_requireTrailMinutes_2 : decode cX7_requireTrailMinutes 2 = .ok (.if_icmp .lt 10, 3) := by decide +kernel
theorem dX7_requireTrailMinutes_5 : decode cX7_requireTrailMinutes 5 = .ok (.iload_n 1, 1) := by decide +kernel
theorem dX7_requireTrailMinutes_6 : decode cX7_requireTrailMinutes 6 = .ok (.sipush 300, 3) := by decide +kernel
theorem dX7_requireTrailMinutes_9 : decode cX7_requireTrailMinutes 9 = .ok (.if_icmp .le 14, 3) := by decide +kernel
theorem dX7_requireTrailMinutes_12 : decode cX7_requireTrailMinutes 12 = .ok (.new 73, 3) := by decide +kernel
theorem dX7_requireTrailMinutes_15 : decode cX7_requireTrailMinutes 15 = .ok (.dup, 1) := by decide +kernel
theorem dX7_requireTrailMinutes_16 : decode cX7_requireTrailMinutes 16 = .ok (.ldc_w 304, 3) := by decide +kernel
theorem dX7_requireTrailMinutes_19 : decode cX7_requireTrailMinutes 19 = .ok (.invokespecial 77, 3) := by decide +kernel
theorem dX7_requireTrailMinutes_22 : decode cX7_requireTrailMinutes 22 = .ok (.athrow, 1) := by decide +kernel
theorem dX7_requireTrailMinutes_23 : decode cX7_requireTrailMinutes 23 = .ok (.return_, 1) := by decide +kernel
theorem dX7_canTell_0 : decode cX7_canTell 0 = .ok (.aload_n 0, 1) := by decide +kernel
theorem dX7_canTell_1 : decode cX7_canTell 1 = .ok (.getfield 10, 3) := by decide +kernel
theorem dX7_canTell_4 : decode cX7_canTell 4 = .ok (.getfield 181, 3) := by decide +kernel
theorem dX7_canTell_7 : decode cX7_canTell 7 = .ok (.iload_n 1, 1) := by decide +kernel
theorem dX7_canTell_8 : decode cX7_canTell 8 = .ok (.iload_n 2, 1) := by decide +kernel
theorem dX7_canTell_9 : decode cX7_canTell 9 = .ok (.invokevirtual 110, 3) := by decide +kernel
theorem dX7_canTell_12 : decode cX7_canTell 12 = .ok (.sipush 300, 3) := by decide +kernel
theorem dX7_canTell_15 : decode cX7_canTell 15 = .ok (.if_icmp .gt 7, 3) := by decide +kernel
theorem dX7_canTell_18 : decode cX7_canTell 18 = .ok (.iconst 1, 1) := by decide +kernel
theorem dX7_canTell_19 : decode cX7_canTell 19 = .ok (.goto 4, 3) := by decide +kernel
theorem dX7_canTell_22 : decode cX7_canTell 22 = .ok (.iconst 0, 1) := by decide +kernel
theorem dX7_canTell_23 : decode cX7_canTell 23 = .ok (.ireturn, 1) := by decide +kernel
theorem dX7_putUp_0 : decode cX7_putUp 0 = .ok (.aload_n 0, 1) := by decide +kernel
theorem dX7_putUp_1 : decode cX7_putUp 1 = .ok (.getfield 19, 3) := by decide +kernel
theorem dX7_putUp_4 : decode cX7_putUp 4 = .ok (.getfield 148, 3) := by decide +kernel
theorem dX7_putUp_7 : decode cX7_putUp 7 = .ok (.iload_n 1, 1) := by decide +kernel
theorem dX7_putUp_8 : decode cX7_putUp 8 = .ok (.iaload, 1) := by decide +kernel
theorem dX7_putUp_9 : decode cX7_putUp 9 = .ok (.istore_n 2, 1) := by decide +kernel
theorem dX7_putUp_10 : decode cX7_putUp 10 = .ok (.aload_n 0, 1) := by decide +kernel
theorem dX7_putUp_11 : decode cX7_putUp 11 = .ok (.getfield 19, 3) := by decide +kernel
theorem dX7_putUp_14 : decode cX7_putUp 14 = .ok (.getfield 152, 3) := by decide +kernel
theorem dX7_putUp_17 : decode cX7_putUp 17 = .ok (.iload_n 1, 1) := by decide +kernel
theorem dX7_putUp_18 : decode cX7_putUp 18 = .ok (.iaload, 1) := by decide +kernel
theorem dX7_putUp_19 : decode cX7_putUp 19 = .ok (.istore_n 3, 1) := by decide +kernel
theorem dX7_putUp_20 : decode cX7_putUp 20 = .ok (.aload_n 0, 1) := by decide +kernel
theorem dX7_putUp_21 : decode cX7_putUp 21 = .ok (.getfield 19, 3) := by decide +kernel
theorem dX7_putUp_24 : decode cX7_putUp 24 = .ok (.getfield 161, 3) := by decide +kernel
theorem dX7_putUp_27 : decode cX7_putUp 27 = .ok (.iload_n 1, 1) := by decide +kernel
theorem dX7_putUp_28 : decode cX7_putUp 28 = .ok (.aload_n 0, 1) := by decide +kernel
theorem dX7_putUp_29 : decode cX7_putUp 29 = .ok (.getfield 10, 3) := by decide +kernel
theorem dX7_putUp_32 : decode cX7_putUp 32 = .ok (.iload_n 2, 1) := by decide +kernel
theorem dX7_putUp_33 : decode cX7_putUp 33 = .ok (.iload_n 3, 1) := by decide +kernel
theorem dX7_putUp_34 : decode cX7_putUp 34 = .ok (.invokevirtual 120, 3) := by decide +kernel
theorem dX7_putUp_37 : decode cX7_putUp 37 = .ok (.iastore, 1) := by decide +kernel
theorem dX7_putUp_38 : decode cX7_putUp 38 = .ok (.aload_n 0, 1) := by decide +kernel
theorem dX7_putUp_39 : decode cX7_putUp 39 = .ok (.getfield 19, 3) := by decide +kernel
theorem dX7_putUp_42 : decode cX7_putUp 42 = .ok (.getfield 164, 3) := by decide +kernel
theorem dX7_putUp_45 : decode cX7_putUp 45 = .ok (.iload_n 1, 1) := by decide +kernel
theorem dX7_putUp_46 : decode cX7_putUp 46 = .ok (.aload_n 0, 1) := by decide +kernel
theorem dX7_putUp_47 : decode cX7_putUp 47 = .ok (.getfield 10, 3) := by decide +kernel
theorem dX7_putUp_50 : decode cX7_putUp 50 = .ok (.getfield 181, 3) := by decide +kernel
theorem dX7_putUp_53 : decode cX7_putUp 53 = .ok (.iload_n 2, 1) := by decide +kernel
theorem dX7_putUp_54 : decode cX7_putUp 54 = .ok (.iload_n 3, 1) := by decide +kernel
theorem dX7_putUp_55 : decode cX7_putUp 55 = .ok (.invokevirtual 110, 3) := by decide +kernel
theorem dX7_putUp_58 : decode cX7_putUp 58 = .ok (.invokestatic 306, 3) := by decide +kernel
theorem dX7_putUp_61 : decode cX7_putUp 61 = .ok (.iastore, 1) := by decide +kernel
theorem dX7_putUp_62 : decode cX7_putUp 62 = .ok (.aload_n 0, 1) := by decide +kernel
theorem dX7_putUp_63 : decode cX7_putUp 63 = .ok (.getfield 19, 3) := by decide +kernel
theorem dX7_putUp_66 : decode cX7_putUp 66 = .ok (.getfield 167, 3) := by decide +kernel
theorem dX7_putUp_69 : decode cX7_putUp 69 = .ok (.iload_n 1, 1) := by decide +kernel
theorem dX7_putUp_70 : decode cX7_putUp 70 = .ok (.iconst 0, 1) := by decide +kernel
theorem dX7_putUp_71 : decode cX7_putUp 71 = .ok (.bastore, 1) := by decide +kernel
theorem dX7_putUp_72 : decode cX7_putUp 72 = .ok (.aload_n 0, 1) := by decide +kernel
theorem dX7_putUp_73 : decode cX7_putUp 73 = .ok (.getfield 19, 3) := by decide +kernel
theorem dX7_putUp_76 : decode cX7_putUp 76 = .ok (.dup, 1) := by decide +kernel
theorem dX7_putUp_77 : decode cX7_putUp 77 = .ok (.getfield 127, 3) := by decide +kernel
theorem dX7_putUp_80 : decode cX7_putUp 80 = .ok (.iconst 1, 1) := by decide +kernel
theorem dX7_putUp_81 : decode cX7_putUp 81 = .ok (.isub, 1) := by decide +kernel
theorem dX7_putUp_82 : decode cX7_putUp 82 = .ok (.putfield 127, 3) := by decide +kernel
theorem dX7_putUp_85 : decode cX7_putUp 85 = .ok (.return_, 1) := by decide +kernel
theorem dX7_roundUp_0 : decode cX7_roundUp 0 = .ok (.iload_n 0, 1) := by decide +kernel
theorem dX7_roundUp_1 : decode cX7_roundUp 1 = .ok (.iconst 5, 1) := by decide +kernel
theorem dX7_roundUp_2 : decode cX7_roundUp 2 = .ok (.iadd, 1) := by decide +kernel
theorem dX7_roundUp_3 : decode cX7_roundUp 3 = .ok (.iconst 1, 1) := by decide +kernel
theorem dX7_roundUp_4 : decode cX7_roundUp 4 = .ok (.isub, 1) := by decide +kernel
theorem dX7_roundUp_5 : decode cX7_roundUp 5 = .ok (.iconst 5, 1) := by decide +kernel
theorem dX7_roundUp_6 : decode cX7_roundUp 6 = .ok (.idiv, 1) := by decide +kernel
theorem dX7_roundUp_7 : decode cX7_roundUp 7 = .ok (.iconst 5, 1) := by decide +kernel
theorem dX7_roundUp_8 : decode cX7_roundUp 8 = .ok (.imul, 1) := by decide +kernel
theorem dX7_roundUp_9 : decode cX7_roundUp 9 = .ok (.ireturn, 1) := by decide +kernel
theorem dX7_nextToPlan_0 : decode cX7_nextToPlan 0 = .ok (.iconst (-1), 1) := by decide +kernel
theorem dX7_nextToPlan_1 : decode cX7_nextToPlan 1 = .ok (.istore_n 1, 1) := by decide +kernel
theorem dX7_nextToPlan_2 : decode cX7_nextToPlan 2 = .ok (.iconst (-1), 1) := by decide +kernel
theorem dX7_nextToPlan_3 : decode cX7_nextToPlan 3 = .ok (.istore_n 2, 1) := by decide +kernel
theorem dX7_nextToPlan_4 : decode cX7_nextToPlan 4 = .ok (.iconst 0, 1) := by decide +kernel
theorem dX7_nextToPlan_5 : decode cX7_nextToPlan 5 = .ok (.istore_n 3, 1) := by decide +kernel
theorem dX7_nextToPlan_6 : decode cX7_nextToPlan 6 = .ok (.iload_n 3, 1) := by decide +kernel
theorem dX7_nextToPlan_7 : decode cX7_nextToPlan 7 = .ok (.aload_n 0, 1) := by decide +kernel
theorem dX7_nextToPlan_8 : decode cX7_nextToPlan 8 = .ok (.getfield 19, 3) := by decide +kernel
theorem dX7_nextToPlan_11 : decode cX7_nextToPlan 11 = .ok (.getfield 143, 3) := by decide +kernel
theorem dX7_nextToPlan_14 : decode cX7_nextToPlan 14 = .ok (.if_icmp .ge 99, 3) := by decide +kernel
theorem dX7_nextToPlan_17 : decode cX7_nextToPlan 17 = .ok (.aload_n 0, 1) := by decide +kernel
theorem dX7_nextToPlan_18 : decode cX7_nextToPlan 18 = .ok (.getfield 19, 3) := by decide +kernel
theorem dX7_nextToPlan_21 : decode cX7_nextToPlan 21 = .ok (.iload_n 3, 1) := by decide +kernel
theorem dX7_nextToPlan_22 : decode cX7_nextToPlan 22 = .ok (.aload_n 0, 1) := by decide +kernel
theorem dX7_nextToPlan_23 : decode cX7_nextToPlan 23 = .ok (.getfield 10, 3) := by decide +kernel
theorem dX7_nextToPlan_26 : decode cX7_nextToPlan 26 = .ok (.aload_n 0, 1) := by decide +kernel
theorem dX7_nextToPlan_27 : decode cX7_nextToPlan 27 = .ok (.getfield 10, 3) := by decide +kernel
theorem dX7_nextToPlan_30 : decode cX7_nextToPlan 30 = .ok (.getfield 181, 3) := by decide +kernel
theorem dX7_nextToPlan_33 : decode cX7_nextToPlan 33 = .ok (.invokevirtual 170, 3) := by decide +kernel
theorem dX7_nextToPlan_36 : decode cX7_nextToPlan 36 = .ok (.istore 4, 2) := by decide +kernel
theorem dX7_nextToPlan_38 : decode cX7_nextToPlan 38 = .ok (.aload_n 0, 1) := by decide +kernel
theorem dX7_nextToPlan_39 : decode cX7_nextToPlan 39 = .ok (.getfield 19, 3) := by decide +kernel
theorem dX7_nextToPlan_42 : decode cX7_nextToPlan 42 = .ok (.getfield 167, 3) := by decide +kernel
theorem dX7_nextToPlan_45 : decode cX7_nextToPlan 45 = .ok (.iload_n 3, 1) := by decide +kernel
theorem dX7_nextToPlan_46 : decode cX7_nextToPlan 46 = .ok (.baload, 1) := by decide +kernel
theorem dX7_nextToPlan_47 : decode cX7_nextToPlan 47 = .ok (.ifCond .eq 16, 3) := by decide +kernel
theorem dX7_nextToPlan_50 : decode cX7_nextToPlan 50 = .ok (.iload 4, 2) := by decide +kernel
theorem dX7_nextToPlan_52 : decode cX7_nextToPlan 52 = .ok (.ifCond .ne 7, 3) := by decide +kernel
theorem dX7_nextToPlan_55 : decode cX7_nextToPlan 55 = .ok (.iconst 1, 1) := by decide +kernel
theorem dX7_nextToPlan_56 : decode cX7_nextToPlan 56 = .ok (.goto 17, 3) := by decide +kernel
theorem dX7_nextToPlan_59 : decode cX7_nextToPlan 59 = .ok (.iconst 0, 1) := by decide +kernel
theorem dX7_nextToPlan_60 : decode cX7_nextToPlan 60 = .ok (.goto 13, 3) := by decide +kernel
theorem dX7_nextToPlan_63 : decode cX7_nextToPlan 63 = .ok (.iload 4, 2) := by decide +kernel
theorem dX7_nextToPlan_65 : decode cX7_nextToPlan 65 = .ok (.ifCond .le 7, 3) := by decide +kernel
theorem dX7_nextToPlan_68 : decode cX7_nextToPlan 68 = .ok (.iconst 1, 1) := by decide +kernel
theorem dX7_nextToPlan_69 : decode cX7_nextToPlan 69 = .ok (.goto 4, 3) := by decide +kernel
theorem dX7_nextToPlan_72 : decode cX7_nextToPlan 72 = .ok (.iconst 0, 1) := by decide +kernel
theorem dX7_nextToPlan_73 : decode cX7_nextToPlan 73 = .ok (.istore 5, 2) := by decide +kernel
theorem dX7_nextToPlan_75 : decode cX7_nextToPlan 75 = .ok (.iload 5, 2) := by decide +kernel
theorem dX7_nextToPlan_77 : decode cX7_nextToPlan 77 = .ok (.ifCond .eq 30, 3) := by decide +kernel
theorem dX7_nextToPlan_80 : decode cX7_nextToPlan 80 = .ok (.iload 4, 2) := by decide +kernel
theorem dX7_nextToPlan_82 : decode cX7_nextToPlan 82 = .ok (.iload_n 2, 1) := by decide +kernel
theorem dX7_nextToPlan_83 : decode cX7_nextToPlan 83 = .ok (.if_icmp .le 24, 3) := by decide +kernel
theorem dX7_nextToPlan_86 : decode cX7_nextToPlan 86 = .ok (.aload_n 0, 1) := by decide +kernel
theorem dX7_nextToPlan_87 : decode cX7_nextToPlan 87 = .ok (.getfield 33, 3) := by decide +kernel
theorem dX7_nextToPlan_90 : decode cX7_nextToPlan 90 = .ok (.aload_n 0, 1) := by decide +kernel
theorem dX7_nextToPlan_91 : decode cX7_nextToPlan 91 = .ok (.iload_n 3, 1) := by decide +kernel
theorem dX7_nextToPlan_92 : decode cX7_nextToPlan 92 = .ok (.invokevirtual 213, 3) := by decide +kernel
theorem dX7_nextToPlan_95 : decode cX7_nextToPlan 95 = .ok (.iload_n 3, 1) := by decide +kernel
theorem dX7_nextToPlan_96 : decode cX7_nextToPlan 96 = .ok (.invokevirtual 309, 3) := by decide +kernel
theorem dX7_nextToPlan_99 : decode cX7_nextToPlan 99 = .ok (.ifCond .ne 8, 3) := by decide +kernel
theorem dX7_nextToPlan_102 : decode cX7_nextToPlan 102 = .ok (.iload_n 3, 1) := by decide +kernel
theorem dX7_nextToPlan_103 : decode cX7_nextToPlan 103 = .ok (.istore_n 1, 1) := by decide +kernel
theorem dX7_nextToPlan_104 : decode cX7_nextToPlan 104 = .ok (.iload 4, 2) := by decide +kernel
theorem dX7_nextToPlan_106 : decode cX7_nextToPlan 106 = .ok (.istore_n 2, 1) := by decide +kernel
theorem dX7_nextToPlan_107 : decode cX7_nextToPlan 107 = .ok (.iinc 3 1, 3) := by decide +kernel
theorem dX7_nextToPlan_110 : decode cX7_nextToPlan 110 = .ok (.goto (-104), 3) := by decide +kernel
theorem dX7_nextToPlan_113 : decode cX7_nextToPlan 113 = .ok (.iload_n 1, 1) := by decide +kernel
theorem dX7_nextToPlan_114 : decode cX7_nextToPlan 114 = .ok (.ireturn, 1) := by decide +kernel
theorem dX7_kindToPlan_0 : decode cX7_kindToPlan 0 = .ok (.aload_n 0, 1) := by decide +kernel
theorem dX7_kindToPlan_1 : decode cX7_kindToPlan 1 = .ok (.getfield 19, 3) := by decide +kernel
theorem dX7_kindToPlan_4 : decode cX7_kindToPlan 4 = .ok (.getfield 167, 3) := by decide +kernel
theorem dX7_kindToPlan_7 : decode cX7_kindToPlan 7 = .ok (.iload_n 1, 1) := by decide +kernel
theorem dX7_kindToPlan_8 : decode cX7_kindToPlan 8 = .ok (.baload, 1) := by decide +kernel
theorem dX7_kindToPlan_9 : decode cX7_kindToPlan 9 = .ok (.ifCond .eq 8, 3) := by decide +kernel
theorem dX7_kindToPlan_12 : decode cX7_kindToPlan 12 = .ok (.bipush 117, 2) := by decide +kernel
theorem dX7_kindToPlan_14 : decode cX7_kindToPlan 14 = .ok (.goto 5, 3) := by decide +kernel
theorem dX7_kindToPlan_17 : decode cX7_kindToPlan 17 = .ok (.bipush 99, 2) := by decide +kernel
theorem dX7_kindToPlan_19 : decode cX7_kindToPlan 19 = .ok (.ireturn, 1) := by decide +kernel
theorem dX7_sendOut_0 : decode cX7_sendOut 0 = .ok (.iconst 0, 1) := by decide +kernel
theorem dX7_sendOut_1 : decode cX7_sendOut 1 = .ok (.istore_n 2, 1) := by decide +kernel
theorem dX7_sendOut_2 : decode cX7_sendOut 2 = .ok (.aload_n 0, 1) := by decide +kernel
theorem dX7_sendOut_3 : decode cX7_sendOut 3 = .ok (.getfield 40, 3) := by decide +kernel
theorem dX7_sendOut_6 : decode cX7_sendOut 6 = .ok (.sipush 480, 3) := by decide +kernel
theorem dX7_sendOut_9 : decode cX7_sendOut 9 = .ok (.putfield 313, 3) := by decide +kernel
theorem dX7_sendOut_12 : decode cX7_sendOut 12 = .ok (.iconst 0, 1) := by decide +kernel
theorem dX7_sendOut_13 : decode cX7_sendOut 13 = .ok (.istore_n 3, 1) := by decide +kernel
theorem dX7_sendOut_14 : decode cX7_sendOut 14 = .ok (.iload_n 3, 1) := by decide +kernel
theorem dX7_sendOut_15 : decode cX7_sendOut 15 = .ok (.sipush 1000, 3) := by decide +kernel
theorem dX7_sendOut_18 : decode cX7_sendOut 18 = .ok (.if_icmp .ge 53, 3) := by decide +kernel
theorem dX7_sendOut_21 : decode cX7_sendOut 21 = .ok (.aload_n 0, 1) := by decide +kernel
theorem dX7_sendOut_22 : decode cX7_sendOut 22 = .ok (.iload_n 1, 1) := by decide +kernel
theorem dX7_sendOut_23 : decode cX7_sendOut 23 = .ok (.invokevirtual 316, 3) := by decide +kernel
theorem dX7_sendOut_26 : decode cX7_sendOut 26 = .ok (.istore 4, 2) := by decide +kernel
theorem dX7_sendOut_28 : decode cX7_sendOut 28 = .ok (.iload 4, 2) := by decide +kernel
theorem dX7_sendOut_30 : decode cX7_sendOut 30 = .ok (.iconst (-1), 1) := by decide +kernel
theorem dX7_sendOut_31 : decode cX7_sendOut 31 = .ok (.if_icmp .ne 5, 3) := by decide +kernel
theorem dX7_sendOut_34 : decode cX7_sendOut 34 = .ok (.iload_n 2, 1) := by decide +kernel
theorem dX7_sendOut_35 : decode cX7_sendOut 35 = .ok (.ireturn, 1) := by decide +kernel
theorem dX7_sendOut_36 : decode cX7_sendOut 36 = .ok (.aload_n 0, 1) := by decide +kernel
theorem dX7_sendOut_37 : decode cX7_sendOut 37 = .ok (.iload_n 1, 1) := by decide +kernel
theorem dX7_sendOut_38 : decode cX7_sendOut 38 = .ok (.iload 4, 2) := by decide +kernel
theorem dX7_sendOut_40 : decode cX7_sendOut 40 = .ok (.invokevirtual 319, 3) := by decide +kernel
theorem dX7_sendOut_43 : decode cX7_sendOut 43 = .ok (.ifCond .eq 22, 3) := by decide +kernel
theorem dX7_sendOut_46 : decode cX7_sendOut 46 = .ok (.aload_n 0, 1) := by decide +kernel
theorem dX7_sendOut_47 : decode cX7_sendOut 47 = .ok (.iload 4, 2) := by decide +kernel
theorem dX7_sendOut_49 : decode cX7_sendOut 49 = .ok (.invokevirtual 322, 3) := by decide +kernel
theorem dX7_sendOut_52 : decode cX7_sendOut 52 = .ok (.ifCond .eq 13, 3) := by decide +kernel
theorem dX7_sendOut_55 : decode cX7_sendOut 55 = .ok (.aload_n 0, 1) := by decide +kernel
theorem dX7_sendOut_56 : decode cX7_sendOut 56 = .ok (.iload_n 1, 1) := by decide +kernel
theorem dX7_sendOut_57 : decode cX7_sendOut 57 = .ok (.iload 4, 2) := by decide +kernel
theorem dX7_sendOut_59 : decode cX7_sendOut 59 = .ok (.invokevirtual 325, 3) := by decide +kernel
theorem dX7_sendOut_62 : decode cX7_sendOut 62 = .ok (.iinc 2 1, 3) := by decide +kernel
theorem dX7_sendOut_65 : decode cX7_sendOut 65 = .ok (.iinc 3 1, 3) := by decide +kernel
theorem dX7_sendOut_68 : decode cX7_sendOut 68 = .ok (.goto (-54), 3) := by decide +kernel
theorem dX7_sendOut_71 : decode cX7_sendOut 71 = .ok (.iload_n 2, 1) := by decide +kernel
theorem dX7_sendOut_72 : decode cX7_sendOut 72 = .ok (.ireturn, 1) := by decide +kernel
theorem dX7_chooseTask_0 : decode cX7_chooseTask 0 = .ok (.iconst (-1), 1) := by decide +kernel
theorem dX7_chooseTask_1 : decode cX7_chooseTask 1 = .ok (.istore_n 2, 1) := by decide +kernel
theorem dX7_chooseTask_2 : decode cX7_chooseTask 2 = .ok (.iconst 0, 1) := by decide +kernel
theorem dX7_chooseTask_3 : decode cX7_chooseTask 3 = .ok (.istore_n 3, 1) := by decide +kernel
theorem dX7_chooseTask_4 : decode cX7_chooseTask 4 = .ok (.iload_n 3, 1) := by decide +kernel
theorem dX7_chooseTask_5 : decode cX7_chooseTask 5 = .ok (.aload_n 0, 1) := by decide +kernel
theorem dX7_chooseTask_6 : decode cX7_chooseTask 6 = .ok (.getfield 33, 3) := by decide +kernel
theorem dX7_chooseTask_9 : decode cX7_chooseTask 9 = .ok (.getfield 236, 3) := by decide +kernel
theorem dX7_chooseTask_12 : decode cX7_chooseTask 12 = .ok (.if_icmp .ge 100, 3) := by decide +kernel
theorem dX7_chooseTask_15 : decode cX7_chooseTask 15 = .ok (.iload_n 2, 1) := by decide +kernel
theorem dX7_chooseTask_16 : decode cX7_chooseTask 16 = .ok (.iconst (-1), 1) := by decide +kernel
theorem dX7_chooseTask_17 : decode cX7_chooseTask 17 = .ok (.if_icmp .eq 24, 3) := by decide +kernel
theorem dX7_chooseTask_20 : decode cX7_chooseTask 20 = .ok (.aload_n 0, 1) := by decide +kernel
theorem dX7_chooseTask_21 : decode cX7_chooseTask 21 = .ok (.getfield 33, 3) := by decide +kernel
theorem dX7_chooseTask_24 : decode cX7_chooseTask 24 = .ok (.getfield 329, 3) := by decide +kernel
theorem dX7_chooseTask_27 : decode cX7_chooseTask 27 = .ok (.iload_n 3, 1) := by decide +kernel
theorem dX7_chooseTask_28 : decode cX7_chooseTask 28 = .ok (.iaload, 1) := by decide +kernel
theorem dX7_chooseTask_29 : decode cX7_chooseTask 29 = .ok (.aload_n 0, 1) := by decide +kernel
theorem dX7_chooseTask_30 : decode cX7_chooseTask 30 = .ok (.getfield 33, 3) := by decide +kernel
theorem dX7_chooseTask_33 : decode cX7_chooseTask 33 = .ok (.getfield 329, 3) := by decide +kernel
theorem dX7_chooseTask_36 : decode cX7_chooseTask 36 = .ok (.iload_n 2, 1) := by decide +kernel
theorem dX7_chooseTask_37 : decode cX7_chooseTask 37 = .ok (.iaload, 1) := by decide +kernel
theorem dX7_chooseTask_38 : decode cX7_chooseTask 38 = .ok (.if_icmp .le 7, 3) := by decide +kernel
theorem dX7_chooseTask_41 : decode cX7_chooseTask 41 = .ok (.iconst 1, 1) := by decide +kernel
theorem dX7_chooseTask_42 : decode cX7_chooseTask 42 = .ok (.goto 4, 3) := by decide +kernel
theorem dX7_chooseTask_45 : decode cX7_chooseTask 45 = .ok (.iconst 0, 1) := by decide +kernel
theorem dX7_chooseTask_46 : decode cX7_chooseTask 46 = .ok (.istore 4, 2) := by decide +kernel
theorem dX7_chooseTask_48 : decode cX7_chooseTask 48 = .ok (.iload 4, 2) := by decide +kernel
theorem dX7_chooseTask_50 : decode cX7_chooseTask 50 = .ok (.ifCond .eq 56, 3) := by decide +kernel
theorem dX7_chooseTask_53 : decode cX7_chooseTask 53 = .ok (.aload_n 0, 1) := by decide +kernel
theorem dX7_chooseTask_54 : decode cX7_chooseTask 54 = .ok (.getfield 33, 3) := by decide +kernel
theorem dX7_chooseTask_57 : decode cX7_chooseTask 57 = .ok (.iload_n 3, 1) := by decide +kernel
theorem dX7_chooseTask_58 : decode cX7_chooseTask 58 = .ok (.invokevirtual 227, 3) := by decide +kernel
theorem dX7_chooseTask_61 : decode cX7_chooseTask 61 = .ok (.ifCond .eq 45, 3) := by decide +kernel
theorem dX7_chooseTask_64 : decode cX7_chooseTask 64 = .ok (.aload_n 0, 1) := by decide +kernel
theorem dX7_chooseTask_65 : decode cX7_chooseTask 65 = .ok (.getfield 40, 3) := by decide +kernel
theorem dX7_chooseTask_68 : decode cX7_chooseTask 68 = .ok (.iload_n 1, 1) := by decide +kernel
theorem dX7_chooseTask_69 : decode cX7_chooseTask 69 = .ok (.aload_n 0, 1) := by decide +kernel
theorem dX7_chooseTask_70 : decode cX7_chooseTask 70 = .ok (.getfield 33, 3) := by decide +kernel
theorem dX7_chooseTask_73 : decode cX7_chooseTask 73 = .ok (.getfield 220, 3) := by decide +kernel
theorem dX7_chooseTask_76 : decode cX7_chooseTask 76 = .ok (.iload_n 3, 1) := by decide +kernel
theorem dX7_chooseTask_77 : decode cX7_chooseTask 77 = .ok (.caload, 1) := by decide +kernel
theorem dX7_chooseTask_78 : decode cX7_chooseTask 78 = .ok (.invokestatic 332, 3) := by decide +kernel
theorem dX7_chooseTask_81 : decode cX7_chooseTask 81 = .ok (.invokevirtual 336, 3) := by decide +kernel
theorem dX7_chooseTask_84 : decode cX7_chooseTask 84 = .ok (.ifCond .eq 22, 3) := by decide +kernel
theorem dX7_chooseTask_87 : decode cX7_chooseTask 87 = .ok (.aload_n 0, 1) := by decide +kernel
theorem dX7_chooseTask_88 : decode cX7_chooseTask 88 = .ok (.iload_n 3, 1) := by decide +kernel
theorem dX7_chooseTask_89 : decode cX7_chooseTask 89 = .ok (.invokevirtual 322, 3) := by decide +kernel
theorem dX7_chooseTask_92 : decode cX7_chooseTask 92 = .ok (.ifCond .eq 14, 3) := by decide +kernel
theorem dX7_chooseTask_95 : decode cX7_chooseTask 95 = .ok (.aload_n 0, 1) := by decide +kernel
theorem dX7_chooseTask_96 : decode cX7_chooseTask 96 = .ok (.iload_n 1, 1) := by decide +kernel
theorem dX7_chooseTask_97 : decode cX7_chooseTask 97 = .ok (.iload_n 3, 1) := by decide +kernel
theorem dX7_chooseTask_98 : decode cX7_chooseTask 98 = .ok (.invokevirtual 339, 3) := by decide +kernel
theorem dX7_chooseTask_101 : decode cX7_chooseTask 101 = .ok (.ifCond .eq 5, 3) := by decide +kernel
theorem dX7_chooseTask_104 : decode cX7_chooseTask 104 = .ok (.iload_n 3, 1) := by decide +kernel
theorem dX7_chooseTask_105 : decode cX7_chooseTask 105 = .ok (.istore_n 2, 1) := by decide +kernel
theorem dX7_chooseTask_106 : decode cX7_chooseTask 106 = .ok (.iinc 3 1, 3) := by decide +kernel
theorem dX7_chooseTask_109 : decode cX7_chooseTask 109 = .ok (.goto (-105), 3) := by decide +kernel
theorem dX7_chooseTask_112 : decode cX7_chooseTask 112 = .ok (.iload_n 2, 1) := by decide +kernel
theorem dX7_chooseTask_113 : decode cX7_chooseTask 113 = .ok (.ireturn, 1) := by decide +kernel
theorem dX7_makesSense_0 : decode cX7_makesSense 0 = .ok (.aload_n 0, 1) := by decide +kernel
theorem dX7_makesSense_1 : decode cX7_makesSense 1 = .ok (.getfield 33, 3) := by decide +kernel
theorem dX7_makesSense_4 : decode cX7_makesSense 4 = .ok (.getfield 220, 3) := by decide +kernel
theorem dX7_makesSense_7 : decode cX7_makesSense 7 = .ok (.iload_n 1, 1) := by decide +kernel
theorem dX7_makesSense_8 : decode cX7_makesSense 8 = .ok (.caload, 1) := by decide +kernel
theorem dX7_makesSense_9 : decode cX7_makesSense 9 = .ok (.istore_n 2, 1) := by decide +kernel
theorem dX7_makesSense_10 : decode cX7_makesSense 10 = .ok (.aload_n 0, 1) := by decide +kernel
theorem dX7_makesSense_11 : decode cX7_makesSense 11 = .ok (.getfield 33, 3) := by decide +kernel
theorem dX7_makesSense_14 : decode cX7_makesSense 14 = .ok (.getfield 224, 3) := by decide +kernel
theorem dX7_makesSense_17 : decode cX7_makesSense 17 = .ok (.iload_n 1, 1) := by decide +kernel
theorem dX7_makesSense_18 : decode cX7_makesSense 18 = .ok (.iaload, 1) := by decide +kernel
theorem dX7_makesSense_19 : decode cX7_makesSense 19 = .ok (.istore_n 3, 1) := by decide +kernel
theorem dX7_makesSense_20 : decode cX7_makesSense 20 = .ok (.iload_n 2, 1) := by decide +kernel
theorem dX7_makesSense_21 : decode cX7_makesSense 21 = .ok (.bipush 109, 2) := by decide +kernel
theorem dX7_makesSense_23 : decode cX7_makesSense 23 = .ok (.if_icmp .ne 16, 3) := by decide +kernel
theorem dX7_makesSense_26 : decode cX7_makesSense 26 = .ok (.aload_n 0, 1) := by decide +kernel
theorem dX7_makesSense_27 : decode cX7_makesSense 27 = .ok (.getfield 10, 3) := by decide +kernel
theorem dX7_makesSense_30 : decode cX7_makesSense 30 = .ok (.getfield 181, 3) := by decide +kernel
theorem dX7_makesSense_33 : decode cX7_makesSense 33 = .ok (.getfield 97, 3) := by decide +kernel
theorem dX7_makesSense_36 : decode cX7_makesSense 36 = .ok (.iload_n 3, 1) := by decide +kernel
theorem dX7_makesSense_37 : decode cX7_makesSense 37 = .ok (.baload, 1) := by decide +kernel
theorem dX7_makesSense_38 : decode cX7_makesSense 38 = .ok (.ireturn, 1) := by decide +kernel
theorem dX7_makesSense_39 : decode cX7_makesSense 39 = .ok (.iload_n 2, 1) := by decide +kernel
theorem dX7_makesSense_40 : decode cX7_makesSense 40 = .ok (.bipush 114, 2) := by decide +kernel
theorem dX7_makesSense_42 : decode cX7_makesSense 42 = .ok (.if_icmp .ne 44, 3) := by decide +kernel
theorem dX7_makesSense_45 : decode cX7_makesSense 45 = .ok (.aload_n 0, 1) := by decide +kernel
theorem dX7_makesSense_46 : decode cX7_makesSense 46 = .ok (.getfield 19, 3) := by decide +kernel
theorem dX7_makesSense_49 : decode cX7_makesSense 49 = .ok (.getfield 127, 3) := by decide +kernel
theorem dX7_makesSense_52 : decode cX7_makesSense 52 = .ok (.ifCond .le 32, 3) := by decide +kernel
theorem dX7_makesSense_55 : decode cX7_makesSense 55 = .ok (.aload_n 0, 1) := by decide +kernel
theorem dX7_makesSense_56 : decode cX7_makesSense 56 = .ok (.aload_n 0, 1) := by decide +kernel
theorem dX7_makesSense_57 : decode cX7_makesSense 57 = .ok (.getfield 19, 3) := by decide +kernel
theorem dX7_makesSense_60 : decode cX7_makesSense 60 = .ok (.getfield 148, 3) := by decide +kernel
theorem dX7_makesSense_63 : decode cX7_makesSense 63 = .ok (.iload_n 3, 1) := by decide +kernel
theorem dX7_makesSense_64 : decode cX7_makesSense 64 = .ok (.iaload, 1) := by decide +kernel
theorem dX7_makesSense_65 : decode cX7_makesSense 65 = .ok (.aload_n 0, 1) := by decide +kernel
theorem dX7_makesSense_66 : decode cX7_makesSense 66 = .ok (.getfield 19, 3) := by decide +kernel
theorem dX7_makesSense_69 : decode cX7_makesSense 69 = .ok (.getfield 152, 3) := by decide +kernel
theorem dX7_makesSense_72 : decode cX7_makesSense 72 = .ok (.iload_n 3, 1) := by decide +kernel
theorem dX7_makesSense_73 : decode cX7_makesSense 73 = .ok (.iaload, 1) := by decide +kernel
theorem dX7_makesSense_74 : decode cX7_makesSense 74 = .ok (.invokevirtual 132, 3) := by decide +kernel
theorem dX7_makesSense_77 : decode cX7_makesSense 77 = .ok (.ifCond .eq 7, 3) := by decide +kernel
theorem dX7_makesSense_80 : decode cX7_makesSense 80 = .ok (.iconst 1, 1) := by decide +kernel
theorem dX7_makesSense_81 : decode cX7_makesSense 81 = .ok (.goto 4, 3) := by decide +kernel
theorem dX7_makesSense_84 : decode cX7_makesSense 84 = .ok (.iconst 0, 1) := by decide +kernel
theorem dX7_makesSense_85 : decode cX7_makesSense 85 = .ok (.ireturn, 1) := by decide +kernel
theorem dX7_makesSense_86 : decode cX7_makesSense 86 = .ok (.aload_n 0, 1) := by decide +kernel
theorem dX7_makesSense_87 : decode cX7_makesSense 87 = .ok (.getfield 19, 3) := by decide +kernel
theorem dX7_makesSense_90 : decode cX7_makesSense 90 = .ok (.getfield 167, 3) := by decide +kernel
theorem dX7_makesSense_93 : decode cX7_makesSense 93 = .ok (.iload_n 3, 1) := by decide +kernel
theorem dX7_makesSense_94 : decode cX7_makesSense 94 = .ok (.baload, 1) := by decide +kernel
theorem dX7_makesSense_95 : decode cX7_makesSense 95 = .ok (.iload_n 2, 1) := by decide +kernel
theorem dX7_makesSense_96 : decode cX7_makesSense 96 = .ok (.bipush 117, 2) := by decide +kernel
theorem dX7_makesSense_98 : decode cX7_makesSense 98 = .ok (.if_icmp .ne 7, 3) := by decide +kernel
theorem dX7_makesSense_101 : decode cX7_makesSense 101 = .ok (.iconst 1, 1) := by decide +kernel
theorem dX7_makesSense_102 : decode cX7_makesSense 102 = .ok (.goto 4, 3) := by decide +kernel
theorem dX7_makesSense_105 : decode cX7_makesSense 105 = .ok (.iconst 0, 1) := by decide +kernel
theorem dX7_makesSense_106 : decode cX7_makesSense 106 = .ok (.if_icmp .ne 7, 3) := by decide +kernel
theorem dX7_makesSense_109 : decode cX7_makesSense 109 = .ok (.iconst 1, 1) := by decide +kernel
theorem dX7_makesSense_110 : decode cX7_makesSense 110 = .ok (.goto 4, 3) := by decide +kernel
theorem dX7_makesSense_113 : decode cX7_makesSense 113 = .ok (.iconst 0, 1) := by decide +kernel
theorem dX7_makesSense_114 : decode cX7_makesSense 114 = .ok (.ireturn, 1) := by decide +kernel
theorem dX7_hasTimeFor_0 : decode cX7_hasTimeFor 0 = .ok (.aload_n 0, 1) := by decide +kernel
theorem dX7_hasTimeFor_1 : decode cX7_hasTimeFor 1 = .ok (.getfield 10, 3) := by decide +kernel
theorem dX7_hasTimeFor_4 : decode cX7_hasTimeFor 4 = .ok (.getfield 181, 3) := by decide +kernel
theorem dX7_hasTimeFor_7 : decode cX7_hasTimeFor 7 = .ok (.aload_n 0, 1) := by decide +kernel
theorem dX7_hasTimeFor_8 : decode cX7_hasTimeFor 8 = .ok (.getfield 40, 3) := by decide +kernel
theorem dX7_hasTimeFor_11 : decode cX7_hasTimeFor 11 = .ok (.getfield 248, 3) := by decide +kernel
theorem dX7_hasTimeFor_14 : decode cX7_hasTimeFor 14 = .ok (.iload_n 1, 1) := by decide +kernel
theorem dX7_hasTimeFor_15 : decode cX7_hasTimeFor 15 = .ok (.iaload, 1) := by decide +kernel
theorem dX7_hasTimeFor_16 : decode cX7_hasTimeFor 16 = .ok (.aload_n 0, 1) := by decide +kernel
theorem dX7_hasTimeFor_17 : decode cX7_hasTimeFor 17 = .ok (.iload_n 2, 1) := by decide +kernel
theorem dX7_hasTimeFor_18 : decode cX7_hasTimeFor 18 = .ok (.invokevirtual 342, 3) := by decide +kernel
theorem dX7_hasTimeFor_21 : decode cX7_hasTimeFor 21 = .ok (.invokevirtual 110, 3) := by decide +kernel
theorem dX7_hasTimeFor_24 : decode cX7_hasTimeFor 24 = .ok (.istore_n 3, 1) := by decide +kernel
theorem dX7_hasTimeFor_25 : decode cX7_hasTimeFor 25 = .ok (.iload_n 3, 1) := by decide +kernel
theorem dX7_hasTimeFor_26 : decode cX7_hasTimeFor 26 = .ok (.aload_n 0, 1) := by decide +kernel
theorem dX7_hasTimeFor_27 : decode cX7_hasTimeFor 27 = .ok (.getfield 33, 3) := by decide +kernel
theorem dX7_hasTimeFor_30 : decode cX7_hasTimeFor 30 = .ok (.getfield 220, 3) := by decide +kernel
theorem dX7_hasTimeFor_33 : decode cX7_hasTimeFor 33 = .ok (.iload_n 2, 1) := by decide +kernel
theorem dX7_hasTimeFor_34 : decode cX7_hasTimeFor 34 = .ok (.caload, 1) := by decide +kernel
theorem dX7_hasTimeFor_35 : decode cX7_hasTimeFor 35 = .ok (.invokestatic 345, 3) := by decide +kernel
theorem dX7_hasTimeFor_38 : decode cX7_hasTimeFor 38 = .ok (.iadd, 1) := by decide +kernel
theorem dX7_hasTimeFor_39 : decode cX7_hasTimeFor 39 = .ok (.aload_n 0, 1) := by decide +kernel
theorem dX7_hasTimeFor_40 : decode cX7_hasTimeFor 40 = .ok (.getfield 40, 3) := by decide +kernel
theorem dX7_hasTimeFor_43 : decode cX7_hasTimeFor 43 = .ok (.getfield 313, 3) := by decide +kernel
theorem dX7_hasTimeFor_46 : decode cX7_hasTimeFor 46 = .ok (.if_icmp .gt 7, 3) := by decide +kernel
theorem dX7_hasTimeFor_49 : decode cX7_hasTimeFor 49 = .ok (.iconst 1, 1) := by decide +kernel
theorem dX7_hasTimeFor_50 : decode cX7_hasTimeFor 50 = .ok (.goto 4, 3) := by decide +kernel
theorem dX7_hasTimeFor_53 : decode cX7_hasTimeFor 53 = .ok (.iconst 0, 1) := by decide +kernel
theorem dX7_hasTimeFor_54 : decode cX7_hasTimeFor 54 = .ok (.ireturn, 1) := by decide +kernel
theorem dX7_goalOf_0 : decode cX7_goalOf 0 = .ok (.aload_n 0, 1) := by decide +kernel
theorem dX7_goalOf_1 : decode cX7_goalOf 1 = .ok (.getfield 33, 3) := by decide +kernel
theorem dX7_goalOf_4 : decode cX7_goalOf 4 = .ok (.getfield 224, 3) := by decide +kernel
theorem dX7_goalOf_7 : decode cX7_goalOf 7 = .ok (.iload_n 1, 1) := by decide +kernel
theorem dX7_goalOf_8 : decode cX7_goalOf 8 = .ok (.iaload, 1) := by decide +kernel
theorem dX7_goalOf_9 : decode cX7_goalOf 9 = .ok (.istore_n 2, 1) := by decide +kernel
theorem dX7_goalOf_10 : decode cX7_goalOf 10 = .ok (.aload_n 0, 1) := by decide +kernel
theorem dX7_goalOf_11 : decode cX7_goalOf 11 = .ok (.getfield 33, 3) := by decide +kernel
theorem dX7_goalOf_14 : decode cX7_goalOf 14 = .ok (.getfield 220, 3) := by decide +kernel
theorem dX7_goalOf_17 : decode cX7_goalOf 17 = .ok (.iload_n 1, 1) := by decide +kernel
theorem dX7_goalOf_18 : decode cX7_goalOf 18 = .ok (.caload, 1) := by decide +kernel
theorem dX7_goalOf_19 : decode cX7_goalOf 19 = .ok (.bipush 109, 2) := by decide +kernel
theorem dX7_goalOf_21 : decode cX7_goalOf 21 = .ok (.if_icmp .ne 15, 3) := by decide +kernel
theorem dX7_goalOf_24 : decode cX7_goalOf 24 = .ok (.aload_n 0, 1) := by decide +kernel
theorem dX7_goalOf_25 : decode cX7_goalOf 25 = .ok (.getfield 10, 3) := by decide +kernel
theorem dX7_goalOf_28 : decode cX7_goalOf 28 = .ok (.getfield 348, 3) := by decide +kernel
theorem dX7_goalOf_31 : decode cX7_goalOf 31 = .ok (.iload_n 2, 1) := by decide +kernel
theorem dX7_goalOf_32 : decode cX7_goalOf 32 = .ok (.iaload, 1) := by decide +kernel
theorem dX7_goalOf_33 : decode cX7_goalOf 33 = .ok (.goto 12, 3) := by decide +kernel
theorem dX7_goalOf_36 : decode cX7_goalOf 36 = .ok (.aload_n 0, 1) := by decide +kernel
theorem dX7_goalOf_37 : decode cX7_goalOf 37 = .ok (.getfield 19, 3) := by decide +kernel
theorem dX7_goalOf_40 : decode cX7_goalOf 40 = .ok (.getfield 148, 3) := by decide +kernel
theorem dX7_goalOf_43 : decode cX7_goalOf 43 = .ok (.iload_n 2, 1) := by decide +kernel
theorem dX7_goalOf_44 : decode cX7_goalOf 44 = .ok (.iaload, 1) := by decide +kernel
theorem dX7_goalOf_45 : decode cX7_goalOf 45 = .ok (.ireturn, 1) := by decide +kernel
theorem dX7_minutesFor_0 : decode cX7_minutesFor 0 = .ok (.iload_n 0, 1) := by decide +kernel
theorem dX7_minutesFor_1 : decode cX7_minutesFor 1 = .ok (.bipush 109, 2) := by decide +kernel
theorem dX7_minutesFor_3 : decode cX7_minutesFor 3 = .ok (.if_icmp .ne 7, 3) := by decide +kernel
theorem dX7_minutesFor_6 : decode cX7_minutesFor 6 = .ok (.sipush 200, 3) := by decide +kernel
theorem dX7_minutesFor_9 : decode cX7_minutesFor 9 = .ok (.ireturn, 1) := by decide +kernel
theorem dX7_minutesFor_10 : decode cX7_minutesFor 10 = .ok (.iload_n 0, 1) := by decide +kernel
theorem dX7_minutesFor_11 : decode cX7_minutesFor 11 = .ok (.bipush 114, 2) := by decide +kernel
theorem dX7_minutesFor_13 : decode cX7_minutesFor 13 = .ok (.if_icmp .ne 8, 3) := by decide +kernel
theorem dX7_minutesFor_16 : decode cX7_minutesFor 16 = .ok (.bipush 30, 2) := by decide +kernel
theorem dX7_minutesFor_18 : decode cX7_minutesFor 18 = .ok (.goto 5, 3) := by decide +kernel
theorem dX7_minutesFor_21 : decode cX7_minutesFor 21 = .ok (.bipush 10, 2) := by decide +kernel
theorem dX7_minutesFor_23 : decode cX7_minutesFor 23 = .ok (.ireturn, 1) := by decide +kernel
theorem dX7_toolFor_0 : decode cX7_toolFor 0 = .ok (.iload_n 0, 1) := by decide +kernel
theorem dX7_toolFor_1 : decode cX7_toolFor 1 = .ok (.bipush 109, 2) := by decide +kernel
theorem dX7_toolFor_3 : decode cX7_toolFor 3 = .ok (.if_icmp .ne 5, 3) := by decide +kernel
theorem dX7_toolFor_6 : decode cX7_toolFor 6 = .ok (.iconst 2, 1) := by decide +kernel
theorem dX7_toolFor_7 : decode cX7_toolFor 7 = .ok (.ireturn, 1) := by decide +kernel
theorem dX7_toolFor_8 : decode cX7_toolFor 8 = .ok (.iload_n 0, 1) := by decide +kernel
theorem dX7_toolFor_9 : decode cX7_toolFor 9 = .ok (.bipush 114, 2) := by decide +kernel
theorem dX7_toolFor_11 : decode cX7_toolFor 11 = .ok (.if_icmp .ne 7, 3) := by decide +kernel
theorem dX7_toolFor_14 : decode cX7_toolFor 14 = .ok (.iconst 1, 1) := by decide +kernel
theorem dX7_toolFor_15 : decode cX7_toolFor 15 = .ok (.goto 4, 3) := by decide +kernel
theorem dX7_toolFor_18 : decode cX7_toolFor 18 = .ok (.iconst 0, 1) := by decide +kernel
theorem dX7_toolFor_19 : decode cX7_toolFor 19 = .ok (.ireturn, 1) := by decide +kernel
theorem dX7_comesTo_0 : decode cX7_comesTo 0 = .ok (.aload_n 0, 1) := by decide +kernel
theorem dX7_comesTo_1 : decode cX7_comesTo 1 = .ok (.iload_n 2, 1) := by decide +kernel
theorem dX7_comesTo_2 : decode cX7_comesTo 2 = .ok (.invokevirtual 342, 3) := by decide +kernel
theorem dX7_comesTo_5 : decode cX7_comesTo 5 = .ok (.istore_n 3, 1) := by decide +kernel
theorem dX7_comesTo_6 : decode cX7_comesTo 6 = .ok (.iconst 0, 1) := by decide +kernel
theorem dX7_comesTo_7 : decode cX7_comesTo 7 = .ok (.istore 4, 2) := by decide +kernel
theorem dX7_comesTo_9 : decode cX7_comesTo 9 = .ok (.iload 4, 2) := by decide +kernel
theorem dX7_comesTo_11 : decode cX7_comesTo 11 = .ok (.sipush 1000, 3) := by decide +kernel
theorem dX7_comesTo_14 : decode cX7_comesTo 14 = .ok (.if_icmp .ge 118, 3) := by decide +kernel
theorem dX7_comesTo_17 : decode cX7_comesTo 17 = .ok (.aload_n 0, 1) := by decide +kernel
theorem dX7_comesTo_18 : decode cX7_comesTo 18 = .ok (.getfield 40, 3) := by decide +kernel
theorem dX7_comesTo_21 : decode cX7_comesTo 21 = .ok (.getfield 248, 3) := by decide +kernel
theorem dX7_comesTo_24 : decode cX7_comesTo 24 = .ok (.iload_n 1, 1) := by decide +kernel
theorem dX7_comesTo_25 : decode cX7_comesTo 25 = .ok (.iaload, 1) := by decide +kernel
theorem dX7_comesTo_26 : decode cX7_comesTo 26 = .ok (.istore 5, 2) := by decide +kernel
theorem dX7_comesTo_28 : decode cX7_comesTo 28 = .ok (.iload 5, 2) := by decide +kernel
theorem dX7_comesTo_30 : decode cX7_comesTo 30 = .ok (.iload_n 3, 1) := by decide +kernel
theorem dX7_comesTo_31 : decode cX7_comesTo 31 = .ok (.if_icmp .ne 5, 3) := by decide +kernel
theorem dX7_comesTo_34 : decode cX7_comesTo 34 = .ok (.iconst 1, 1) := by decide +kernel
theorem dX7_comesTo_35 : decode cX7_comesTo 35 = .ok (.ireturn, 1) := by decide +kernel
theorem dX7_comesTo_36 : decode cX7_comesTo 36 = .ok (.aload_n 0, 1) := by decide +kernel
theorem dX7_comesTo_37 : decode cX7_comesTo 37 = .ok (.getfield 10, 3) := by decide +kernel
theorem dX7_comesTo_40 : decode cX7_comesTo 40 = .ok (.iload 5, 2) := by decide +kernel
theorem dX7_comesTo_42 : decode cX7_comesTo 42 = .ok (.iload_n 3, 1) := by decide +kernel
theorem dX7_comesTo_43 : decode cX7_comesTo 43 = .ok (.invokevirtual 120, 3) := by decide +kernel
theorem dX7_comesTo_46 : decode cX7_comesTo 46 = .ok (.istore 6, 2) := by decide +kernel
theorem dX7_comesTo_48 : decode cX7_comesTo 48 = .ok (.iload 6, 2) := by decide +kernel
theorem dX7_comesTo_50 : decode cX7_comesTo 50 = .ok (.iconst (-1), 1) := by decide +kernel
theorem dX7_comesTo_51 : decode cX7_comesTo 51 = .ok (.if_icmp .eq 12, 3) := by decide +kernel
theorem dX7_comesTo_54 : decode cX7_comesTo 54 = .ok (.aload_n 0, 1) := by decide +kernel
theorem dX7_comesTo_55 : decode cX7_comesTo 55 = .ok (.iload_n 1, 1) := by decide +kernel
theorem dX7_comesTo_56 : decode cX7_comesTo 56 = .ok (.iload_n 2, 1) := by decide +kernel
theorem dX7_comesTo_57 : decode cX7_comesTo 57 = .ok (.invokevirtual 339, 3) := by decide +kernel
theorem dX7_comesTo_60 : decode cX7_comesTo 60 = .ok (.ifCond .ne 5, 3) := by decide +kernel
theorem dX7_comesTo_63 : decode cX7_comesTo 63 = .ok (.iconst 0, 1) := by decide +kernel
theorem dX7_comesTo_64 : decode cX7_comesTo 64 = .ok (.ireturn, 1) := by decide +kernel
theorem dX7_comesTo_65 : decode cX7_comesTo 65 = .ok (.aload_n 0, 1) := by decide +kernel
theorem dX7_comesTo_66 : decode cX7_comesTo 66 = .ok (.iload 6, 2) := by decide +kernel
theorem dX7_comesTo_68 : decode cX7_comesTo 68 = .ok (.invokevirtual 351, 3) := by decide +kernel
theorem dX7_comesTo_71 : decode cX7_comesTo 71 = .ok (.aload_n 0, 1) := by decide +kernel
theorem dX7_comesTo_72 : decode cX7_comesTo 72 = .ok (.getfield 10, 3) := by decide +kernel
theorem dX7_comesTo_75 : decode cX7_comesTo 75 = .ok (.getfield 93, 3) := by decide +kernel
theorem dX7_comesTo_78 : decode cX7_comesTo 78 = .ok (.getfield 97, 3) := by decide +kernel
theorem dX7_comesTo_81 : decode cX7_comesTo 81 = .ok (.iload 6, 2) := by decide +kernel
theorem dX7_comesTo_83 : decode cX7_comesTo 83 = .ok (.baload, 1) := by decide +kernel
theorem dX7_comesTo_84 : decode cX7_comesTo 84 = .ok (.ifCond .ne 42, 3) := by decide +kernel
theorem dX7_comesTo_87 : decode cX7_comesTo 87 = .ok (.aload_n 0, 1) := by decide +kernel
theorem dX7_comesTo_88 : decode cX7_comesTo 88 = .ok (.getfield 40, 3) := by decide +kernel
theorem dX7_comesTo_91 : decode cX7_comesTo 91 = .ok (.iload_n 1, 1) := by decide +kernel
theorem dX7_comesTo_92 : decode cX7_comesTo 92 = .ok (.aload_n 0, 1) := by decide +kernel
theorem dX7_comesTo_93 : decode cX7_comesTo 93 = .ok (.getfield 10, 3) := by decide +kernel
theorem dX7_comesTo_96 : decode cX7_comesTo 96 = .ok (.iload 6, 2) := by decide +kernel
theorem dX7_comesTo_98 : decode cX7_comesTo 98 = .ok (.iload 5, 2) := by decide +kernel
theorem dX7_comesTo_100 : decode cX7_comesTo 100 = .ok (.invokevirtual 354, 3) := by decide +kernel
theorem dX7_comesTo_103 : decode cX7_comesTo 103 = .ok (.invokevirtual 357, 3) := by decide +kernel
theorem dX7_comesTo_106 : decode cX7_comesTo 106 = .ok (.aload_n 0, 1) := by decide +kernel
theorem dX7_comesTo_107 : decode cX7_comesTo 107 = .ok (.getfield 40, 3) := by decide +kernel
theorem dX7_comesTo_110 : decode cX7_comesTo 110 = .ok (.getfield 248, 3) := by decide +kernel
theorem dX7_comesTo_113 : decode cX7_comesTo 113 = .ok (.iload_n 1, 1) := by decide +kernel
theorem dX7_comesTo_114 : decode cX7_comesTo 114 = .ok (.aload_n 0, 1) := by decide +kernel
theorem dX7_comesTo_115 : decode cX7_comesTo 115 = .ok (.getfield 10, 3) := by decide +kernel
theorem dX7_comesTo_118 : decode cX7_comesTo 118 = .ok (.iload 6, 2) := by decide +kernel
theorem dX7_comesTo_120 : decode cX7_comesTo 120 = .ok (.iload 5, 2) := by decide +kernel
theorem dX7_comesTo_122 : decode cX7_comesTo 122 = .ok (.invokevirtual 360, 3) := by decide +kernel
theorem dX7_comesTo_125 : decode cX7_comesTo 125 = .ok (.iastore, 1) := by decide +kernel
theorem dX7_comesTo_126 : decode cX7_comesTo 126 = .ok (.iinc 4 1, 3) := by decide +kernel
theorem dX7_comesTo_129 : decode cX7_comesTo 129 = .ok (.goto (-120), 3) := by decide +kernel
theorem dX7_comesTo_132 : decode cX7_comesTo 132 = .ok (.iconst 0, 1) := by decide +kernel
theorem dX7_comesTo_133 : decode cX7_comesTo 133 = .ok (.ireturn, 1) := by decide +kernel
theorem dX7_see_0 : decode cX7_see 0 = .ok (.aload_n 0, 1) := by decide +kernel
theorem dX7_see_1 : decode cX7_see 1 = .ok (.getfield 10, 3) := by decide +kernel
theorem dX7_see_4 : decode cX7_see 4 = .ok (.getfield 93, 3) := by decide +kernel
theorem dX7_see_7 : decode cX7_see 7 = .ok (.getfield 97, 3) := by decide +kernel
theorem dX7_see_10 : decode cX7_see 10 = .ok (.iload_n 1, 1) := by decide +kernel
theorem dX7_see_11 : decode cX7_see 11 = .ok (.baload, 1) := by decide +kernel
theorem dX7_see_12 : decode cX7_see 12 = .ok (.istore_n 2, 1) := by decide +kernel
theorem dX7_see_13 : decode cX7_see 13 = .ok (.aload_n 0, 1) := by decide +kernel
theorem dX7_see_14 : decode cX7_see 14 = .ok (.getfield 10, 3) := by decide +kernel
theorem dX7_see_17 : decode cX7_see 17 = .ok (.aload_n 0, 1) := by decide +kernel
theorem dX7_see_18 : decode cX7_see 18 = .ok (.getfield 10, 3) := by decide +kernel
theorem dX7_see_21 : decode cX7_see 21 = .ok (.getfield 181, 3) := by decide +kernel
theorem dX7_see_24 : decode cX7_see 24 = .ok (.iload_n 1, 1) := by decide +kernel
theorem dX7_see_25 : decode cX7_see 25 = .ok (.iload_n 2, 1) := by decide +kernel
theorem dX7_see_26 : decode cX7_see 26 = .ok (.invokevirtual 102, 3) := by decide +kernel
theorem dX7_see_29 : decode cX7_see 29 = .ok (.aload_n 0, 1) := by decide +kernel
theorem dX7_see_30 : decode cX7_see 30 = .ok (.getfield 26, 3) := by decide +kernel
theorem dX7_see_33 : decode cX7_see 33 = .ok (.iload_n 1, 1) := by decide +kernel
theorem dX7_see_34 : decode cX7_see 34 = .ok (.iload_n 2, 1) := by decide +kernel
theorem dX7_see_35 : decode cX7_see 35 = .ok (.invokevirtual 363, 3) := by decide +kernel
theorem dX7_see_38 : decode cX7_see 38 = .ok (.return_, 1) := by decide +kernel
theorem dX7_carryOut_0 : decode cX7_carryOut 0 = .ok (.aload_n 0, 1) := by decide +kernel
theorem dX7_carryOut_1 : decode cX7_carryOut 1 = .ok (.getfield 33, 3) := by decide +kernel
theorem dX7_carryOut_4 : decode cX7_carryOut 4 = .ok (.getfield 220, 3) := by decide +kernel
theorem dX7_carryOut_7 : decode cX7_carryOut 7 = .ok (.iload_n 2, 1) := by decide +kernel
theorem dX7_carryOut_8 : decode cX7_carryOut 8 = .ok (.caload, 1) := by decide +kernel
theorem dX7_carryOut_9 : decode cX7_carryOut 9 = .ok (.istore_n 3, 1) := by decide +kernel
theorem dX7_carryOut_10 : decode cX7_carryOut 10 = .ok (.aload_n 0, 1) := by decide +kernel
theorem dX7_carryOut_11 : decode cX7_carryOut 11 = .ok (.getfield 33, 3) := by decide +kernel
theorem dX7_carryOut_14 : decode cX7_carryOut 14 = .ok (.getfield 224, 3) := by decide +kernel
theorem dX7_carryOut_17 : decode cX7_carryOut 17 = .ok (.iload_n 2, 1) := by decide +kernel
theorem dX7_carryOut_18 : decode cX7_carryOut 18 = .ok (.iaload, 1) := by decide +kernel
theorem dX7_carryOut_19 : decode cX7_carryOut 19 = .ok (.istore 4, 2) := by decide +kernel
theorem dX7_carryOut_21 : decode cX7_carryOut 21 = .ok (.iload_n 3, 1) := by decide +kernel
theorem dX7_carryOut_22 : decode cX7_carryOut 22 = .ok (.bipush 109, 2) := by decide +kernel
theorem dX7_carryOut_24 : decode cX7_carryOut 24 = .ok (.if_icmp .ne 46, 3) := by decide +kernel
theorem dX7_carryOut_27 : decode cX7_carryOut 27 = .ok (.aload_n 0, 1) := by decide +kernel
theorem dX7_carryOut_28 : decode cX7_carryOut 28 = .ok (.iload 4, 2) := by decide +kernel
theorem dX7_carryOut_30 : decode cX7_carryOut 30 = .ok (.invokevirtual 351, 3) := by decide +kernel
theorem dX7_carryOut_33 : decode cX7_carryOut 33 = .ok (.aload_n 0, 1) := by decide +kernel
theorem dX7_carryOut_34 : decode cX7_carryOut 34 = .ok (.getfield 10, 3) := by decide +kernel
theorem dX7_carryOut_37 : decode cX7_carryOut 37 = .ok (.aload_n 0, 1) := by decide +kernel
theorem dX7_carryOut_38 : decode cX7_carryOut 38 = .ok (.getfield 10, 3) := by decide +kernel
theorem dX7_carryOut_41 : decode cX7_carryOut 41 = .ok (.getfield 93, 3) := by decide +kernel
theorem dX7_carryOut_44 : decode cX7_carryOut 44 = .ok (.iload 4, 2) := by decide +kernel
theorem dX7_carryOut_46 : decode cX7_carryOut 46 = .ok (.iconst 0, 1) := by decide +kernel
theorem dX7_carryOut_47 : decode cX7_carryOut 47 = .ok (.invokevirtual 102, 3) := by decide +kernel
theorem dX7_carryOut_50 : decode cX7_carryOut 50 = .ok (.aload_n 0, 1) := by decide +kernel
theorem dX7_carryOut_51 : decode cX7_carryOut 51 = .ok (.getfield 10, 3) := by decide +kernel
theorem dX7_carryOut_54 : decode cX7_carryOut 54 = .ok (.aload_n 0, 1) := by decide +kernel
theorem dX7_carryOut_55 : decode cX7_carryOut 55 = .ok (.getfield 10, 3) := by decide +kernel
theorem dX7_carryOut_58 : decode cX7_carryOut 58 = .ok (.getfield 181, 3) := by decide +kernel
theorem dX7_carryOut_61 : decode cX7_carryOut 61 = .ok (.iload 4, 2) := by decide +kernel
theorem dX7_carryOut_63 : decode cX7_carryOut 63 = .ok (.iconst 0, 1) := by decide +kernel
theorem dX7_carryOut_64 : decode cX7_carryOut 64 = .ok (.invokevirtual 102, 3) := by decide +kernel
theorem dX7_carryOut_67 : decode cX7_carryOut 67 = .ok (.goto 39, 3) := by decide +kernel
theorem dX7_carryOut_70 : decode cX7_carryOut 70 = .ok (.iload_n 3, 1) := by decide +kernel
theorem dX7_carryOut_71 : decode cX7_carryOut 71 = .ok (.bipush 114, 2) := by decide +kernel
theorem dX7_carryOut_73 : decode cX7_carryOut 73 = .ok (.if_icmp .ne 12, 3) := by decide +kernel
theorem dX7_carryOut_76 : decode cX7_carryOut 76 = .ok (.aload_n 0, 1) := by decide +kernel
theorem dX7_carryOut_77 : decode cX7_carryOut 77 = .ok (.iload 4, 2) := by decide +kernel
theorem dX7_carryOut_79 : decode cX7_carryOut 79 = .ok (.invokevirtual 155, 3) := by decide +kernel
theorem dX7_carryOut_82 : decode cX7_carryOut 82 = .ok (.goto 24, 3) := by decide +kernel
theorem dX7_carryOut_85 : decode cX7_carryOut 85 = .ok (.aload_n 0, 1) := by decide +kernel
theorem dX7_carryOut_86 : decode cX7_carryOut 86 = .ok (.getfield 19, 3) := by decide +kernel
theorem dX7_carryOut_89 : decode cX7_carryOut 89 = .ok (.getfield 167, 3) := by decide +kernel
theorem dX7_carryOut_92 : decode cX7_carryOut 92 = .ok (.iload 4, 2) := by decide +kernel
theorem dX7_carryOut_94 : decode cX7_carryOut 94 = .ok (.iload_n 3, 1) := by decide +kernel
theorem dX7_carryOut_95 : decode cX7_carryOut 95 = .ok (.bipush 99, 2) := by decide +kernel
theorem dX7_carryOut_97 : decode cX7_carryOut 97 = .ok (.if_icmp .ne 7, 3) := by decide +kernel
theorem dX7_carryOut_100 : decode cX7_carryOut 100 = .ok (.iconst 1, 1) := by decide +kernel
theorem dX7_carryOut_101 : decode cX7_carryOut 101 = .ok (.goto 4, 3) := by decide +kernel
theorem dX7_carryOut_104 : decode cX7_carryOut 104 = .ok (.iconst 0, 1) := by decide +kernel
theorem dX7_carryOut_105 : decode cX7_carryOut 105 = .ok (.bastore, 1) := by decide +kernel
theorem dX7_carryOut_106 : decode cX7_carryOut 106 = .ok (.aload_n 0, 1) := by decide +kernel
theorem dX7_carryOut_107 : decode cX7_carryOut 107 = .ok (.getfield 40, 3) := by decide +kernel
theorem dX7_carryOut_110 : decode cX7_carryOut 110 = .ok (.iload_n 1, 1) := by decide +kernel
theorem dX7_carryOut_111 : decode cX7_carryOut 111 = .ok (.iload_n 3, 1) := by decide +kernel
theorem dX7_carryOut_112 : decode cX7_carryOut 112 = .ok (.invokestatic 345, 3) := by decide +kernel
theorem dX7_carryOut_115 : decode cX7_carryOut 115 = .ok (.invokevirtual 357, 3) := by decide +kernel
theorem dX7_carryOut_118 : decode cX7_carryOut 118 = .ok (.aload_n 0, 1) := by decide +kernel
theorem dX7_carryOut_119 : decode cX7_carryOut 119 = .ok (.getfield 33, 3) := by decide +kernel
theorem dX7_carryOut_122 : decode cX7_carryOut 122 = .ok (.getfield 233, 3) := by decide +kernel
theorem dX7_carryOut_125 : decode cX7_carryOut 125 = .ok (.iload_n 2, 1) := by decide +kernel
theorem dX7_carryOut_126 : decode cX7_carryOut 126 = .ok (.iload_n 1, 1) := by decide +kernel
theorem dX7_carryOut_127 : decode cX7_carryOut 127 = .ok (.iastore, 1) := by decide +kernel
theorem dX7_carryOut_128 : decode cX7_carryOut 128 = .ok (.return_, 1) := by decide +kernel
end
section
theorem dX8_init_0 : decode cX8_init 0 = .ok (.aload_n 0, 1) := by decide +kernel
theorem dX8_init_1 : decode cX8_init 1 = .ok (.invokespecial 1, 3) := by decide +kernel
theorem dX8_init_4 : decode cX8_init 4 = .ok (.aload_n 0, 1) := by decide +kernel
theorem dX8_init_5 : decode cX8_init 5 = .ok (.bipush 10, 2) := by decide +kernel
theorem dX8_init_7 : decode cX8_init 7 = .ok (.putfield 7, 3) := by decide +kernel
theorem dX8_init_10 : decode cX8_init 10 = .ok (.aload_n 0, 1) := by decide +kernel
theorem dX8_init_11 : decode cX8_init 11 = .ok (.bipush 16, 2) := by decide +kernel
theorem dX8_init_13 : decode cX8_init 13 = .ok (.newarray .boolean, 2) := by decide +kernel
theorem dX8_init_15 : decode cX8_init 15 = .ok (.putfield 13, 3) := by decide +kernel
theorem dX8_init_18 : decode cX8_init 18 = .ok (.aload_n 0, 1) := by decide +kernel
theorem dX8_init_19 : decode cX8_init 19 = .ok (.bipush 24, 2) := by decide +kernel
theorem dX8_init_21 : decode cX8_init 21 = .ok (.newarray .int, 2) := by decide +kernel
theorem dX8_init_23 : decode cX8_init 23 = .ok (.putfield 17, 3) := by decide +kernel
theorem dX8_init_26 : decode cX8_init 26 = .ok (.aload_n 0, 1) := by decide +kernel
theorem dX8_init_27 : decode cX8_init 27 = .ok (.bipush 24, 2) := by decide +kernel
theorem dX8_init_29 : decode cX8_init 29 = .ok (.newarray .int, 2) := by decide +kernel
theorem dX8_init_31 : decode cX8_init 31 = .ok (.putfield 21, 3) := by decide +kernel
theorem dX8_init_34 : decode cX8_init 34 = .ok (.aload_n 0, 1) := by decide +kernel
theorem dX8_init_35 : decode cX8_init 35 = .ok (.bipush 24, 2) := by decide +kernel
theorem dX8_init_37 : decode cX8_init 37 = .ok (.newarray .int, 2) := by decide +kernel
theorem dX8_init_39 : decode cX8_init 39 = .ok (.putfield 24, 3) := by decide +kernel
theorem dX8_init_42 : decode cX8_init 42 = .ok (.aload_n 0, 1) := by decide +kernel
theorem dX8_init_43 : decode cX8_init 43 = .ok (.bipush 24, 2) := by decide +kernel
theorem dX8_init_45 : decode cX8_init 45 = .ok (.newarray .int, 2) := by decide +kernel
theorem dX8_init_47 : decode cX8_init 47 = .ok (.putfield 27, 3) := by decide +kernel
theorem dX8_init_50 : decode cX8_init 50 = .ok (.aload_n 0, 1) := by decide +kernel
theorem dX8_init_51 : decode cX8_init 51 = .ok (.bipush 24, 2) := by decide +kernel
theorem dX8_init_53 : decode cX8_init 53 = .ok (.newarray .boolean, 2) := by decide +kernel
theorem dX8_init_55 : decode cX8_init 55 = .ok (.putfield 30, 3) := by decide +kernel
theorem dX8_init_58 : decode cX8_init 58 = .ok (.aload_n 0, 1) := by decide +kernel
theorem dX8_init_59 : decode cX8_init 59 = .ok (.bipush 24, 2) := by decide +kernel
theorem dX8_init_61 : decode cX8_init 61 = .ok (.newarray .boolean, 2) := by decide +kernel
theorem dX8_init_63 : decode cX8_init 63 = .ok (.putfield 33, 3) := by decide +kernel
theorem dX8_init_66 : decode cX8_init 66 = .ok (.aload_n 0, 1) := by decide +kernel
theorem dX8_init_67 : decode cX8_init 67 = .ok (.bipush 30, 2) := by decide +kernel
theorem dX8_init_69 : decode cX8_init 69 = .ok (.newarray .int, 2) := by decide +kernel
theorem dX8_init_71 : decode cX8_init 71 = .ok (.putfield 36, 3) := by decide +kernel
theorem dX8_init_74 : decode cX8_init 74 = .ok (.aload_n 0, 1) := by decide +kernel
theorem dX8_init_75 : decode cX8_init 75 = .ok (.bipush 30, 2) := by decide +kernel
theorem dX8_init_77 : decode cX8_init 77 = .ok (.newarray .int, 2) := by decide +kernel
theorem dX8_init_79 : decode cX8_init 79 = .ok (.putfield 39, 3) := by decide +kernel
theorem dX8_init_82 : decode cX8_init 82 = .ok (.aload_n 0, 1) := by decide +kernel
theorem dX8_init_83 : decode cX8_init 83 = .ok (.bipush 30, 2) := by decide +kernel
theorem dX8_init_85 : decode cX8_init 85 = .ok (.newarray .int, 2) := by decide +kernel
theorem dX8_init_87 : decode cX8_init 87 = .ok (.putfield 42, 3) := by decide +kernel
theorem dX8_init_90 : decode cX8_init 90 = .ok (.aload_n 0, 1) := by decide +kernel
theorem dX8_init_91 : decode cX8_init 91 = .ok (.bipush 30, 2) := by decide +kernel
theorem dX8_init_93 : decode cX8_init 93 = .ok (.newarray .int, 2) := by decide +kernel
theorem dX8_init_95 : decode cX8_init 95 = .ok (.putfield 45, 3) := by decide +kernel
theorem dX8_init_98 : decode cX8_init 98 = .ok (.aload_n 0, 1) := by decide +kernel
theorem dX8_init_99 : decode cX8_init 99 = .ok (.bipush 30, 2) := by decide +kernel
theorem dX8_init_101 : decode cX8_init 101 = .ok (.newarray .boolean, 2) := by decide +kernel
theorem dX8_init_103 : decode cX8_init 103 = .ok (.putfield 48, 3) := by decide +kernel
theorem dX8_init_106 : decode cX8_init 106 = .ok (.aload_n 0, 1) := by decide +kernel
theorem dX8_init_107 : decode cX8_init 107 = .ok (.sipush 240, 3) := by decide +kernel
theorem dX8_init_110 : decode cX8_init 110 = .ok (.newarray .int, 2) := by decide +kernel
theorem dX8_init_112 : decode cX8_init 112 = .ok (.putfield 51, 3) := by decide +kernel
theorem dX8_init_115 : decode cX8_init 115 = .ok (.aload_n 0, 1) := by decide +kernel
theorem dX8_init_116 : decode cX8_init 116 = .ok (.bipush 10, 2) := by decide +kernel
theorem dX8_init_118 : decode cX8_init 118 = .ok (.newarray .int, 2) := by decide +kernel
theorem dX8_init_120 : decode cX8_init 120 = .ok (.dup, 1) := by decide +kernel
theorem dX8_init_121 : decode cX8_init 121 = .ok (.iconst 0, 1) := by decide +kernel
theorem dX8_init_122 : decode cX8_init 122 = .ok (.bipush 50, 2) := by decide +kernel
theorem dX8_init_124 : decode cX8_init 124 = .ok (.iastore, 1) := by decide +kernel
theorem dX8_init_125 : decode cX8_init 125 = .ok (.dup, 1) := by decide +kernel
theorem dX8_init_126 : decode cX8_init 126 = .ok (.iconst 1, 1) := by decide +kernel
theorem dX8_init_127 : decode cX8_init 127 = .ok (.bipush 50, 2) := by decide +kernel
theorem dX8_init_129 : decode cX8_init 129 = .ok (.iastore, 1) := by decide +kernel
theorem dX8_init_130 : decode cX8_init 130 = .ok (.dup, 1) := by decide +kernel
theorem dX8_init_131 : decode cX8_init 131 = .ok (.iconst 2, 1) := by decide +kernel
theorem dX8_init_132 : decode cX8_init 132 = .ok (.bipush 50, 2) := by decide +kernel
theorem dX8_init_134 : decode cX8_init 134 = .ok (.iastore, 1) := by decide +kernel
theorem dX8_init_135 : decode cX8_init 135 = .ok (.dup, 1) := by decide +kernel
theorem dX8_init_136 : decode cX8_init 136 = .ok (.iconst 3, 1) := by decide +kernel
theorem dX8_init_137 : decode cX8_init 137 = .ok (.bipush 50, 2) := by decide +kernel
theorem dX8_init_139 : decode cX8_init 139 = .ok (.iastore, 1) := by decide +kernel
theorem dX8_init_140 : decode cX8_init 140 = .ok (.dup, 1) := by decide +kernel
theorem dX8_init_141 : decode cX8_init 141 = .ok (.iconst 4, 1) := by decide +kernel
theorem dX8_init_142 : decode cX8_init 142 = .ok (.bipush 50, 2) := by decide +kernel
theorem dX8_init_144 : decode cX8_init 144 = .ok (.iastore, 1) := by decide +kernel
theorem dX8_init_145 : decode cX8_init 145 = .ok (.dup, 1) := by decide +kernel
theorem dX8_init_146 : decode cX8_init 146 = .ok (.iconst 5, 1) := by decide +kernel
theorem dX8_init_147 : decode cX8_init 147 = .ok (.bipush 50, 2) := by decide +kernel
theorem dX8_init_149 : decode cX8_init 149 = .ok (.iastore, 1) := by decide +kernel
theorem dX8_init_150 : decode cX8_init 150 = .ok (.dup, 1) := by decide +kernel
theorem dX8_init_151 : decode cX8_init 151 = .ok (.bipush 6, 2) := by decide +kernel
theorem dX8_init_153 : decode cX8_init 153 = .ok (.bipush 50, 2) := by decide +kernel
theorem dX8_init_155 : decode cX8_init 155 = .ok (.iastore, 1) := by decide +kernel
theorem dX8_init_156 : decode cX8_init 156 = .ok (.dup, 1) := by decide +kernel
theorem dX8_init_157 : decode cX8_init 157 = .ok (.bipush 7, 2) := by decide +kernel
theorem dX8_init_159 : decode cX8_init 159 = .ok (.bipush 50, 2) := by decide +kernel
theorem dX8_init_161 : decode cX8_init 161 = .ok (.iastore, 1) := by decide +kernel
theorem dX8_init_162 : decode cX8_init 162 = .ok (.dup, 1) := by decide +kernel
theorem dX8_init_163 : decode cX8_init 163 = .ok (.bipush 8, 2) := by decide +kernel
theorem dX8_init_165 : decode cX8_init 165 = .ok (.bipush 50, 2) := by decide +kernel
theorem dX8_init_167 : decode cX8_init 167 = .ok (.iastore, 1) := by decide +kernel
theorem dX8_init_168 : decode cX8_init 168 = .ok (.dup, 1) := by decide +kernel
theorem dX8_init_169 : decode cX8_init 169 = .ok (.bipush 9, 2) := by decide +kernel
theorem dX8_init_171 : decode cX8_init 171 = .ok (.bipush 50, 2) := by decide +kernel
theorem dX8_init_173 : decode cX8_init 173 = .ok (.iastore, 1) := by decide +kernel
theorem dX8_init_174 : decode cX8_init 174 = .ok (.putfield 54, 3) := by decide +kernel
theorem dX8_init_177 : decode cX8_init 177 = .ok (.aload_n 0, 1) := by decide +kernel
theorem dX8_init_178 : decode cX8_init 178 = .ok (.bipush 40, 2) := by decide +kernel
theorem dX8_init_180 : decode cX8_init 180 = .ok (.newarray .char, 2) := by decide +kernel
theorem dX8_init_182 : decode cX8_init 182 = .ok (.putfield 57, 3) := by decide +kernel
theorem dX8_init_185 : decode cX8_init 185 = .ok (.aload_n 0, 1) := by decide +kernel
theorem dX8_init_186 : decode cX8_init 186 = .ok (.bipush 40, 2) := by decide +kernel
theorem dX8_init_188 : decode cX8_init 188 = .ok (.newarray .int, 2) := by decide +kernel
theorem dX8_init_190 : decode cX8_init 190 = .ok (.putfield 61, 3) := by decide +kernel
theorem dX8_init_193 : decode cX8_init 193 = .ok (.aload_n 0, 1) := by decide +kernel
theorem dX8_init_194 : decode cX8_init 194 = .ok (.bipush 40, 2) := by decide +kernel
theorem dX8_init_196 : decode cX8_init 196 = .ok (.newarray .int, 2) := by decide +kernel
theorem dX8_init_198 : decode cX8_init 198 = .ok (.putfield 64, 3) := by decide +kernel
theorem dX8_init_201 : decode cX8_init 201 = .ok (.aload_n 0, 1) := by decide +kernel
theorem dX8_init_202 : decode cX8_init 202 = .ok (.bipush 40, 2) := by decide +kernel
theorem dX8_init_204 : decode cX8_init 204 = .ok (.newarray .int, 2) := by decide +kernel
theorem dX8_init_206 : decode cX8_init 206 = .ok (.putfield 67, 3) := by decide +kernel
theorem dX8_init_209 : decode cX8_init 209 = .ok (.aload_n 0, 1) := by decide +kernel
theorem dX8_init_210 : decode cX8_init 210 = .ok (.iconst 4, 1) := by decide +kernel
theorem dX8_init_211 : decode cX8_init 211 = .ok (.newarray .int, 2) := by decide +kernel
theorem dX8_init_213 : decode cX8_init 213 = .ok (.putfield 70, 3) := by decide +kernel
theorem dX8_init_216 : decode cX8_init 216 = .ok (.aload_n 0, 1) := by decide +kernel
theorem dX8_init_217 : decode cX8_init 217 = .ok (.iconst 4, 1) := by decide +kernel
theorem dX8_init_218 : decode cX8_init 218 = .ok (.newarray .int, 2) := by decide +kernel
theorem dX8_init_220 : decode cX8_init 220 = .ok (.putfield 73, 3) := by decide +kernel
theorem dX8_init_223 : decode cX8_init 223 = .ok (.aload_n 0, 1) := by decide +kernel
theorem dX8_init_224 : decode cX8_init 224 = .ok (.iconst 4, 1) := by decide +kernel
theorem dX8_init_225 : decode cX8_init 225 = .ok (.newarray .int, 2) := by decide +kernel
theorem dX8_init_227 : decode cX8_init 227 = .ok (.putfield 76, 3) := by decide +kernel
theorem dX8_init_230 : decode cX8_init 230 = .ok (.aload_n 0, 1) := by decide +kernel
theorem dX8_init_231 : decode cX8_init 231 = .ok (.sipush 240, 3) := by decide +kernel
theorem dX8_init_234 : decode cX8_init 234 = .ok (.newarray .boolean, 2) := by decide +kernel
theorem dX8_init_236 : decode cX8_init 236 = .ok (.putfield 79, 3) := by decide +kernel
theorem dX8_init_239 : decode cX8_init 239 = .ok (.aload_n 0, 1) := by decide +kernel
theorem dX8_init_240 : decode cX8_init 240 = .ok (.bipush 10, 2) := by decide +kernel
theorem dX8_init_242 : decode cX8_init 242 = .ok (.newarray .int, 2) := by decide +kernel
theorem dX8_init_244 : decode cX8_init 244 = .ok (.putfield 82, 3) := by decide +kernel
theorem dX8_init_247 : decode cX8_init 247 = .ok (.aload_n 0, 1) := by decide +kernel
theorem dX8_init_248 : decode cX8_init 248 = .ok (.bipush 16, 2) := by decide +kernel
theorem dX8_init_250 : decode cX8_init 250 = .ok (.newarray .int, 2) := by decide +kernel
theorem dX8_init_252 : decode cX8_init 252 = .ok (.putfield 85, 3) := by decide +kernel
theorem dX8_init_255 : decode cX8_init 255 = .ok (.return_, 1) := by decide +kernel
theorem dX8_thrown_0 : decode cX8_thrown 0 = .ok (.aload_n 0, 1) := by decide +kernel
theorem dX8_thrown_1 : decode cX8_thrown 1 = .ok (.getfield 88, 3) := by decide +kernel
theorem dX8_thrown_4 : decode cX8_thrown 4 = .ok (.ireturn, 1) := by decide +kernel
theorem dX8_in_0 : decode cX8_in 0 = .ok (.iload_n 1, 1) := by decide +kernel
theorem dX8_in_1 : decode cX8_in 1 = .ok (.iload_n 2, 1) := by decide +kernel
theorem dX8_in_2 : decode cX8_in 2 = .ok (.if_icmp .lt 12, 3) := by decide +kernel
theorem dX8_in_5 : decode cX8_in 5 = .ok (.iload_n 1, 1) := by decide +kernel
theorem dX8_in_6 : decode cX8_in 6 = .ok (.iload_n 3, 1) := by decide +kernel
theorem dX8_in_7 : decode cX8_in 7 = .ok (.if_icmp .gt 7, 3) := by decide +kernel
theorem dX8_in_10 : decode cX8_in 10 = .ok (.iconst 1, 1) := by decide +kernel
theorem dX8_in_11 : decode cX8_in 11 = .ok (.goto 4, 3) := by decide +kernel
theorem dX8_in_14 : decode cX8_in 14 = .ok (.iconst 0, 1) := by decide +kernel
theorem dX8_in_15 : decode cX8_in 15 = .ok (.ireturn, 1) := by decide +kernel
theorem dX8_least_0 : decode cX8_least 0 = .ok (.iload_n 1, 1) := by decide +kernel
theorem dX8_least_1 : decode cX8_least 1 = .ok (.iload_n 2, 1) := by decide +kernel
theorem dX8_least_2 : decode cX8_least 2 = .ok (.if_icmp .ge 7, 3) := by decide +kernel
theorem dX8_least_5 : decode cX8_least 5 = .ok (.iload_n 1, 1) := by decide +kernel
theorem dX8_least_6 : decode cX8_least 6 = .ok (.goto 4, 3) := by decide +kernel
theorem dX8_least_9 : decode cX8_least 9 = .ok (.iload_n 2, 1) := by decide +kernel
theorem dX8_least_10 : decode cX8_least 10 = .ok (.ireturn, 1) := by decide +kernel
theorem dX8_fails_0 : decode cX8_fails 0 = .ok (.aload_n 0, 1) := by decide +kernel
theorem dX8_fails_1 : decode cX8_fails 1 = .ok (.iload_n 1, 1) := by decide +kernel
theorem dX8_fails_2 : decode cX8_fails 2 = .ok (.putfield 88, 3) := by decide +kernel
theorem dX8_fails_5 : decode cX8_fails 5 = .ok (.iconst 0, 1) := by decide +kernel
theorem dX8_fails_6 : decode cX8_fails 6 = .ok (.ireturn, 1) := by decide +kernel
theorem dX8_tells_0 : decode cX8_tells 0 = .ok (.aload_n 0, 1) := by decide +kernel
theorem dX8_tells_1 : decode cX8_tells 1 = .ok (.iconst 0, 1) := by decide +kernel
theorem dX8_tells_2 : decode cX8_tells 2 = .ok (.putfield 88, 3) := by decide +kernel
theorem dX8_tells_5 : decode cX8_tells 5 = .ok (.iload_n 1, 1) := by decide +kernel
theorem dX8_tells_6 : decode cX8_tells 6 = .ok (.ireturn, 1) := by decide +kernel
theorem dX8_isFork_0 : decode cX8_isFork 0 = .ok (.aload_n 0, 1) := by decide +kernel
theorem dX8_isFork_1 : decode cX8_isFork 1 = .ok (.iload_n 1, 1) := by decide +kernel
theorem dX8_isFork_2 : decode cX8_isFork 2 = .ok (.iconst 0, 1) := by decide +kernel
theorem dX8_isFork_3 : decode cX8_isFork 3 = .ok (.aload_n 0, 1) := by decide +kernel
theorem dX8_isFork_4 : decode cX8_isFork 4 = .ok (.getfield 91, 3) := by decide +kernel
theorem dX8_isFork_7 : decode cX8_isFork 7 = .ok (.iconst 1, 1) := by decide +kernel
theorem dX8_isFork_8 : decode cX8_isFork 8 = .ok (.isub, 1) := by decide +kernel
theorem dX8_isFork_9 : decode cX8_isFork 9 = .ok (.invokevirtual 94, 3) := by decide +kernel
theorem dX8_isFork_12 : decode cX8_isFork 12 = .ok (.ireturn, 1) := by decide +kernel
theorem dX8_isTrail_0 : decode cX8_isTrail 0 = .ok (.aload_n 0, 1) := by decide +kernel
theorem dX8_isTrail_1 : decode cX8_isTrail 1 = .ok (.iload_n 1, 1) := by decide +kernel
theorem dX8_isTrail_2 : decode cX8_isTrail 2 = .ok (.iconst 0, 1) := by decide +kernel
theorem dX8_isTrail_3 : decode cX8_isTrail 3 = .ok (.aload_n 0, 1) := by decide +kernel
theorem dX8_isTrail_4 : decode cX8_isTrail 4 = .ok (.getfield 98, 3) := by decide +kernel
theorem dX8_isTrail_7 : decode cX8_isTrail 7 = .ok (.iconst 1, 1) := by decide +kernel
theorem dX8_isTrail_8 : decode cX8_isTrail 8 = .ok (.isub, 1) := by decide +kernel
theorem dX8_isTrail_9 : decode cX8_isTrail 9 = .ok (.invokevirtual 94, 3) := by decide +kernel
theorem dX8_isTrail_12 : decode cX8_isTrail 12 = .ok (.ireturn, 1) := by decide +kernel
theorem dX8_isBoard_0 : decode cX8_isBoard 0 = .ok (.aload_n 0, 1) := by decide +kernel
theorem dX8_isBoard_1 : decode cX8_isBoard 1 = .ok (.iload_n 1, 1) := by decide +kernel
theorem dX8_isBoard_2 : decode cX8_isBoard 2 = .ok (.iconst 0, 1) := by decide +kernel
theorem dX8_isBoard_3 : decode cX8_isBoard 3 = .ok (.aload_n 0, 1) := by decide +kernel
theorem dX8_isBoard_4 : decode cX8_isBoard 4 = .ok (.getfield 101, 3) := by decide +kernel
theorem dX8_isBoard_7 : decode cX8_isBoard 7 = .ok (.iconst 1, 1) := by decide +kernel
theorem dX8_isBoard_8 : decode cX8_isBoard 8 = .ok (.isub, 1) := by decide +kernel
theorem dX8_isBoard_9 : decode cX8_isBoard 9 = .ok (.invokevirtual 94, 3) := by decide +kernel
theorem dX8_isBoard_12 : decode cX8_isBoard 12 = .ok (.ireturn, 1) := by decide +kernel
theorem dX8_isTask_0 : decode cX8_isTask 0 = .ok (.aload_n 0, 1) := by decide +kernel
theorem dX8_isTask_1 : decode cX8_isTask 1 = .ok (.iload_n 1, 1) := by decide +kernel
theorem dX8_isTask_2 : decode cX8_isTask 2 = .ok (.iconst 0, 1) := by decide +kernel
theorem dX8_isTask_3 : decode cX8_isTask 3 = .ok (.aload_n 0, 1) := by decide +kernel
theorem dX8_isTask_4 : decode cX8_isTask 4 = .ok (.getfield 104, 3) := by decide +kernel
theorem dX8_isTask_7 : decode cX8_isTask 7 = .ok (.iconst 1, 1) := by decide +kernel
theorem dX8_isTask_8 : decode cX8_isTask 8 = .ok (.isub, 1) := by decide +kernel
theorem dX8_isTask_9 : decode cX8_isTask 9 = .ok (.invokevirtual 94, 3) := by decide +kernel
theorem dX8_isTask_12 : decode cX8_isTask 12 = .ok (.ireturn, 1) := by decide +kernel
theorem dX8_isRanger_0 : decode cX8_isRanger 0 = .ok (.aload_n 0, 1) := by decide +kernel
theorem dX8_isRanger_1 : decode cX8_isRanger 1 = .ok (.iload_n 1, 1) := by decide +kernel
theorem dX8_isRanger_2 : decode cX8_isRanger 2 = .ok (.iconst 0, 1) := by decide +kernel
theorem dX8_isRanger_3 : decode cX8_isRanger 3 = .ok (.aload_n 0, 1) := by decide +kernel
theorem dX8_isRanger_4 : decode cX8_isRanger 4 = .ok (.getfield 107, 3) := by decide +kernel
theorem dX8_isRanger_7 : decode cX8_isRanger 7 = .ok (.iconst 1, 1) := by decide +kernel
theorem dX8_isRanger_8 : decode cX8_isRanger 8 = .ok (.isub, 1) := by decide +kernel
theorem dX8_isRanger_9 : decode cX8_isRanger 9 = .ok (.invokevirtual 94, 3) := by decide +kernel
theorem dX8_isRanger_12 : decode cX8_isRanger 12 = .ok (.ireturn, 1) := by decide +kernel
theorem dX8_addFork_0 : decode cX8_addFork 0 = .ok (.aload_n 0, 1) := by decide +kernel
theorem dX8_addFork_1 : decode cX8_addFork 1 = .ok (.getfield 91, 3) := by decide +kernel
theorem dX8_addFork_4 : decode cX8_addFork 4 = .ok (.bipush 16, 2) := by decide +kernel
theorem dX8_addFork_6 : decode cX8_addFork 6 = .ok (.if_icmp .ne 9, 3) := by decide +kernel
theorem dX8_addFork_9 : decode cX8_addFork 9 = .ok (.aload_n 0, 1) := by decide +kernel
theorem dX8_addFork_10 : decode cX8_addFork 10 = .ok (.iconst 1, 1) := by decide +kernel
theorem dX8_addFork_11 : decode cX8_addFork 11 = .ok (.invokevirtual 110, 3) := by decide +kernel
theorem dX8_addFork_14 : decode cX8_addFork 14 = .ok (.ireturn, 1) := by decide +kernel
theorem dX8_addFork_15 : decode cX8_addFork 15 = .ok (.aload_n 0, 1) := by decide +kernel
theorem dX8_addFork_16 : decode cX8_addFork 16 = .ok (.getfield 13, 3) := by decide +kernel
theorem dX8_addFork_19 : decode cX8_addFork 19 = .ok (.aload_n 0, 1) := by decide +kernel
theorem dX8_addFork_20 : decode cX8_addFork 20 = .ok (.getfield 91, 3) := by decide +kernel
theorem dX8_addFork_23 : decode cX8_addFork 23 = .ok (.iload_n 1, 1) := by decide +kernel
theorem dX8_addFork_24 : decode cX8_addFork 24 = .ok (.bastore, 1) := by decide +kernel
theorem dX8_addFork_25 : decode cX8_addFork 25 = .ok (.aload_n 0, 1) := by decide +kernel
theorem dX8_addFork_26 : decode cX8_addFork 26 = .ok (.dup, 1) := by decide +kernel
theorem dX8_addFork_27 : decode cX8_addFork 27 = .ok (.getfield 91, 3) := by decide +kernel
theorem dX8_addFork_30 : decode cX8_addFork 30 = .ok (.iconst 1, 1) := by decide +kernel
theorem dX8_addFork_31 : decode cX8_addFork 31 = .ok (.iadd, 1) := by decide +kernel
theorem dX8_addFork_32 : decode cX8_addFork 32 = .ok (.putfield 91, 3) := by decide +kernel
theorem dX8_addFork_35 : decode cX8_addFork 35 = .ok (.aload_n 0, 1) := by decide +kernel
theorem dX8_addFork_36 : decode cX8_addFork 36 = .ok (.aload_n 0, 1) := by decide +kernel
theorem dX8_addFork_37 : decode cX8_addFork 37 = .ok (.getfield 91, 3) := by decide +kernel
theorem dX8_addFork_40 : decode cX8_addFork 40 = .ok (.iconst 1, 1) := by decide +kernel
theorem dX8_addFork_41 : decode cX8_addFork 41 = .ok (.isub, 1) := by decide +kernel
theorem dX8_addFork_42 : decode cX8_addFork 42 = .ok (.invokevirtual 114, 3) := by decide +kernel
theorem dX8_addFork_45 : decode cX8_addFork 45 = .ok (.ireturn, 1) := by decide +kernel
theorem dX8_addTrail_0 : decode cX8_addTrail 0 = .ok (.aload_n 0, 1) := by decide +kernel
theorem dX8_addTrail_1 : decode cX8_addTrail 1 = .ok (.iload_n 1, 1) := by decide +kernel
theorem dX8_addTrail_2 : decode cX8_addTrail 2 = .ok (.invokevirtual 117, 3) := by decide +kernel
theorem dX8_addTrail_5 : decode cX8_addTrail 5 = .ok (.ifCond .eq 11, 3) := by decide +kernel
theorem dX8_addTrail_8 : decode cX8_addTrail 8 = .ok (.aload_n 0, 1) := by decide +kernel
theorem dX8_addTrail_9 : decode cX8_addTrail 9 = .ok (.iload_n 2, 1) := by decide +kernel
theorem dX8_addTrail_10 : decode cX8_addTrail 10 = .ok (.invokevirtual 117, 3) := by decide +kernel
theorem dX8_addTrail_13 : decode cX8_addTrail 13 = .ok (.ifCond .ne 9, 3) := by decide +kernel
theorem dX8_addTrail_16 : decode cX8_addTrail 16 = .ok (.aload_n 0, 1) := by decide +kernel
theorem dX8_addTrail_17 : decode cX8_addTrail 17 = .ok (.iconst 1, 1) := by decide +kernel
theorem dX8_addTrail_18 : decode cX8_addTrail 18 = .ok (.invokevirtual 110, 3) := by decide +kernel
theorem dX8_addTrail_21 : decode cX8_addTrail 21 = .ok (.ireturn, 1) := by decide +kernel
theorem dX8_addTrail_22 : decode cX8_addTrail 22 = .ok (.iload_n 1, 1) := by decide +kernel
theorem dX8_addTrail_23 : decode cX8_addTrail 23 = .ok (.iload_n 2, 1) := by decide +kernel
theorem dX8_addTrail_24 : decode cX8_addTrail 24 = .ok (.if_icmp .eq 28, 3) := by decide +kernel
theorem dX8_addTrail_27 : decode cX8_addTrail 27 = .ok (.aload_n 0, 1) := by decide +kernel
theorem dX8_addTrail_28 : decode cX8_addTrail 28 = .ok (.iload_n 3, 1) := by decide +kernel
theorem dX8_addTrail_29 : decode cX8_addTrail 29 = .ok (.iconst 1, 1) := by decide +kernel
theorem dX8_addTrail_30 : decode cX8_addTrail 30 = .ok (.sipush 300, 3) := by decide +kernel
theorem dX8_addTrail_33 : decode cX8_addTrail 33 = .ok (.invokevirtual 94, 3) := by decide +kernel
theorem dX8_addTrail_36 : decode cX8_addTrail 36 = .ok (.ifCond .eq 16, 3) := by decide +kernel
theorem dX8_addTrail_39 : decode cX8_addTrail 39 = .ok (.aload_n 0, 1) := by decide +kernel
theorem dX8_addTrail_40 : decode cX8_addTrail 40 = .ok (.iload 4, 2) := by decide +kernel
theorem dX8_addTrail_42 : decode cX8_addTrail 42 = .ok (.iconst 1, 1) := by decide +kernel
theorem dX8_addTrail_43 : decode cX8_addTrail 43 = .ok (.sipush 300, 3) := by decide +kernel
theorem dX8_addTrail_46 : decode cX8_addTrail 46 = .ok (.invokevirtual 94, 3) := by decide +kernel
theorem dX8_addTrail_49 : decode cX8_addTrail 49 = .ok (.ifCond .ne 9, 3) := by decide +kernel
theorem dX8_addTrail_52 : decode cX8_addTrail 52 = .ok (.aload_n 0, 1) := by decide +kernel
theorem dX8_addTrail_53 : decode cX8_addTrail 53 = .ok (.iconst 2, 1) := by decide +kernel
theorem dX8_addTrail_54 : decode cX8_addTrail 54 = .ok (.invokevirtual 110, 3) := by decide +kernel
theorem dX8_addTrail_57 : decode cX8_addTrail 57 = .ok (.ireturn, 1) := by decide +kernel
theorem dX8_addTrail_58 : decode cX8_addTrail 58 = .ok (.aload_n 0, 1) := by decide +kernel
theorem dX8_addTrail_59 : decode cX8_addTrail 59 = .ok (.getfield 98, 3) := by decide +kernel
theorem dX8_addTrail_62 : decode cX8_addTrail 62 = .ok (.bipush 24, 2) := by decide +kernel
theorem dX8_addTrail_64 : decode cX8_addTrail 64 = .ok (.if_icmp .ne 9, 3) := by decide +kernel
theorem dX8_addTrail_67 : decode cX8_addTrail 67 = .ok (.aload_n 0, 1) := by decide +kernel
theorem dX8_addTrail_68 : decode cX8_addTrail 68 = .ok (.iconst 3, 1) := by decide +kernel
theorem dX8_addTrail_69 : decode cX8_addTrail 69 = .ok (.invokevirtual 110, 3) := by decide +kernel
theorem dX8_addTrail_72 : decode cX8_addTrail 72 = .ok (.ireturn, 1) := by decide +kernel
theorem dX8_addTrail_73 : decode cX8_addTrail 73 = .ok (.aload_n 0, 1) := by decide +kernel
theorem dX8_addTrail_74 : decode cX8_addTrail 74 = .ok (.getfield 17, 3) := by decide +kernel
theorem dX8_addTrail_77 : decode cX8_addTrail 77 = .ok (.aload_n 0, 1) := by decide +kernel
theorem dX8_addTrail_78 : decode cX8_addTrail 78 = .ok (.getfield 98, 3) := by decide +kernel
theorem dX8_addTrail_81 : decode cX8_addTrail 81 = .ok (.iload_n 1, 1) := by decide +kernel
theorem dX8_addTrail_82 : decode cX8_addTrail 82 = .ok (.iastore, 1) := by decide +kernel
theorem dX8_addTrail_83 : decode cX8_addTrail 83 = .ok (.aload_n 0, 1) := by decide +kernel
theorem dX8_addTrail_84 : decode cX8_addTrail 84 = .ok (.getfield 21, 3) := by decide +kernel
theorem dX8_addTrail_87 : decode cX8_addTrail 87 = .ok (.aload_n 0, 1) := by decide +kernel
theorem dX8_addTrail_88 : decode cX8_addTrail 88 = .ok (.getfield 98, 3) := by decide +kernel
theorem dX8_addTrail_91 : decode cX8_addTrail 91 = .ok (.iload_n 2, 1) := by decide +kernel
theorem dX8_addTrail_92 : decode cX8_addTrail 92 = .ok (.iastore, 1) := by decide +kernel
theorem dX8_addTrail_93 : decode cX8_addTrail 93 = .ok (.aload_n 0, 1) := by decide +kernel
theorem dX8_addTrail_94 : decode cX8_addTrail 94 = .ok (.getfield 24, 3) := by decide +kernel
theorem dX8_addTrail_97 : decode cX8_addTrail 97 = .ok (.aload_n 0, 1) := by decide +kernel
theorem dX8_addTrail_98 : decode cX8_addTrail 98 = .ok (.getfield 98, 3) := by decide +kernel
theorem dX8_addTrail_101 : decode cX8_addTrail 101 = .ok (.iload_n 3, 1) := by decide +kernel
theorem dX8_addTrail_102 : decode cX8_addTrail 102 = .ok (.iastore, 1) := by decide +kernel
theorem dX8_addTrail_103 : decode cX8_addTrail 103 = .ok (.aload_n 0, 1) := by decide +kernel
theorem dX8_addTrail_104 : decode cX8_addTrail 104 = .ok (.getfield 27, 3) := by decide +kernel
theorem dX8_addTrail_107 : decode cX8_addTrail 107 = .ok (.aload_n 0, 1) := by decide +kernel
theorem dX8_addTrail_108 : decode cX8_addTrail 108 = .ok (.getfield 98, 3) := by decide +kernel
theorem dX8_addTrail_111 : decode cX8_addTrail 111 = .ok (.iload 4, 2) := by decide +kernel
theorem dX8_addTrail_113 : decode cX8_addTrail 113 = .ok (.iastore, 1) := by decide +kernel
theorem dX8_addTrail_114 : decode cX8_addTrail 114 = .ok (.aload_n 0, 1) := by decide +kernel
theorem dX8_addTrail_115 : decode cX8_addTrail 115 = .ok (.dup, 1) := by decide +kernel
theorem dX8_addTrail_116 : decode cX8_addTrail 116 = .ok (.getfield 98, 3) := by decide +kernel
theorem dX8_addTrail_119 : decode cX8_addTrail 119 = .ok (.iconst 1, 1) := by decide +kernel
theorem dX8_addTrail_120 : decode cX8_addTrail 120 = .ok (.iadd, 1) := by decide +kernel
theorem dX8_addTrail_121 : decode cX8_addTrail 121 = .ok (.putfield 98, 3) := by decide +kernel
theorem dX8_addTrail_124 : decode cX8_addTrail 124 = .ok (.aload_n 0, 1) := by decide +kernel
theorem dX8_addTrail_125 : decode cX8_addTrail 125 = .ok (.aload_n 0, 1) := by decide +kernel
theorem dX8_addTrail_126 : decode cX8_addTrail 126 = .ok (.getfield 98, 3) := by decide +kernel
theorem dX8_addTrail_129 : decode cX8_addTrail 129 = .ok (.iconst 1, 1) := by decide +kernel
theorem dX8_addTrail_130 : decode cX8_addTrail 130 = .ok (.isub, 1) := by decide +kernel
theorem dX8_addTrail_131 : decode cX8_addTrail 131 = .ok (.invokevirtual 114, 3) := by decide +kernel
theorem dX8_addTrail_134 : decode cX8_addTrail 134 = .ok (.ireturn, 1) := by decide +kernel
theorem dX8_washOut_0 : decode cX8_washOut 0 = .ok (.aload_n 0, 1) := by decide +kernel
theorem dX8_washOut_1 : decode cX8_washOut 1 = .ok (.aload_n 0, 1) := by decide +kernel
theorem dX8_washOut_2 : decode cX8_washOut 2 = .ok (.iload_n 1, 1) := by decide +kernel
theorem dX8_washOut_3 : decode cX8_washOut 3 = .ok (.invokevirtual 121, 3) := by decide +kernel
theorem dX8_washOut_6 : decode cX8_washOut 6 = .ok (.ifCond .eq 7, 3) := by decide +kernel
theorem dX8_washOut_9 : decode cX8_washOut 9 = .ok (.iconst 0, 1) := by decide +kernel
theorem dX8_washOut_10 : decode cX8_washOut 10 = .ok (.goto 4, 3) := by decide +kernel
theorem dX8_washOut_13 : decode cX8_washOut 13 = .ok (.iconst 1, 1) := by decide +kernel
theorem dX8_washOut_14 : decode cX8_washOut 14 = .ok (.putfield 88, 3) := by decide +kernel
theorem dX8_washOut_17 : decode cX8_washOut 17 = .ok (.aload_n 0, 1) := by decide +kernel
theorem dX8_washOut_18 : decode cX8_washOut 18 = .ok (.getfield 88, 3) := by decide +kernel
theorem dX8_washOut_21 : decode cX8_washOut 21 = .ok (.ifCond .le 5, 3) := by decide +kernel
theorem dX8_washOut_24 : decode cX8_washOut 24 = .ok (.iconst 0, 1) := by decide +kernel
theorem dX8_washOut_25 : decode cX8_washOut 25 = .ok (.ireturn, 1) := by decide +kernel
theorem dX8_washOut_26 : decode cX8_washOut 26 = .ok (.aload_n 0, 1) := by decide +kernel
theorem dX8_washOut_27 : decode cX8_washOut 27 = .ok (.getfield 30, 3) := by decide +kernel
theorem dX8_washOut_30 : decode cX8_washOut 30 = .ok (.iload_n 1, 1) := by decide +kernel
theorem dX8_washOut_31 : decode cX8_washOut 31 = .ok (.baload, 1) := by decide +kernel
theorem dX8_washOut_32 : decode cX8_washOut 32 = .ok (.ifCond .ne 7, 3) := by decide +kernel
theorem dX8_washOut_35 : decode cX8_washOut 35 = .ok (.iconst 1, 1) := by decide +kernel
theorem dX8_washOut_36 : decode cX8_washOut 36 = .ok (.goto 4, 3) := by decide +kernel
theorem dX8_washOut_39 : decode cX8_washOut 39 = .ok (.iconst 0, 1) := by decide +kernel
theorem dX8_washOut_40 : decode cX8_washOut 40 = .ok (.istore_n 2, 1) := by decide +kernel
theorem dX8_washOut_41 : decode cX8_washOut 41 = .ok (.aload_n 0, 1) := by decide +kernel
theorem dX8_washOut_42 : decode cX8_washOut 42 = .ok (.getfield 30, 3) := by decide +kernel
theorem dX8_washOut_45 : decode cX8_washOut 45 = .ok (.iload_n 1, 1) := by decide +kernel
theorem dX8_washOut_46 : decode cX8_washOut 46 = .ok (.iconst 1, 1) := by decide +kernel
theorem dX8_washOut_47 : decode cX8_washOut 47 = .ok (.bastore, 1) := by decide +kernel
theorem dX8_washOut_48 : decode cX8_washOut 48 = .ok (.iload_n 2, 1) := by decide +kernel
theorem dX8_washOut_49 : decode cX8_washOut 49 = .ok (.ireturn, 1) := by decide +kernel
theorem dX8_isShut_0 : decode cX8_isShut 0 = .ok (.iload_n 2, 1) := by decide +kernel
theorem dX8_isShut_1 : decode cX8_isShut 1 = .ok (.ifCond .eq 12, 3) := by decide +kernel
theorem dX8_isShut_4 : decode cX8_isShut 4 = .ok (.aload_n 0, 1) := by decide +kernel
theorem dX8_isShut_5 : decode cX8_isShut 5 = .ok (.getfield 30, 3) := by decide +kernel
theorem dX8_isShut_8 : decode cX8_isShut 8 = .ok (.iload_n 1, 1) := by decide +kernel
theorem dX8_isShut_9 : decode cX8_isShut 9 = .ok (.baload, 1) := by decide +kernel
theorem dX8_isShut_10 : decode cX8_isShut 10 = .ok (.goto 9, 3) := by decide +kernel
theorem dX8_isShut_13 : decode cX8_isShut 13 = .ok (.aload_n 0, 1) := by decide +kernel
theorem dX8_isShut_14 : decode cX8_isShut 14 = .ok (.getfield 33, 3) := by decide +kernel
theorem dX8_isShut_17 : decode cX8_isShut 17 = .ok (.iload_n 1, 1) := by decide +kernel
theorem dX8_isShut_18 : decode cX8_isShut 18 = .ok (.baload, 1) := by decide +kernel
theorem dX8_isShut_19 : decode cX8_isShut 19 = .ok (.ireturn, 1) := by decide +kernel
theorem dX8_isGone_0 : decode cX8_isGone 0 = .ok (.aload_n 0, 1) := by decide +kernel
theorem dX8_isGone_1 : decode cX8_isGone 1 = .ok (.aload_n 0, 1) := by decide +kernel
theorem dX8_isGone_2 : decode cX8_isGone 2 = .ok (.iload_n 1, 1) := by decide +kernel
theorem dX8_isGone_3 : decode cX8_isGone 3 = .ok (.invokevirtual 121, 3) := by decide +kernel
theorem dX8_isGone_6 : decode cX8_isGone 6 = .ok (.ifCond .eq 7, 3) := by decide +kernel
theorem dX8_isGone_9 : decode cX8_isGone 9 = .ok (.iconst 0, 1) := by decide +kernel
theorem dX8_isGone_10 : decode cX8_isGone 10 = .ok (.goto 4, 3) := by decide +kernel
theorem dX8_isGone_13 : decode cX8_isGone 13 = .ok (.iconst 1, 1) := by decide +kernel
theorem dX8_isGone_14 : decode cX8_isGone 14 = .ok (.putfield 88, 3) := by decide +kernel
theorem dX8_isGone_17 : decode cX8_isGone 17 = .ok (.aload_n 0, 1) := by decide +kernel
theorem dX8_isGone_18 : decode cX8_isGone 18 = .ok (.getfield 88, 3) := by decide +kernel
theorem dX8_isGone_21 : decode cX8_isGone 21 = .ok (.ifCond .ne 16, 3) := by decide +kernel
theorem dX8_isGone_24 : decode cX8_isGone 24 = .ok (.aload_n 0, 1) := by decide +kernel
theorem dX8_isGone_25 : decode cX8_isGone 25 = .ok (.iload_n 1, 1) := by decide +kernel
theorem dX8_isGone_26 : decode cX8_isGone 26 = .ok (.iload_n 2, 1) := by decide +kernel
theorem dX8_isGone_27 : decode cX8_isGone 27 = .ok (.invokevirtual 124, 3) := by decide +kernel
theorem dX8_isGone_30 : decode cX8_isGone 30 = .ok (.ifCond .eq 7, 3) := by decide +kernel
theorem dX8_isGone_33 : decode cX8_isGone 33 = .ok (.iconst 1, 1) := by decide +kernel
theorem dX8_isGone_34 : decode cX8_isGone 34 = .ok (.goto 4, 3) := by decide +kernel
theorem dX8_isGone_37 : decode cX8_isGone 37 = .ok (.iconst 0, 1) := by decide +kernel
theorem dX8_isGone_38 : decode cX8_isGone 38 = .ok (.ireturn, 1) := by decide +kernel
theorem dX8_of_0 : decode cX8_of 0 = .ok (.aload_n 0, 1) := by decide +kernel
theorem dX8_of_1 : decode cX8_of 1 = .ok (.getfield 17, 3) := by decide +kernel
theorem dX8_of_4 : decode cX8_of 4 = .ok (.iload_n 1, 1) := by decide +kernel
theorem dX8_of_5 : decode cX8_of 5 = .ok (.iaload, 1) := by decide +kernel
theorem dX8_of_6 : decode cX8_of 6 = .ok (.iload_n 2, 1) := by decide +kernel
theorem dX8_of_7 : decode cX8_of 7 = .ok (.if_icmp .ne 12, 3) := by decide +kernel
theorem dX8_of_10 : decode cX8_of 10 = .ok (.aload_n 0, 1) := by decide +kernel
theorem dX8_of_11 : decode cX8_of 11 = .ok (.getfield 24, 3) := by decide +kernel
theorem dX8_of_14 : decode cX8_of 14 = .ok (.iload_n 1, 1) := by decide +kernel
theorem dX8_of_15 : decode cX8_of 15 = .ok (.iaload, 1) := by decide +kernel
theorem dX8_of_16 : decode cX8_of 16 = .ok (.goto 9, 3) := by decide +kernel
theorem dX8_of_19 : decode cX8_of 19 = .ok (.aload_n 0, 1) := by decide +kernel
theorem dX8_of_20 : decode cX8_of 20 = .ok (.getfield 27, 3) := by decide +kernel
theorem dX8_of_23 : decode cX8_of 23 = .ok (.iload_n 1, 1) := by decide +kernel
theorem dX8_of_24 : decode cX8_of 24 = .ok (.iaload, 1) := by decide +kernel
theorem dX8_of_25 : decode cX8_of 25 = .ok (.ireturn, 1) := by decide +kernel
theorem dX8_other_0 : decode cX8_other 0 = .ok (.aload_n 0, 1) := by decide +kernel
theorem dX8_other_1 : decode cX8_other 1 = .ok (.getfield 17, 3) := by decide +kernel
theorem dX8_other_4 : decode cX8_other 4 = .ok (.iload_n 1, 1) := by decide +kernel
theorem dX8_other_5 : decode cX8_other 5 = .ok (.iaload, 1) := by decide +kernel
theorem dX8_other_6 : decode cX8_other 6 = .ok (.iload_n 2, 1) := by decide +kernel
theorem dX8_other_7 : decode cX8_other 7 = .ok (.if_icmp .ne 12, 3) := by decide +kernel
theorem dX8_other_10 : decode cX8_other 10 = .ok (.aload_n 0, 1) := by decide +kernel
theorem dX8_other_11 : decode cX8_other 11 = .ok (.getfield 21, 3) := by decide +kernel
theorem dX8_other_14 : decode cX8_other 14 = .ok (.iload_n 1, 1) := by decide +kernel
theorem dX8_other_15 : decode cX8_other 15 = .ok (.iaload, 1) := by decide +kernel
theorem dX8_other_16 : decode cX8_other 16 = .ok (.goto 9, 3) := by decide +kernel
theorem dX8_other_19 : decode cX8_other 19 = .ok (.aload_n 0, 1) := by decide +kernel
theorem dX8_other_20 : decode cX8_other 20 = .ok (.getfield 17, 3) := by decide +kernel
theorem dX8_other_23 : decode cX8_other 23 = .ok (.iload_n 1, 1) := by decide +kernel
theorem dX8_other_24 : decode cX8_other 24 = .ok (.iaload, 1) := by decide +kernel
theorem dX8_other_25 : decode cX8_other 25 = .ok (.ireturn, 1) := by decide +kernel
theorem dX8_reckons_0 : decode cX8_reckons 0 = .ok (.iconst 0, 1) := by decide +kernel
theorem dX8_reckons_1 : decode cX8_reckons 1 = .ok (.istore_n 3, 1) := by decide +kernel
theorem dX8_reckons_2 : decode cX8_reckons 2 = .ok (.iload_n 3, 1) := by decide +kernel
theorem dX8_reckons_3 : decode cX8_reckons 3 = .ok (.aload_n 0, 1) := by decide +kernel
theorem dX8_reckons_4 : decode cX8_reckons 4 = .ok (.getfield 91, 3) := by decide +kernel
theorem dX8_reckons_7 : decode cX8_reckons 7 = .ok (.if_icmp .ge 26, 3) := by decide +kernel
theorem dX8_reckons_10 : decode cX8_reckons 10 = .ok (.aload_n 0, 1) := by decide +kernel
theorem dX8_reckons_11 : decode cX8_reckons 11 = .ok (.getfield 85, 3) := by decide +kernel
theorem dX8_reckons_14 : decode cX8_reckons 14 = .ok (.iload_n 3, 1) := by decide +kernel
theorem dX8_reckons_15 : decode cX8_reckons 15 = .ok (.iload_n 3, 1) := by decide +kernel
theorem dX8_reckons_16 : decode cX8_reckons 16 = .ok (.iload_n 1, 1) := by decide +kernel
theorem dX8_reckons_17 : decode cX8_reckons 17 = .ok (.if_icmp .ne 7, 3) := by decide +kernel
theorem dX8_reckons_20 : decode cX8_reckons 20 = .ok (.iconst 0, 1) := by decide +kernel
theorem dX8_reckons_21 : decode cX8_reckons 21 = .ok (.goto 5, 3) := by decide +kernel
theorem dX8_reckons_24 : decode cX8_reckons 24 = .ok (.ldc 128, 2) := by decide +kernel
theorem dX8_reckons_26 : decode cX8_reckons 26 = .ok (.iastore, 1) := by decide +kernel
theorem dX8_reckons_27 : decode cX8_reckons 27 = .ok (.iinc 3 1, 3) := by decide +kernel
theorem dX8_reckons_30 : decode cX8_reckons 30 = .ok (.goto (-28), 3) := by decide +kernel
theorem dX8_reckons_33 : decode cX8_reckons 33 = .ok (.iconst 0, 1) := by decide +kernel
theorem dX8_reckons_34 : decode cX8_reckons 34 = .ok (.istore_n 3, 1) := by decide +kernel
theorem dX8_reckons_35 : decode cX8_reckons 35 = .ok (.iload_n 3, 1) := by decide +kernel
theorem dX8_reckons_36 : decode cX8_reckons 36 = .ok (.aload_n 0, 1) := by decide +kernel
theorem dX8_reckons_37 : decode cX8_reckons 37 = .ok (.getfield 91, 3) := by decide +kernel
theorem dX8_reckons_40 : decode cX8_reckons 40 = .ok (.if_icmp .ge 136, 3) := by decide +kernel
theorem dX8_reckons_43 : decode cX8_reckons 43 = .ok (.iconst 0, 1) := by decide +kernel
theorem dX8_reckons_44 : decode cX8_reckons 44 = .ok (.istore 4, 2) := by decide +kernel
theorem dX8_reckons_46 : decode cX8_reckons 46 = .ok (.iload 4, 2) := by decide +kernel
theorem dX8_reckons_48 : decode cX8_reckons 48 = .ok (.aload_n 0, 1) := by decide +kernel
theorem dX8_reckons_49 : decode cX8_reckons 49 = .ok (.getfield 98, 3) := by decide +kernel
theorem dX8_reckons_52 : decode cX8_reckons 52 = .ok (.if_icmp .ge 118, 3) := by decide +kernel
theorem dX8_reckons_55 : decode cX8_reckons 55 = .ok (.aload_n 0, 1) := by decide +kernel
theorem dX8_reckons_56 : decode cX8_reckons 56 = .ok (.iload 4, 2) := by decide +kernel
theorem dX8_reckons_58 : decode cX8_reckons 58 = .ok (.iload_n 2, 1) := by decide +kernel
theorem dX8_reckons_59 : decode cX8_reckons 59 = .ok (.invokevirtual 124, 3) := by decide +kernel
theorem dX8_reckons_62 : decode cX8_reckons 62 = .ok (.ifCond .eq 6, 3) := by decide +kernel
theorem dX8_reckons_65 : decode cX8_reckons 65 = .ok (.goto 99, 3) := by decide +kernel
theorem dX8_reckons_68 : decode cX8_reckons 68 = .ok (.aload_n 0, 1) := by decide +kernel
theorem dX8_reckons_69 : decode cX8_reckons 69 = .ok (.getfield 85, 3) := by decide +kernel
theorem dX8_reckons_72 : decode cX8_reckons 72 = .ok (.aload_n 0, 1) := by decide +kernel
theorem dX8_reckons_73 : decode cX8_reckons 73 = .ok (.getfield 17, 3) := by decide +kernel
theorem dX8_reckons_76 : decode cX8_reckons 76 = .ok (.iload 4, 2) := by decide +kernel
theorem dX8_reckons_78 : decode cX8_reckons 78 = .ok (.iaload, 1) := by decide +kernel
theorem dX8_reckons_79 : decode cX8_reckons 79 = .ok (.aload_n 0, 1) := by decide +kernel
theorem dX8_reckons_80 : decode cX8_reckons 80 = .ok (.aload_n 0, 1) := by decide +kernel
theorem dX8_reckons_81 : decode cX8_reckons 81 = .ok (.getfield 85, 3) := by decide +kernel
theorem dX8_reckons_84 : decode cX8_reckons 84 = .ok (.aload_n 0, 1) := by decide +kernel
theorem dX8_reckons_85 : decode cX8_reckons 85 = .ok (.getfield 17, 3) := by decide +kernel
theorem dX8_reckons_88 : decode cX8_reckons 88 = .ok (.iload 4, 2) := by decide +kernel
theorem dX8_reckons_90 : decode cX8_reckons 90 = .ok (.iaload, 1) := by decide +kernel
theorem dX8_reckons_91 : decode cX8_reckons 91 = .ok (.iaload, 1) := by decide +kernel
theorem dX8_reckons_92 : decode cX8_reckons 92 = .ok (.aload_n 0, 1) := by decide +kernel
theorem dX8_reckons_93 : decode cX8_reckons 93 = .ok (.getfield 24, 3) := by decide +kernel
theorem dX8_reckons_96 : decode cX8_reckons 96 = .ok (.iload 4, 2) := by decide +kernel
theorem dX8_reckons_98 : decode cX8_reckons 98 = .ok (.iaload, 1) := by decide +kernel
theorem dX8_reckons_99 : decode cX8_reckons 99 = .ok (.aload_n 0, 1) := by decide +kernel
theorem dX8_reckons_100 : decode cX8_reckons 100 = .ok (.getfield 85, 3) := by decide +kernel
theorem dX8_reckons_103 : decode cX8_reckons 103 = .ok (.aload_n 0, 1) := by decide +kernel
theorem dX8_reckons_104 : decode cX8_reckons 104 = .ok (.getfield 21, 3) := by decide +kernel
theorem dX8_reckons_107 : decode cX8_reckons 107 = .ok (.iload 4, 2) := by decide +kernel
theorem dX8_reckons_109 : decode cX8_reckons 109 = .ok (.iaload, 1) := by decide +kernel
theorem dX8_reckons_110 : decode cX8_reckons 110 = .ok (.iaload, 1) := by decide +kernel
theorem dX8_reckons_111 : decode cX8_reckons 111 = .ok (.iadd, 1) := by decide +kernel
theorem dX8_reckons_112 : decode cX8_reckons 112 = .ok (.invokevirtual 129, 3) := by decide +kernel
theorem dX8_reckons_115 : decode cX8_reckons 115 = .ok (.iastore, 1) := by decide +kernel
theorem dX8_reckons_116 : decode cX8_reckons 116 = .ok (.aload_n 0, 1) := by decide +kernel
theorem dX8_reckons_117 : decode cX8_reckons 117 = .ok (.getfield 85, 3) := by decide +kernel
theorem dX8_reckons_120 : decode cX8_reckons 120 = .ok (.aload_n 0, 1) := by decide +kernel
theorem dX8_reckons_121 : decode cX8_reckons 121 = .ok (.getfield 21, 3) := by decide +kernel
theorem dX8_reckons_124 : decode cX8_reckons 124 = .ok (.iload 4, 2) := by decide +kernel
theorem dX8_reckons_126 : decode cX8_reckons 126 = .ok (.iaload, 1) := by decide +kernel
theorem dX8_reckons_127 : decode cX8_reckons 127 = .ok (.aload_n 0, 1) := by decide +kernel
theorem dX8_reckons_128 : decode cX8_reckons 128 = .ok (.aload_n 0, 1) := by decide +kernel
theorem dX8_reckons_129 : decode cX8_reckons 129 = .ok (.getfield 85, 3) := by decide +kernel
theorem dX8_reckons_132 : decode cX8_reckons 132 = .ok (.aload_n 0, 1) := by decide +kernel
theorem dX8_reckons_133 : decode cX8_reckons 133 = .ok (.getfield 21, 3) := by decide +kernel
theorem dX8_reckons_136 : decode cX8_reckons 136 = .ok (.iload 4, 2) := by decide +kernel
theorem dX8_reckons_138 : decode cX8_reckons 138 = .ok (.iaload, 1) := by decide +kernel
theorem dX8_reckons_139 : decode cX8_reckons 139 = .ok (.iaload, 1) := by decide +kernel
theorem dX8_reckons_140 : decode cX8_reckons 140 = .ok (.aload_n 0, 1) := by decide +kernel
theorem dX8_reckons_141 : decode cX8_reckons 141 = .ok (.getfield 27, 3) := by decide +kernel
theorem dX8_reckons_144 : decode cX8_reckons 144 = .ok (.iload 4, 2) := by decide +kernel
theorem dX8_reckons_146 : decode cX8_reckons 146 = .ok (.iaload, 1) := by decide +kernel
theorem dX8_reckons_147 : decode cX8_reckons 147 = .ok (.aload_n 0, 1) := by decide +kernel
theorem dX8_reckons_148 : decode cX8_reckons 148 = .ok (.getfield 85, 3) := by decide +kernel
theorem dX8_reckons_151 : decode cX8_reckons 151 = .ok (.aload_n 0, 1) := by decide +kernel
theorem dX8_reckons_152 : decode cX8_reckons 152 = .ok (.getfield 17, 3) := by decide +kernel
theorem dX8_reckons_155 : decode cX8_reckons 155 = .ok (.iload 4, 2) := by decide +kernel
theorem dX8_reckons_157 : decode cX8_reckons 157 = .ok (.iaload, 1) := by decide +kernel
theorem dX8_reckons_158 : decode cX8_reckons 158 = .ok (.iaload, 1) := by decide +kernel
theorem dX8_reckons_159 : decode cX8_reckons 159 = .ok (.iadd, 1) := by decide +kernel
theorem dX8_reckons_160 : decode cX8_reckons 160 = .ok (.invokevirtual 129, 3) := by decide +kernel
theorem dX8_reckons_163 : decode cX8_reckons 163 = .ok (.iastore, 1) := by decide +kernel
theorem dX8_reckons_164 : decode cX8_reckons 164 = .ok (.iinc 4 1, 3) := by decide +kernel
theorem dX8_reckons_167 : decode cX8_reckons 167 = .ok (.goto (-121), 3) := by decide +kernel
theorem dX8_reckons_170 : decode cX8_reckons 170 = .ok (.iinc 3 1, 3) := by decide +kernel
theorem dX8_reckons_173 : decode cX8_reckons 173 = .ok (.goto (-138), 3) := by decide +kernel
theorem dX8_reckons_176 : decode cX8_reckons 176 = .ok (.return_, 1) := by decide +kernel
theorem dX8_way_0 : decode cX8_way 0 = .ok (.aload_n 0, 1) := by decide +kernel
theorem dX8_way_1 : decode cX8_way 1 = .ok (.iload_n 2, 1) := by decide +kernel
theorem dX8_way_2 : decode cX8_way 2 = .ok (.iload_n 3, 1) := by decide +kernel
theorem dX8_way_3 : decode cX8_way 3 = .ok (.invokevirtual 133, 3) := by decide +kernel
theorem dX8_way_6 : decode cX8_way 6 = .ok (.aload_n 0, 1) := by decide +kernel
theorem dX8_way_7 : decode cX8_way 7 = .ok (.getfield 85, 3) := by decide +kernel
theorem dX8_way_10 : decode cX8_way 10 = .ok (.iload_n 1, 1) := by decide +kernel
theorem dX8_way_11 : decode cX8_way 11 = .ok (.iaload, 1) := by decide +kernel
theorem dX8_way_12 : decode cX8_way 12 = .ok (.ireturn, 1) := by decide +kernel
theorem dX8_next_0 : decode cX8_next 0 = .ok (.aload_n 0, 1) := by decide +kernel
theorem dX8_next_1 : decode cX8_next 1 = .ok (.iload_n 2, 1) := by decide +kernel
theorem dX8_next_2 : decode cX8_next 2 = .ok (.iconst 0, 1) := by decide +kernel
theorem dX8_next_3 : decode cX8_next 3 = .ok (.invokevirtual 133, 3) := by decide +kernel
theorem dX8_next_6 : decode cX8_next 6 = .ok (.iload_n 1, 1) := by decide +kernel
theorem dX8_next_7 : decode cX8_next 7 = .ok (.iload_n 2, 1) := by decide +kernel
theorem dX8_next_8 : decode cX8_next 8 = .ok (.if_icmp .eq 14, 3) := by decide +kernel
theorem dX8_next_11 : decode cX8_next 11 = .ok (.aload_n 0, 1) := by decide +kernel
theorem dX8_next_12 : decode cX8_next 12 = .ok (.getfield 85, 3) := by decide +kernel
theorem dX8_next_15 : decode cX8_next 15 = .ok (.iload_n 1, 1) := by decide +kernel
theorem dX8_next_16 : decode cX8_next 16 = .ok (.iaload, 1) := by decide +kernel
theorem dX8_next_17 : decode cX8_next 17 = .ok (.ldc 128, 2) := by decide +kernel
theorem dX8_next_19 : decode cX8_next 19 = .ok (.if_icmp .lt 5, 3) := by decide +kernel
theorem dX8_next_22 : decode cX8_next 22 = .ok (.iconst (-1), 1) := by decide +kernel
theorem dX8_next_23 : decode cX8_next 23 = .ok (.ireturn, 1) := by decide +kernel
theorem dX8_next_24 : decode cX8_next 24 = .ok (.iconst 0, 1) := by decide +kernel
theorem dX8_next_25 : decode cX8_next 25 = .ok (.istore_n 3, 1) := by decide +kernel
theorem dX8_next_26 : decode cX8_next 26 = .ok (.iload_n 3, 1) := by decide +kernel
theorem dX8_next_27 : decode cX8_next 27 = .ok (.aload_n 0, 1) := by decide +kernel
theorem dX8_next_28 : decode cX8_next 28 = .ok (.getfield 98, 3) := by decide +kernel
theorem dX8_next_31 : decode cX8_next 31 = .ok (.if_icmp .ge 70, 3) := by decide +kernel
theorem dX8_next_34 : decode cX8_next 34 = .ok (.aload_n 0, 1) := by decide +kernel
theorem dX8_next_35 : decode cX8_next 35 = .ok (.getfield 33, 3) := by decide +kernel
theorem dX8_next_38 : decode cX8_next 38 = .ok (.iload_n 3, 1) := by decide +kernel
theorem dX8_next_39 : decode cX8_next 39 = .ok (.baload, 1) := by decide +kernel
theorem dX8_next_40 : decode cX8_next 40 = .ok (.ifCond .ne 55, 3) := by decide +kernel
theorem dX8_next_43 : decode cX8_next 43 = .ok (.aload_n 0, 1) := by decide +kernel
theorem dX8_next_44 : decode cX8_next 44 = .ok (.getfield 17, 3) := by decide +kernel
theorem dX8_next_47 : decode cX8_next 47 = .ok (.iload_n 3, 1) := by decide +kernel
theorem dX8_next_48 : decode cX8_next 48 = .ok (.iaload, 1) := by decide +kernel
theorem dX8_next_49 : decode cX8_next 49 = .ok (.iload_n 1, 1) := by decide +kernel
theorem dX8_next_50 : decode cX8_next 50 = .ok (.if_icmp .eq 16, 3) := by decide +kernel
theorem dX8_next_53 : decode cX8_next 53 = .ok (.aload_n 0, 1) := by decide +kernel
theorem dX8_next_54 : decode cX8_next 54 = .ok (.getfield 21, 3) := by decide +kernel
theorem dX8_next_57 : decode cX8_next 57 = .ok (.iload_n 3, 1) := by decide +kernel
theorem dX8_next_58 : decode cX8_next 58 = .ok (.iaload, 1) := by decide +kernel
theorem dX8_next_59 : decode cX8_next 59 = .ok (.iload_n 1, 1) := by decide +kernel
theorem dX8_next_60 : decode cX8_next 60 = .ok (.if_icmp .eq 6, 3) := by decide +kernel
theorem dX8_next_63 : decode cX8_next 63 = .ok (.goto 32, 3) := by decide +kernel
theorem dX8_next_66 : decode cX8_next 66 = .ok (.aload_n 0, 1) := by decide +kernel
theorem dX8_next_67 : decode cX8_next 67 = .ok (.iload_n 3, 1) := by decide +kernel
theorem dX8_next_68 : decode cX8_next 68 = .ok (.iload_n 1, 1) := by decide +kernel
theorem dX8_next_69 : decode cX8_next 69 = .ok (.invokevirtual 137, 3) := by decide +kernel
theorem dX8_next_72 : decode cX8_next 72 = .ok (.aload_n 0, 1) := by decide +kernel
theorem dX8_next_73 : decode cX8_next 73 = .ok (.getfield 85, 3) := by decide +kernel
theorem dX8_next_76 : decode cX8_next 76 = .ok (.aload_n 0, 1) := by decide +kernel
theorem dX8_next_77 : decode cX8_next 77 = .ok (.iload_n 3, 1) := by decide +kernel
theorem dX8_next_78 : decode cX8_next 78 = .ok (.iload_n 1, 1) := by decide +kernel
theorem dX8_next_79 : decode cX8_next 79 = .ok (.invokevirtual 140, 3) := by decide +kernel
theorem dX8_next_82 : decode cX8_next 82 = .ok (.iaload, 1) := by decide +kernel
theorem dX8_next_83 : decode cX8_next 83 = .ok (.iadd, 1) := by decide +kernel
theorem dX8_next_84 : decode cX8_next 84 = .ok (.aload_n 0, 1) := by decide +kernel
theorem dX8_next_85 : decode cX8_next 85 = .ok (.getfield 85, 3) := by decide +kernel
theorem dX8_next_88 : decode cX8_next 88 = .ok (.iload_n 1, 1) := by decide +kernel
theorem dX8_next_89 : decode cX8_next 89 = .ok (.iaload, 1) := by decide +kernel
theorem dX8_next_90 : decode cX8_next 90 = .ok (.if_icmp .ne 5, 3) := by decide +kernel
theorem dX8_next_93 : decode cX8_next 93 = .ok (.iload_n 3, 1) := by decide +kernel
theorem dX8_next_94 : decode cX8_next 94 = .ok (.ireturn, 1) := by decide +kernel
theorem dX8_next_95 : decode cX8_next 95 = .ok (.iinc 3 1, 3) := by decide +kernel
theorem dX8_next_98 : decode cX8_next 98 = .ok (.goto (-72), 3) := by decide +kernel
theorem dX8_next_101 : decode cX8_next 101 = .ok (.iconst (-1), 1) := by decide +kernel
theorem dX8_next_102 : decode cX8_next 102 = .ok (.ireturn, 1) := by decide +kernel
theorem dX8_minutes_0 : decode cX8_minutes 0 = .ok (.aload_n 0, 1) := by decide +kernel
theorem dX8_minutes_1 : decode cX8_minutes 1 = .ok (.iload_n 1, 1) := by decide +kernel
theorem dX8_minutes_2 : decode cX8_minutes 2 = .ok (.invokevirtual 117, 3) := by decide +kernel
theorem dX8_minutes_5 : decode cX8_minutes 5 = .ok (.ifCond .eq 11, 3) := by decide +kernel
theorem dX8_minutes_8 : decode cX8_minutes 8 = .ok (.aload_n 0, 1) := by decide +kernel
theorem dX8_minutes_9 : decode cX8_minutes 9 = .ok (.iload_n 2, 1) := by decide +kernel
theorem dX8_minutes_10 : decode cX8_minutes 10 = .ok (.invokevirtual 117, 3) := by decide +kernel
theorem dX8_minutes_13 : decode cX8_minutes 13 = .ok (.ifCond .ne 9, 3) := by decide +kernel
theorem dX8_minutes_16 : decode cX8_minutes 16 = .ok (.aload_n 0, 1) := by decide +kernel
theorem dX8_minutes_17 : decode cX8_minutes 17 = .ok (.iconst 1, 1) := by decide +kernel
theorem dX8_minutes_18 : decode cX8_minutes 18 = .ok (.invokevirtual 110, 3) := by decide +kernel
theorem dX8_minutes_21 : decode cX8_minutes 21 = .ok (.ireturn, 1) := by decide +kernel
theorem dX8_minutes_22 : decode cX8_minutes 22 = .ok (.aload_n 0, 1) := by decide +kernel
theorem dX8_minutes_23 : decode cX8_minutes 23 = .ok (.iload_n 1, 1) := by decide +kernel
theorem dX8_minutes_24 : decode cX8_minutes 24 = .ok (.iload_n 2, 1) := by decide +kernel
theorem dX8_minutes_25 : decode cX8_minutes 25 = .ok (.iload_n 3, 1) := by decide +kernel
theorem dX8_minutes_26 : decode cX8_minutes 26 = .ok (.invokevirtual 143, 3) := by decide +kernel
theorem dX8_minutes_29 : decode cX8_minutes 29 = .ok (.istore 4, 2) := by decide +kernel
theorem dX8_minutes_31 : decode cX8_minutes 31 = .ok (.iload 4, 2) := by decide +kernel
theorem dX8_minutes_33 : decode cX8_minutes 33 = .ok (.ldc 128, 2) := by decide +kernel
theorem dX8_minutes_35 : decode cX8_minutes 35 = .ok (.if_icmp .lt 11, 3) := by decide +kernel
theorem dX8_minutes_38 : decode cX8_minutes 38 = .ok (.aload_n 0, 1) := by decide +kernel
theorem dX8_minutes_39 : decode cX8_minutes 39 = .ok (.iconst 2, 1) := by decide +kernel
theorem dX8_minutes_40 : decode cX8_minutes 40 = .ok (.invokevirtual 110, 3) := by decide +kernel
theorem dX8_minutes_43 : decode cX8_minutes 43 = .ok (.goto 9, 3) := by decide +kernel
theorem dX8_minutes_46 : decode cX8_minutes 46 = .ok (.aload_n 0, 1) := by decide +kernel
theorem dX8_minutes_47 : decode cX8_minutes 47 = .ok (.iload 4, 2) := by decide +kernel
theorem dX8_minutes_49 : decode cX8_minutes 49 = .ok (.invokevirtual 114, 3) := by decide +kernel
theorem dX8_minutes_52 : decode cX8_minutes 52 = .ok (.ireturn, 1) := by decide +kernel
theorem dX8_firstTrail_0 : decode cX8_firstTrail 0 = .ok (.aload_n 0, 1) := by decide +kernel
theorem dX8_firstTrail_1 : decode cX8_firstTrail 1 = .ok (.iload_n 1, 1) := by decide +kernel
theorem dX8_firstTrail_2 : decode cX8_firstTrail 2 = .ok (.invokevirtual 117, 3) := by decide +kernel
theorem dX8_firstTrail_5 : decode cX8_firstTrail 5 = .ok (.ifCond .eq 11, 3) := by decide +kernel
theorem dX8_firstTrail_8 : decode cX8_firstTrail 8 = .ok (.aload_n 0, 1) := by decide +kernel
theorem dX8_firstTrail_9 : decode cX8_firstTrail 9 = .ok (.iload_n 2, 1) := by decide +kernel
theorem dX8_firstTrail_10 : decode cX8_firstTrail 10 = .ok (.invokevirtual 117, 3) := by decide +kernel
theorem dX8_firstTrail_13 : decode cX8_firstTrail 13 = .ok (.ifCond .ne 9, 3) := by decide +kernel
theorem dX8_firstTrail_16 : decode cX8_firstTrail 16 = .ok (.aload_n 0, 1) := by decide +kernel
theorem dX8_firstTrail_17 : decode cX8_firstTrail 17 = .ok (.iconst 1, 1) := by decide +kernel
theorem dX8_firstTrail_18 : decode cX8_firstTrail 18 = .ok (.invokevirtual 110, 3) := by decide +kernel
theorem dX8_firstTrail_21 : decode cX8_firstTrail 21 = .ok (.ireturn, 1) := by decide +kernel
theorem dX8_firstTrail_22 : decode cX8_firstTrail 22 = .ok (.aload_n 0, 1) := by decide +kernel
theorem dX8_firstTrail_23 : decode cX8_firstTrail 23 = .ok (.iload_n 1, 1) := by decide +kernel
theorem dX8_firstTrail_24 : decode cX8_firstTrail 24 = .ok (.iload_n 2, 1) := by decide +kernel
theorem dX8_firstTrail_25 : decode cX8_firstTrail 25 = .ok (.invokevirtual 147, 3) := by decide +kernel
theorem dX8_firstTrail_28 : decode cX8_firstTrail 28 = .ok (.istore_n 3, 1) := by decide +kernel
theorem dX8_firstTrail_29 : decode cX8_firstTrail 29 = .ok (.iload_n 3, 1) := by decide +kernel
theorem dX8_firstTrail_30 : decode cX8_firstTrail 30 = .ok (.iconst (-1), 1) := by decide +kernel
theorem dX8_firstTrail_31 : decode cX8_firstTrail 31 = .ok (.if_icmp .ne 11, 3) := by decide +kernel
theorem dX8_firstTrail_34 : decode cX8_firstTrail 34 = .ok (.aload_n 0, 1) := by decide +kernel
theorem dX8_firstTrail_35 : decode cX8_firstTrail 35 = .ok (.iconst 2, 1) := by decide +kernel
theorem dX8_firstTrail_36 : decode cX8_firstTrail 36 = .ok (.invokevirtual 110, 3) := by decide +kernel
theorem dX8_firstTrail_39 : decode cX8_firstTrail 39 = .ok (.goto 8, 3) := by decide +kernel
theorem dX8_firstTrail_42 : decode cX8_firstTrail 42 = .ok (.aload_n 0, 1) := by decide +kernel
theorem dX8_firstTrail_43 : decode cX8_firstTrail 43 = .ok (.iload_n 3, 1) := by decide +kernel
theorem dX8_firstTrail_44 : decode cX8_firstTrail 44 = .ok (.invokevirtual 114, 3) := by decide +kernel
theorem dX8_firstTrail_47 : decode cX8_firstTrail 47 = .ok (.ireturn, 1) := by decide +kernel
theorem dX8_addWood_0 : decode cX8_addWood 0 = .ok (.aload_n 0, 1) := by decide +kernel
theorem dX8_addWood_1 : decode cX8_addWood 1 = .ok (.iload_n 1, 1) := by decide +kernel
theorem dX8_addWood_2 : decode cX8_addWood 2 = .ok (.iconst 1, 1) := by decide +kernel
theorem dX8_addWood_3 : decode cX8_addWood 3 = .ok (.bipush 99, 2) := by decide +kernel
theorem dX8_addWood_5 : decode cX8_addWood 5 = .ok (.invokevirtual 94, 3) := by decide +kernel
theorem dX8_addWood_8 : decode cX8_addWood 8 = .ok (.ifCond .ne 9, 3) := by decide +kernel
theorem dX8_addWood_11 : decode cX8_addWood 11 = .ok (.aload_n 0, 1) := by decide +kernel
theorem dX8_addWood_12 : decode cX8_addWood 12 = .ok (.iconst 1, 1) := by decide +kernel
theorem dX8_addWood_13 : decode cX8_addWood 13 = .ok (.invokevirtual 110, 3) := by decide +kernel
theorem dX8_addWood_16 : decode cX8_addWood 16 = .ok (.ireturn, 1) := by decide +kernel
theorem dX8_addWood_17 : decode cX8_addWood 17 = .ok (.aload_n 0, 1) := by decide +kernel
theorem dX8_addWood_18 : decode cX8_addWood 18 = .ok (.dup, 1) := by decide +kernel
theorem dX8_addWood_19 : decode cX8_addWood 19 = .ok (.getfield 7, 3) := by decide +kernel
theorem dX8_addWood_22 : decode cX8_addWood 22 = .ok (.iload_n 1, 1) := by decide +kernel
theorem dX8_addWood_23 : decode cX8_addWood 23 = .ok (.iadd, 1) := by decide +kernel
theorem dX8_addWood_24 : decode cX8_addWood 24 = .ok (.putfield 7, 3) := by decide +kernel
theorem dX8_addWood_27 : decode cX8_addWood 27 = .ok (.aload_n 0, 1) := by decide +kernel
theorem dX8_addWood_28 : decode cX8_addWood 28 = .ok (.aload_n 0, 1) := by decide +kernel
theorem dX8_addWood_29 : decode cX8_addWood 29 = .ok (.getfield 7, 3) := by decide +kernel
theorem dX8_addWood_32 : decode cX8_addWood 32 = .ok (.invokevirtual 114, 3) := by decide +kernel
theorem dX8_addWood_35 : decode cX8_addWood 35 = .ok (.ireturn, 1) := by decide +kernel
theorem dX8_canBeCut_0 : decode cX8_canBeCut 0 = .ok (.aload_n 0, 1) := by decide +kernel
theorem dX8_canBeCut_1 : decode cX8_canBeCut 1 = .ok (.iload_n 1, 1) := by decide +kernel
theorem dX8_canBeCut_2 : decode cX8_canBeCut 2 = .ok (.iload_n 2, 1) := by decide +kernel
theorem dX8_canBeCut_3 : decode cX8_canBeCut 3 = .ok (.iconst 0, 1) := by decide +kernel
theorem dX8_canBeCut_4 : decode cX8_canBeCut 4 = .ok (.invokevirtual 143, 3) := by decide +kernel
theorem dX8_canBeCut_7 : decode cX8_canBeCut 7 = .ok (.sipush 300, 3) := by decide +kernel
theorem dX8_canBeCut_10 : decode cX8_canBeCut 10 = .ok (.if_icmp .gt 7, 3) := by decide +kernel
theorem dX8_canBeCut_13 : decode cX8_canBeCut 13 = .ok (.iconst 1, 1) := by decide +kernel
theorem dX8_canBeCut_14 : decode cX8_canBeCut 14 = .ok (.goto 4, 3) := by decide +kernel
theorem dX8_canBeCut_17 : decode cX8_canBeCut 17 = .ok (.iconst 0, 1) := by decide +kernel
theorem dX8_canBeCut_18 : decode cX8_canBeCut 18 = .ok (.ireturn, 1) := by decide +kernel
theorem dX8_cuts_0 : decode cX8_cuts 0 = .ok (.aload_n 0, 1) := by decide +kernel
theorem dX8_cuts_1 : decode cX8_cuts 1 = .ok (.getfield 36, 3) := by decide +kernel
theorem dX8_cuts_4 : decode cX8_cuts 4 = .ok (.iload_n 1, 1) := by decide +kernel
theorem dX8_cuts_5 : decode cX8_cuts 5 = .ok (.iload_n 2, 1) := by decide +kernel
theorem dX8_cuts_6 : decode cX8_cuts 6 = .ok (.iastore, 1) := by decide +kernel
theorem dX8_cuts_7 : decode cX8_cuts 7 = .ok (.aload_n 0, 1) := by decide +kernel
theorem dX8_cuts_8 : decode cX8_cuts 8 = .ok (.getfield 39, 3) := by decide +kernel
theorem dX8_cuts_11 : decode cX8_cuts 11 = .ok (.iload_n 1, 1) := by decide +kernel
theorem dX8_cuts_12 : decode cX8_cuts 12 = .ok (.iload_n 3, 1) := by decide +kernel
theorem dX8_cuts_13 : decode cX8_cuts 13 = .ok (.iastore, 1) := by decide +kernel
theorem dX8_cuts_14 : decode cX8_cuts 14 = .ok (.aload_n 0, 1) := by decide +kernel
theorem dX8_cuts_15 : decode cX8_cuts 15 = .ok (.getfield 45, 3) := by decide +kernel
theorem dX8_cuts_18 : decode cX8_cuts 18 = .ok (.iload_n 1, 1) := by decide +kernel
theorem dX8_cuts_19 : decode cX8_cuts 19 = .ok (.aload_n 0, 1) := by decide +kernel
theorem dX8_cuts_20 : decode cX8_cuts 20 = .ok (.iload_n 2, 1) := by decide +kernel
theorem dX8_cuts_21 : decode cX8_cuts 21 = .ok (.iload_n 3, 1) := by decide +kernel
theorem dX8_cuts_22 : decode cX8_cuts 22 = .ok (.iconst 0, 1) := by decide +kernel
theorem dX8_cuts_23 : decode cX8_cuts 23 = .ok (.invokevirtual 143, 3) := by decide +kernel
theorem dX8_cuts_26 : decode cX8_cuts 26 = .ok (.iconst 4, 1) := by decide +kernel
theorem dX8_cuts_27 : decode cX8_cuts 27 = .ok (.iadd, 1) := by decide +kernel
theorem dX8_cuts_28 : decode cX8_cuts 28 = .ok (.iconst 5, 1) := by decide +kernel
theorem dX8_cuts_29 : decode cX8_cuts 29 = .ok (.idiv, 1) := by decide +kernel
theorem dX8_cuts_30 : decode cX8_cuts 30 = .ok (.iconst 5, 1) := by decide +kernel
theorem dX8_cuts_31 : decode cX8_cuts 31 = .ok (.imul, 1) := by decide +kernel
theorem dX8_cuts_32 : decode cX8_cuts 32 = .ok (.iastore, 1) := by decide +kernel
theorem dX8_cuts_33 : decode cX8_cuts 33 = .ok (.aload_n 0, 1) := by decide +kernel
theorem dX8_cuts_34 : decode cX8_cuts 34 = .ok (.getfield 42, 3) := by decide +kernel
theorem dX8_cuts_37 : decode cX8_cuts 37 = .ok (.iload_n 1, 1) := by decide +kernel
theorem dX8_cuts_38 : decode cX8_cuts 38 = .ok (.aload_n 0, 1) := by decide +kernel
theorem dX8_cuts_39 : decode cX8_cuts 39 = .ok (.iload_n 2, 1) := by decide +kernel
theorem dX8_cuts_40 : decode cX8_cuts 40 = .ok (.iload_n 3, 1) := by decide +kernel
theorem dX8_cuts_41 : decode cX8_cuts 41 = .ok (.invokevirtual 147, 3) := by decide +kernel
theorem dX8_cuts_44 : decode cX8_cuts 44 = .ok (.iastore, 1) := by decide +kernel
theorem dX8_cuts_45 : decode cX8_cuts 45 = .ok (.aload_n 0, 1) := by decide +kernel
theorem dX8_cuts_46 : decode cX8_cuts 46 = .ok (.getfield 48, 3) := by decide +kernel
theorem dX8_cuts_49 : decode cX8_cuts 49 = .ok (.iload_n 1, 1) := by decide +kernel
theorem dX8_cuts_50 : decode cX8_cuts 50 = .ok (.iconst 0, 1) := by decide +kernel
theorem dX8_cuts_51 : decode cX8_cuts 51 = .ok (.bastore, 1) := by decide +kernel
theorem dX8_cuts_52 : decode cX8_cuts 52 = .ok (.aload_n 0, 1) := by decide +kernel
theorem dX8_cuts_53 : decode cX8_cuts 53 = .ok (.dup, 1) := by decide +kernel
theorem dX8_cuts_54 : decode cX8_cuts 54 = .ok (.getfield 7, 3) := by decide +kernel
theorem dX8_cuts_57 : decode cX8_cuts 57 = .ok (.iconst 1, 1) := by decide +kernel
theorem dX8_cuts_58 : decode cX8_cuts 58 = .ok (.isub, 1) := by decide +kernel
theorem dX8_cuts_59 : decode cX8_cuts 59 = .ok (.putfield 7, 3) := by decide +kernel
theorem dX8_cuts_62 : decode cX8_cuts 62 = .ok (.return_, 1) := by decide +kernel
theorem dX8_cut_0 : decode cX8_cut 0 = .ok (.aload_n 0, 1) := by decide +kernel
theorem dX8_cut_1 : decode cX8_cut 1 = .ok (.iload_n 1, 1) := by decide +kernel
theorem dX8_cut_2 : decode cX8_cut 2 = .ok (.invokevirtual 117, 3) := by decide +kernel
theorem dX8_cut_5 : decode cX8_cut 5 = .ok (.ifCond .eq 11, 3) := by decide +kernel
theorem dX8_cut_8 : decode cX8_cut 8 = .ok (.aload_n 0, 1) := by decide +kernel
theorem dX8_cut_9 : decode cX8_cut 9 = .ok (.iload_n 2, 1) := by decide +kernel
theorem dX8_cut_10 : decode cX8_cut 10 = .ok (.invokevirtual 117, 3) := by decide +kernel
theorem dX8_cut_13 : decode cX8_cut 13 = .ok (.ifCond .ne 9, 3) := by decide +kernel
theorem dX8_cut_16 : decode cX8_cut 16 = .ok (.aload_n 0, 1) := by decide +kernel
theorem dX8_cut_17 : decode cX8_cut 17 = .ok (.iconst 1, 1) := by decide +kernel
theorem dX8_cut_18 : decode cX8_cut 18 = .ok (.invokevirtual 110, 3) := by decide +kernel
theorem dX8_cut_21 : decode cX8_cut 21 = .ok (.ireturn, 1) := by decide +kernel
theorem dX8_cut_22 : decode cX8_cut 22 = .ok (.aload_n 0, 1) := by decide +kernel
theorem dX8_cut_23 : decode cX8_cut 23 = .ok (.getfield 13, 3) := by decide +kernel
theorem dX8_cut_26 : decode cX8_cut 26 = .ok (.iload_n 2, 1) := by decide +kernel
theorem dX8_cut_27 : decode cX8_cut 27 = .ok (.baload, 1) := by decide +kernel
theorem dX8_cut_28 : decode cX8_cut 28 = .ok (.ifCond .eq 8, 3) := by decide +kernel
theorem dX8_cut_31 : decode cX8_cut 31 = .ok (.iload_n 1, 1) := by decide +kernel
theorem dX8_cut_32 : decode cX8_cut 32 = .ok (.iload_n 2, 1) := by decide +kernel
theorem dX8_cut_33 : decode cX8_cut 33 = .ok (.if_icmp .ne 9, 3) := by decide +kernel
theorem dX8_cut_36 : decode cX8_cut 36 = .ok (.aload_n 0, 1) := by decide +kernel
theorem dX8_cut_37 : decode cX8_cut 37 = .ok (.iconst 2, 1) := by decide +kernel
theorem dX8_cut_38 : decode cX8_cut 38 = .ok (.invokevirtual 110, 3) := by decide +kernel
theorem dX8_cut_41 : decode cX8_cut 41 = .ok (.ireturn, 1) := by decide +kernel
theorem dX8_cut_42 : decode cX8_cut 42 = .ok (.aload_n 0, 1) := by decide +kernel
theorem dX8_cut_43 : decode cX8_cut 43 = .ok (.iload_n 1, 1) := by decide +kernel
theorem dX8_cut_44 : decode cX8_cut 44 = .ok (.iload_n 2, 1) := by decide +kernel
theorem dX8_cut_45 : decode cX8_cut 45 = .ok (.invokevirtual 150, 3) := by decide +kernel
theorem dX8_cut_48 : decode cX8_cut 48 = .ok (.ifCond .ne 9, 3) := by decide +kernel
theorem dX8_cut_51 : decode cX8_cut 51 = .ok (.aload_n 0, 1) := by decide +kernel
theorem dX8_cut_52 : decode cX8_cut 52 = .ok (.iconst 3, 1) := by decide +kernel
theorem dX8_cut_53 : decode cX8_cut 53 = .ok (.invokevirtual 110, 3) := by decide +kernel
theorem dX8_cut_56 : decode cX8_cut 56 = .ok (.ireturn, 1) := by decide +kernel
theorem dX8_cut_57 : decode cX8_cut 57 = .ok (.aload_n 0, 1) := by decide +kernel
theorem dX8_cut_58 : decode cX8_cut 58 = .ok (.getfield 7, 3) := by decide +kernel
theorem dX8_cut_61 : decode cX8_cut 61 = .ok (.ifCond .ne 9, 3) := by decide +kernel
theorem dX8_cut_64 : decode cX8_cut 64 = .ok (.aload_n 0, 1) := by decide +kernel
theorem dX8_cut_65 : decode cX8_cut 65 = .ok (.iconst 4, 1) := by decide +kernel
theorem dX8_cut_66 : decode cX8_cut 66 = .ok (.invokevirtual 110, 3) := by decide +kernel
theorem dX8_cut_69 : decode cX8_cut 69 = .ok (.ireturn, 1) := by decide +kernel
theorem dX8_cut_70 : decode cX8_cut 70 = .ok (.aload_n 0, 1) := by decide +kernel
theorem dX8_cut_71 : decode cX8_cut 71 = .ok (.getfield 101, 3) := by decide +kernel
theorem dX8_cut_74 : decode cX8_cut 74 = .ok (.bipush 30, 2) := by decide +kernel
theorem dX8_cut_76 : decode cX8_cut 76 = .ok (.if_icmp .ne 9, 3) := by decide +kernel
theorem dX8_cut_79 : decode cX8_cut 79 = .ok (.aload_n 0, 1) := by decide +kernel
theorem dX8_cut_80 : decode cX8_cut 80 = .ok (.iconst 5, 1) := by decide +kernel
theorem dX8_cut_81 : decode cX8_cut 81 = .ok (.invokevirtual 110, 3) := by decide +kernel
theorem dX8_cut_84 : decode cX8_cut 84 = .ok (.ireturn, 1) := by decide +kernel
theorem dX8_cut_85 : decode cX8_cut 85 = .ok (.aload_n 0, 1) := by decide +kernel
theorem dX8_cut_86 : decode cX8_cut 86 = .ok (.aload_n 0, 1) := by decide +kernel
theorem dX8_cut_87 : decode cX8_cut 87 = .ok (.getfield 101, 3) := by decide +kernel
theorem dX8_cut_90 : decode cX8_cut 90 = .ok (.iload_n 1, 1) := by decide +kernel
theorem dX8_cut_91 : decode cX8_cut 91 = .ok (.iload_n 2, 1) := by decide +kernel
theorem dX8_cut_92 : decode cX8_cut 92 = .ok (.invokevirtual 154, 3) := by decide +kernel
theorem dX8_cut_95 : decode cX8_cut 95 = .ok (.aload_n 0, 1) := by decide +kernel
theorem dX8_cut_96 : decode cX8_cut 96 = .ok (.dup, 1) := by decide +kernel
theorem dX8_cut_97 : decode cX8_cut 97 = .ok (.getfield 101, 3) := by decide +kernel
theorem dX8_cut_100 : decode cX8_cut 100 = .ok (.iconst 1, 1) := by decide +kernel
theorem dX8_cut_101 : decode cX8_cut 101 = .ok (.iadd, 1) := by decide +kernel
theorem dX8_cut_102 : decode cX8_cut 102 = .ok (.putfield 101, 3) := by decide +kernel
theorem dX8_cut_105 : decode cX8_cut 105 = .ok (.aload_n 0, 1) := by decide +kernel
theorem dX8_cut_106 : decode cX8_cut 106 = .ok (.aload_n 0, 1) := by decide +kernel
theorem dX8_cut_107 : decode cX8_cut 107 = .ok (.getfield 101, 3) := by decide +kernel
theorem dX8_cut_110 : decode cX8_cut 110 = .ok (.iconst 1, 1) := by decide +kernel
theorem dX8_cut_111 : decode cX8_cut 111 = .ok (.isub, 1) := by decide +kernel
theorem dX8_cut_112 : decode cX8_cut 112 = .ok (.invokevirtual 114, 3) := by decide +kernel
theorem dX8_cut_115 : decode cX8_cut 115 = .ok (.ireturn, 1) := by decide +kernel
theorem dX8_trailOf_0 : decode cX8_trailOf 0 = .ok (.aload_n 0, 1) := by decide +kernel
theorem dX8_trailOf_1 : decode cX8_trailOf 1 = .ok (.iload_n 1, 1) := by decide +kernel
theorem dX8_trailOf_2 : decode cX8_trailOf 2 = .ok (.invokevirtual 158, 3) := by decide +kernel
theorem dX8_trailOf_5 : decode cX8_trailOf 5 = .ok (.ifCond .eq 16, 3) := by decide +kernel
theorem dX8_trailOf_8 : decode cX8_trailOf 8 = .ok (.aload_n 0, 1) := by decide +kernel
theorem dX8_trailOf_9 : decode cX8_trailOf 9 = .ok (.aload_n 0, 1) := by decide +kernel
theorem dX8_trailOf_10 : decode cX8_trailOf 10 = .ok (.getfield 42, 3) := by decide +kernel
theorem dX8_trailOf_13 : decode cX8_trailOf 13 = .ok (.iload_n 1, 1) := by decide +kernel
theorem dX8_trailOf_14 : decode cX8_trailOf 14 = .ok (.iaload, 1) := by decide +kernel
theorem dX8_trailOf_15 : decode cX8_trailOf 15 = .ok (.invokevirtual 114, 3) := by decide +kernel
theorem dX8_trailOf_18 : decode cX8_trailOf 18 = .ok (.goto 8, 3) := by decide +kernel
theorem dX8_trailOf_21 : decode cX8_trailOf 21 = .ok (.aload_n 0, 1) := by decide +kernel
theorem dX8_trailOf_22 : decode cX8_trailOf 22 = .ok (.iconst 1, 1) := by decide +kernel
theorem dX8_trailOf_23 : decode cX8_trailOf 23 = .ok (.invokevirtual 110, 3) := by decide +kernel
theorem dX8_trailOf_26 : decode cX8_trailOf 26 = .ok (.ireturn, 1) := by decide +kernel
theorem dX8_told_0 : decode cX8_told 0 = .ok (.aload_n 0, 1) := by decide +kernel
theorem dX8_told_1 : decode cX8_told 1 = .ok (.iload_n 1, 1) := by decide +kernel
theorem dX8_told_2 : decode cX8_told 2 = .ok (.invokevirtual 158, 3) := by decide +kernel
theorem dX8_told_5 : decode cX8_told 5 = .ok (.ifCond .eq 16, 3) := by decide +kernel
theorem dX8_told_8 : decode cX8_told 8 = .ok (.aload_n 0, 1) := by decide +kernel
theorem dX8_told_9 : decode cX8_told 9 = .ok (.aload_n 0, 1) := by decide +kernel
theorem dX8_told_10 : decode cX8_told 10 = .ok (.getfield 45, 3) := by decide +kernel
theorem dX8_told_13 : decode cX8_told 13 = .ok (.iload_n 1, 1) := by decide +kernel
theorem dX8_told_14 : decode cX8_told 14 = .ok (.iaload, 1) := by decide +kernel
theorem dX8_told_15 : decode cX8_told 15 = .ok (.invokevirtual 114, 3) := by decide +kernel
theorem dX8_told_18 : decode cX8_told 18 = .ok (.goto 8, 3) := by decide +kernel
theorem dX8_told_21 : decode cX8_told 21 = .ok (.aload_n 0, 1) := by decide +kernel
theorem dX8_told_22 : decode cX8_told 22 = .ok (.iconst 1, 1) := by decide +kernel
theorem dX8_told_23 : decode cX8_told 23 = .ok (.invokevirtual 110, 3) := by decide +kernel
theorem dX8_told_26 : decode cX8_told 26 = .ok (.ireturn, 1) := by decide +kernel
theorem dX8_isCovered_0 : decode cX8_isCovered 0 = .ok (.aload_n 0, 1) := by decide +kernel
theorem dX8_isCovered_1 : decode cX8_isCovered 1 = .ok (.aload_n 0, 1) := by decide +kernel
theorem dX8_isCovered_2 : decode cX8_isCovered 2 = .ok (.iload_n 1, 1) := by decide +kernel
theorem dX8_isCovered_3 : decode cX8_isCovered 3 = .ok (.invokevirtual 158, 3) := by decide +kernel
theorem dX8_isCovered_6 : decode cX8_isCovered 6 = .ok (.ifCond .eq 7, 3) := by decide +kernel
theorem dX8_isCovered_9 : decode cX8_isCovered 9 = .ok (.iconst 0, 1) := by decide +kernel
theorem dX8_isCovered_10 : decode cX8_isCovered 10 = .ok (.goto 4, 3) := by decide +kernel
theorem dX8_isCovered_13 : decode cX8_isCovered 13 = .ok (.iconst 1, 1) := by decide +kernel
theorem dX8_isCovered_14 : decode cX8_isCovered 14 = .ok (.putfield 88, 3) := by decide +kernel
theorem dX8_isCovered_17 : decode cX8_isCovered 17 = .ok (.aload_n 0, 1) := by decide +kernel
theorem dX8_isCovered_18 : decode cX8_isCovered 18 = .ok (.getfield 88, 3) := by decide +kernel
theorem dX8_isCovered_21 : decode cX8_isCovered 21 = .ok (.ifCond .ne 16, 3) := by decide +kernel
theorem dX8_isCovered_24 : decode cX8_isCovered 24 = .ok (.aload_n 0, 1) := by decide +kernel
theorem dX8_isCovered_25 : decode cX8_isCovered 25 = .ok (.getfield 48, 3) := by decide +kernel
theorem dX8_isCovered_28 : decode cX8_isCovered 28 = .ok (.iload_n 1, 1) := by decide +kernel
theorem dX8_isCovered_29 : decode cX8_isCovered 29 = .ok (.baload, 1) := by decide +kernel
theorem dX8_isCovered_30 : decode cX8_isCovered 30 = .ok (.ifCond .eq 7, 3) := by decide +kernel
theorem dX8_isCovered_33 : decode cX8_isCovered 33 = .ok (.iconst 1, 1) := by decide +kernel
theorem dX8_isCovered_34 : decode cX8_isCovered 34 = .ok (.goto 4, 3) := by decide +kernel
theorem dX8_isCovered_37 : decode cX8_isCovered 37 = .ok (.iconst 0, 1) := by decide +kernel
theorem dX8_isCovered_38 : decode cX8_isCovered 38 = .ok (.ireturn, 1) := by decide +kernel
theorem dX8_dangerOf_0 : decode cX8_dangerOf 0 = .ok (.aload_n 0, 1) := by decide +kernel
theorem dX8_dangerOf_1 : decode cX8_dangerOf 1 = .ok (.getfield 42, 3) := by decide +kernel
theorem dX8_dangerOf_4 : decode cX8_dangerOf 4 = .ok (.iload_n 1, 1) := by decide +kernel
theorem dX8_dangerOf_5 : decode cX8_dangerOf 5 = .ok (.iaload, 1) := by decide +kernel
theorem dX8_dangerOf_6 : decode cX8_dangerOf 6 = .ok (.istore_n 3, 1) := by decide +kernel
theorem dX8_dangerOf_7 : decode cX8_dangerOf 7 = .ok (.aload_n 0, 1) := by decide +kernel
theorem dX8_dangerOf_8 : decode cX8_dangerOf 8 = .ok (.iload_n 3, 1) := by decide +kernel
theorem dX8_dangerOf_9 : decode cX8_dangerOf 9 = .ok (.iload_n 2, 1) := by decide +kernel
theorem dX8_dangerOf_10 : decode cX8_dangerOf 10 = .ok (.invokevirtual 124, 3) := by decide +kernel
theorem dX8_dangerOf_13 : decode cX8_dangerOf 13 = .ok (.ifCond .eq 7, 3) := by decide +kernel
theorem dX8_dangerOf_16 : decode cX8_dangerOf 16 = .ok (.sipush 1000, 3) := by decide +kernel
theorem dX8_dangerOf_19 : decode cX8_dangerOf 19 = .ok (.ireturn, 1) := by decide +kernel
theorem dX8_dangerOf_20 : decode cX8_dangerOf 20 = .ok (.aload_n 0, 1) := by decide +kernel
theorem dX8_dangerOf_21 : decode cX8_dangerOf 21 = .ok (.aload_n 0, 1) := by decide +kernel
theorem dX8_dangerOf_22 : decode cX8_dangerOf 22 = .ok (.iload_n 3, 1) := by decide +kernel
theorem dX8_dangerOf_23 : decode cX8_dangerOf 23 = .ok (.aload_n 0, 1) := by decide +kernel
theorem dX8_dangerOf_24 : decode cX8_dangerOf 24 = .ok (.getfield 36, 3) := by decide +kernel
theorem dX8_dangerOf_27 : decode cX8_dangerOf 27 = .ok (.iload_n 1, 1) := by decide +kernel
theorem dX8_dangerOf_28 : decode cX8_dangerOf 28 = .ok (.iaload, 1) := by decide +kernel
theorem dX8_dangerOf_29 : decode cX8_dangerOf 29 = .ok (.invokevirtual 140, 3) := by decide +kernel
theorem dX8_dangerOf_32 : decode cX8_dangerOf 32 = .ok (.aload_n 0, 1) := by decide +kernel
theorem dX8_dangerOf_33 : decode cX8_dangerOf 33 = .ok (.getfield 39, 3) := by decide +kernel
theorem dX8_dangerOf_36 : decode cX8_dangerOf 36 = .ok (.iload_n 1, 1) := by decide +kernel
theorem dX8_dangerOf_37 : decode cX8_dangerOf 37 = .ok (.iaload, 1) := by decide +kernel
theorem dX8_dangerOf_38 : decode cX8_dangerOf 38 = .ok (.iload_n 2, 1) := by decide +kernel
theorem dX8_dangerOf_39 : decode cX8_dangerOf 39 = .ok (.invokevirtual 143, 3) := by decide +kernel
theorem dX8_dangerOf_42 : decode cX8_dangerOf 42 = .ok (.istore 4, 2) := by decide +kernel
theorem dX8_dangerOf_44 : decode cX8_dangerOf 44 = .ok (.iload 4, 2) := by decide +kernel
theorem dX8_dangerOf_46 : decode cX8_dangerOf 46 = .ok (.ldc 128, 2) := by decide +kernel
theorem dX8_dangerOf_48 : decode cX8_dangerOf 48 = .ok (.if_icmp .lt 7, 3) := by decide +kernel
theorem dX8_dangerOf_51 : decode cX8_dangerOf 51 = .ok (.sipush 1000, 3) := by decide +kernel
theorem dX8_dangerOf_54 : decode cX8_dangerOf 54 = .ok (.ireturn, 1) := by decide +kernel
theorem dX8_dangerOf_55 : decode cX8_dangerOf 55 = .ok (.aload_n 0, 1) := by decide +kernel
theorem dX8_dangerOf_56 : decode cX8_dangerOf 56 = .ok (.iload_n 3, 1) := by decide +kernel
theorem dX8_dangerOf_57 : decode cX8_dangerOf 57 = .ok (.aload_n 0, 1) := by decide +kernel
theorem dX8_dangerOf_58 : decode cX8_dangerOf 58 = .ok (.getfield 36, 3) := by decide +kernel
theorem dX8_dangerOf_61 : decode cX8_dangerOf 61 = .ok (.iload_n 1, 1) := by decide +kernel
theorem dX8_dangerOf_62 : decode cX8_dangerOf 62 = .ok (.iaload, 1) := by decide +kernel
theorem dX8_dangerOf_63 : decode cX8_dangerOf 63 = .ok (.invokevirtual 137, 3) := by decide +kernel
theorem dX8_dangerOf_66 : decode cX8_dangerOf 66 = .ok (.iload 4, 2) := by decide +kernel
theorem dX8_dangerOf_68 : decode cX8_dangerOf 68 = .ok (.iadd, 1) := by decide +kernel
theorem dX8_dangerOf_69 : decode cX8_dangerOf 69 = .ok (.aload_n 0, 1) := by decide +kernel
theorem dX8_dangerOf_70 : decode cX8_dangerOf 70 = .ok (.getfield 45, 3) := by decide +kernel
theorem dX8_dangerOf_73 : decode cX8_dangerOf 73 = .ok (.iload_n 1, 1) := by decide +kernel
theorem dX8_dangerOf_74 : decode cX8_dangerOf 74 = .ok (.iaload, 1) := by decide +kernel
theorem dX8_dangerOf_75 : decode cX8_dangerOf 75 = .ok (.isub, 1) := by decide +kernel
theorem dX8_dangerOf_76 : decode cX8_dangerOf 76 = .ok (.istore 5, 2) := by decide +kernel
theorem dX8_dangerOf_78 : decode cX8_dangerOf 78 = .ok (.iload 5, 2) := by decide +kernel
theorem dX8_dangerOf_80 : decode cX8_dangerOf 80 = .ok (.bipush 30, 2) := by decide +kernel
theorem dX8_dangerOf_82 : decode cX8_dangerOf 82 = .ok (.if_icmp .ge 7, 3) := by decide +kernel
theorem dX8_dangerOf_85 : decode cX8_dangerOf 85 = .ok (.iconst 0, 1) := by decide +kernel
theorem dX8_dangerOf_86 : decode cX8_dangerOf 86 = .ok (.goto 12, 3) := by decide +kernel
theorem dX8_dangerOf_89 : decode cX8_dangerOf 89 = .ok (.aload_n 0, 1) := by decide +kernel
theorem dX8_dangerOf_90 : decode cX8_dangerOf 90 = .ok (.sipush 999, 3) := by decide +kernel
theorem dX8_dangerOf_93 : decode cX8_dangerOf 93 = .ok (.iload 5, 2) := by decide +kernel
theorem dX8_dangerOf_95 : decode cX8_dangerOf 95 = .ok (.invokevirtual 129, 3) := by decide +kernel
theorem dX8_dangerOf_98 : decode cX8_dangerOf 98 = .ok (.ireturn, 1) := by decide +kernel
theorem dX8_danger_0 : decode cX8_danger 0 = .ok (.aload_n 0, 1) := by decide +kernel
theorem dX8_danger_1 : decode cX8_danger 1 = .ok (.iload_n 1, 1) := by decide +kernel
theorem dX8_danger_2 : decode cX8_danger 2 = .ok (.invokevirtual 158, 3) := by decide +kernel
theorem dX8_danger_5 : decode cX8_danger 5 = .ok (.ifCond .eq 16, 3) := by decide +kernel
theorem dX8_danger_8 : decode cX8_danger 8 = .ok (.aload_n 0, 1) := by decide +kernel
theorem dX8_danger_9 : decode cX8_danger 9 = .ok (.aload_n 0, 1) := by decide +kernel
theorem dX8_danger_10 : decode cX8_danger 10 = .ok (.iload_n 1, 1) := by decide +kernel
theorem dX8_danger_11 : decode cX8_danger 11 = .ok (.iload_n 2, 1) := by decide +kernel
theorem dX8_danger_12 : decode cX8_danger 12 = .ok (.invokevirtual 161, 3) := by decide +kernel
theorem dX8_danger_15 : decode cX8_danger 15 = .ok (.invokevirtual 114, 3) := by decide +kernel
theorem dX8_danger_18 : decode cX8_danger 18 = .ok (.goto 8, 3) := by decide +kernel
theorem dX8_danger_21 : decode cX8_danger 21 = .ok (.aload_n 0, 1) := by decide +kernel
theorem dX8_danger_22 : decode cX8_danger 22 = .ok (.iconst 1, 1) := by decide +kernel
theorem dX8_danger_23 : decode cX8_danger 23 = .ok (.invokevirtual 110, 3) := by decide +kernel
theorem dX8_danger_26 : decode cX8_danger 26 = .ok (.ireturn, 1) := by decide +kernel
theorem dX8_unsafe_0 : decode cX8_unsafe 0 = .ok (.iconst 0, 1) := by decide +kernel
theorem dX8_unsafe_1 : decode cX8_unsafe 1 = .ok (.istore_n 2, 1) := by decide +kernel
theorem dX8_unsafe_2 : decode cX8_unsafe 2 = .ok (.iconst 0, 1) := by decide +kernel
theorem dX8_unsafe_3 : decode cX8_unsafe 3 = .ok (.istore_n 3, 1) := by decide +kernel
theorem dX8_unsafe_4 : decode cX8_unsafe 4 = .ok (.iload_n 3, 1) := by decide +kernel
theorem dX8_unsafe_5 : decode cX8_unsafe 5 = .ok (.aload_n 0, 1) := by decide +kernel
theorem dX8_unsafe_6 : decode cX8_unsafe 6 = .ok (.getfield 101, 3) := by decide +kernel
theorem dX8_unsafe_9 : decode cX8_unsafe 9 = .ok (.if_icmp .ge 38, 3) := by decide +kernel
theorem dX8_unsafe_12 : decode cX8_unsafe 12 = .ok (.iload_n 2, 1) := by decide +kernel
theorem dX8_unsafe_13 : decode cX8_unsafe 13 = .ok (.aload_n 0, 1) := by decide +kernel
theorem dX8_unsafe_14 : decode cX8_unsafe 14 = .ok (.getfield 48, 3) := by decide +kernel
theorem dX8_unsafe_17 : decode cX8_unsafe 17 = .ok (.iload_n 3, 1) := by decide +kernel
theorem dX8_unsafe_18 : decode cX8_unsafe 18 = .ok (.baload, 1) := by decide +kernel
theorem dX8_unsafe_19 : decode cX8_unsafe 19 = .ok (.ifCond .ne 19, 3) := by decide +kernel
theorem dX8_unsafe_22 : decode cX8_unsafe 22 = .ok (.aload_n 0, 1) := by decide +kernel
theorem dX8_unsafe_23 : decode cX8_unsafe 23 = .ok (.iload_n 3, 1) := by decide +kernel
theorem dX8_unsafe_24 : decode cX8_unsafe 24 = .ok (.iload_n 1, 1) := by decide +kernel
theorem dX8_unsafe_25 : decode cX8_unsafe 25 = .ok (.invokevirtual 161, 3) := by decide +kernel
theorem dX8_unsafe_28 : decode cX8_unsafe 28 = .ok (.sipush 1000, 3) := by decide +kernel
theorem dX8_unsafe_31 : decode cX8_unsafe 31 = .ok (.if_icmp .ne 7, 3) := by decide +kernel
theorem dX8_unsafe_34 : decode cX8_unsafe 34 = .ok (.iconst 1, 1) := by decide +kernel
theorem dX8_unsafe_35 : decode cX8_unsafe 35 = .ok (.goto 4, 3) := by decide +kernel
theorem dX8_unsafe_38 : decode cX8_unsafe 38 = .ok (.iconst 0, 1) := by decide +kernel
theorem dX8_unsafe_39 : decode cX8_unsafe 39 = .ok (.iadd, 1) := by decide +kernel
theorem dX8_unsafe_40 : decode cX8_unsafe 40 = .ok (.istore_n 2, 1) := by decide +kernel
theorem dX8_unsafe_41 : decode cX8_unsafe 41 = .ok (.iinc 3 1, 3) := by decide +kernel
theorem dX8_unsafe_44 : decode cX8_unsafe 44 = .ok (.goto (-40), 3) := by decide +kernel
theorem dX8_unsafe_47 : decode cX8_unsafe 47 = .ok (.aload_n 0, 1) := by decide +kernel
theorem dX8_unsafe_48 : decode cX8_unsafe 48 = .ok (.iload_n 2, 1) := by decide +kernel
theorem dX8_unsafe_49 : decode cX8_unsafe 49 = .ok (.invokevirtual 114, 3) := by decide +kernel
theorem dX8_unsafe_52 : decode cX8_unsafe 52 = .ok (.ireturn, 1) := by decide +kernel
theorem dX8_report_0 : decode cX8_report 0 = .ok (.aload_n 0, 1) := by decide +kernel
theorem dX8_report_1 : decode cX8_report 1 = .ok (.aload_n 0, 1) := by decide +kernel
theorem dX8_report_2 : decode cX8_report 2 = .ok (.iload_n 1, 1) := by decide +kernel
theorem dX8_report_3 : decode cX8_report 3 = .ok (.iconst 0, 1) := by decide +kernel
theorem dX8_report_4 : decode cX8_report 4 = .ok (.bipush 9, 2) := by decide +kernel
theorem dX8_report_6 : decode cX8_report 6 = .ok (.invokevirtual 94, 3) := by decide +kernel
theorem dX8_report_9 : decode cX8_report 9 = .ok (.ifCond .ne 7, 3) := by decide +kernel
theorem dX8_report_12 : decode cX8_report 12 = .ok (.iconst 1, 1) := by decide +kernel
theorem dX8_report_13 : decode cX8_report 13 = .ok (.goto 16, 3) := by decide +kernel
theorem dX8_report_16 : decode cX8_report 16 = .ok (.aload_n 0, 1) := by decide +kernel
theorem dX8_report_17 : decode cX8_report 17 = .ok (.iload_n 2, 1) := by decide +kernel
theorem dX8_report_18 : decode cX8_report 18 = .ok (.invokevirtual 121, 3) := by decide +kernel
theorem dX8_report_21 : decode cX8_report 21 = .ok (.ifCond .ne 7, 3) := by decide +kernel
theorem dX8_report_24 : decode cX8_report 24 = .ok (.iconst 2, 1) := by decide +kernel
theorem dX8_report_25 : decode cX8_report 25 = .ok (.goto 4, 3) := by decide +kernel
theorem dX8_report_28 : decode cX8_report 28 = .ok (.iconst 0, 1) := by decide +kernel
theorem dX8_report_29 : decode cX8_report 29 = .ok (.putfield 88, 3) := by decide +kernel
theorem dX8_report_32 : decode cX8_report 32 = .ok (.aload_n 0, 1) := by decide +kernel
theorem dX8_report_33 : decode cX8_report 33 = .ok (.getfield 88, 3) := by decide +kernel
theorem dX8_report_36 : decode cX8_report 36 = .ok (.ifCond .le 5, 3) := by decide +kernel
theorem dX8_report_39 : decode cX8_report 39 = .ok (.iconst 0, 1) := by decide +kernel
theorem dX8_report_40 : decode cX8_report 40 = .ok (.ireturn, 1) := by decide +kernel
theorem dX8_report_41 : decode cX8_report 41 = .ok (.aload_n 0, 1) := by decide +kernel
theorem dX8_report_42 : decode cX8_report 42 = .ok (.getfield 51, 3) := by decide +kernel
theorem dX8_report_45 : decode cX8_report 45 = .ok (.iload_n 2, 1) := by decide +kernel
theorem dX8_report_46 : decode cX8_report 46 = .ok (.bipush 10, 2) := by decide +kernel
theorem dX8_report_48 : decode cX8_report 48 = .ok (.imul, 1) := by decide +kernel
theorem dX8_report_49 : decode cX8_report 49 = .ok (.iload_n 1, 1) := by decide +kernel
theorem dX8_report_50 : decode cX8_report 50 = .ok (.iadd, 1) := by decide +kernel
theorem dX8_report_51 : decode cX8_report 51 = .ok (.iload_n 3, 1) := by decide +kernel
theorem dX8_report_52 : decode cX8_report 52 = .ok (.ifCond .eq 7, 3) := by decide +kernel
theorem dX8_report_55 : decode cX8_report 55 = .ok (.iconst 1, 1) := by decide +kernel
theorem dX8_report_56 : decode cX8_report 56 = .ok (.goto 4, 3) := by decide +kernel
theorem dX8_report_59 : decode cX8_report 59 = .ok (.iconst 2, 1) := by decide +kernel
theorem dX8_report_60 : decode cX8_report 60 = .ok (.iastore, 1) := by decide +kernel
theorem dX8_report_61 : decode cX8_report 61 = .ok (.iconst 0, 1) := by decide +kernel
theorem dX8_report_62 : decode cX8_report 62 = .ok (.istore 4, 2) := by decide +kernel
theorem dX8_report_64 : decode cX8_report 64 = .ok (.iconst 0, 1) := by decide +kernel
theorem dX8_report_65 : decode cX8_report 65 = .ok (.istore 5, 2) := by decide +kernel
theorem dX8_report_67 : decode cX8_report 67 = .ok (.iconst 0, 1) := by decide +kernel
theorem dX8_report_68 : decode cX8_report 68 = .ok (.istore 6, 2) := by decide +kernel
theorem dX8_report_70 : decode cX8_report 70 = .ok (.iload 6, 2) := by decide +kernel
theorem dX8_report_72 : decode cX8_report 72 = .ok (.bipush 10, 2) := by decide +kernel
theorem dX8_report_74 : decode cX8_report 74 = .ok (.if_icmp .ge 67, 3) := by decide +kernel
theorem dX8_report_77 : decode cX8_report 77 = .ok (.aload_n 0, 1) := by decide +kernel
theorem dX8_report_78 : decode cX8_report 78 = .ok (.getfield 51, 3) := by decide +kernel
theorem dX8_report_81 : decode cX8_report 81 = .ok (.iload_n 2, 1) := by decide +kernel
theorem dX8_report_82 : decode cX8_report 82 = .ok (.bipush 10, 2) := by decide +kernel
theorem dX8_report_84 : decode cX8_report 84 = .ok (.imul, 1) := by decide +kernel
theorem dX8_report_85 : decode cX8_report 85 = .ok (.iload 6, 2) := by decide +kernel
theorem dX8_report_87 : decode cX8_report 87 = .ok (.iadd, 1) := by decide +kernel
theorem dX8_report_88 : decode cX8_report 88 = .ok (.iaload, 1) := by decide +kernel
theorem dX8_report_89 : decode cX8_report 89 = .ok (.istore 7, 2) := by decide +kernel
theorem dX8_report_91 : decode cX8_report 91 = .ok (.iload 4, 2) := by decide +kernel
theorem dX8_report_93 : decode cX8_report 93 = .ok (.iload 7, 2) := by decide +kernel
theorem dX8_report_95 : decode cX8_report 95 = .ok (.iconst 1, 1) := by decide +kernel
theorem dX8_report_96 : decode cX8_report 96 = .ok (.if_icmp .ne 13, 3) := by decide +kernel
theorem dX8_report_99 : decode cX8_report 99 = .ok (.aload_n 0, 1) := by decide +kernel
theorem dX8_report_100 : decode cX8_report 100 = .ok (.getfield 54, 3) := by decide +kernel
theorem dX8_report_103 : decode cX8_report 103 = .ok (.iload 6, 2) := by decide +kernel
theorem dX8_report_105 : decode cX8_report 105 = .ok (.iaload, 1) := by decide +kernel
theorem dX8_report_106 : decode cX8_report 106 = .ok (.goto 4, 3) := by decide +kernel
theorem dX8_report_109 : decode cX8_report 109 = .ok (.iconst 0, 1) := by decide +kernel
theorem dX8_report_110 : decode cX8_report 110 = .ok (.iadd, 1) := by decide +kernel
theorem dX8_report_111 : decode cX8_report 111 = .ok (.istore 4, 2) := by decide +kernel
theorem dX8_report_113 : decode cX8_report 113 = .ok (.iload 5, 2) := by decide +kernel
theorem dX8_report_115 : decode cX8_report 115 = .ok (.iload 7, 2) := by decide +kernel
theorem dX8_report_117 : decode cX8_report 117 = .ok (.iconst 2, 1) := by decide +kernel
theorem dX8_report_118 : decode cX8_report 118 = .ok (.if_icmp .ne 13, 3) := by decide +kernel
theorem dX8_report_121 : decode cX8_report 121 = .ok (.aload_n 0, 1) := by decide +kernel
theorem dX8_report_122 : decode cX8_report 122 = .ok (.getfield 54, 3) := by decide +kernel
theorem dX8_report_125 : decode cX8_report 125 = .ok (.iload 6, 2) := by decide +kernel
theorem dX8_report_127 : decode cX8_report 127 = .ok (.iaload, 1) := by decide +kernel
theorem dX8_report_128 : decode cX8_report 128 = .ok (.goto 4, 3) := by decide +kernel
theorem dX8_report_131 : decode cX8_report 131 = .ok (.iconst 0, 1) := by decide +kernel
theorem dX8_report_132 : decode cX8_report 132 = .ok (.iadd, 1) := by decide +kernel
theorem dX8_report_133 : decode cX8_report 133 = .ok (.istore 5, 2) := by decide +kernel
theorem dX8_report_135 : decode cX8_report 135 = .ok (.iinc 6 1, 3) := by decide +kernel
theorem dX8_report_138 : decode cX8_report 138 = .ok (.goto (-68), 3) := by decide +kernel
theorem dX8_report_141 : decode cX8_report 141 = .ok (.iload 4, 2) := by decide +kernel
theorem dX8_report_143 : decode cX8_report 143 = .ok (.bipush 100, 2) := by decide +kernel
theorem dX8_report_145 : decode cX8_report 145 = .ok (.if_icmp .lt 20, 3) := by decide +kernel
theorem dX8_report_148 : decode cX8_report 148 = .ok (.iload 4, 2) := by decide +kernel
theorem dX8_report_150 : decode cX8_report 150 = .ok (.iload 5, 2) := by decide +kernel
theorem dX8_report_152 : decode cX8_report 152 = .ok (.if_icmp .le 13, 3) := by decide +kernel
theorem dX8_report_155 : decode cX8_report 155 = .ok (.aload_n 0, 1) := by decide +kernel
theorem dX8_report_156 : decode cX8_report 156 = .ok (.getfield 33, 3) := by decide +kernel
theorem dX8_report_159 : decode cX8_report 159 = .ok (.iload_n 2, 1) := by decide +kernel
theorem dX8_report_160 : decode cX8_report 160 = .ok (.iconst 1, 1) := by decide +kernel
theorem dX8_report_161 : decode cX8_report 161 = .ok (.bastore, 1) := by decide +kernel
theorem dX8_report_162 : decode cX8_report 162 = .ok (.goto 24, 3) := by decide +kernel
theorem dX8_report_165 : decode cX8_report 165 = .ok (.iload 5, 2) := by decide +kernel
theorem dX8_report_167 : decode cX8_report 167 = .ok (.bipush 100, 2) := by decide +kernel
theorem dX8_report_169 : decode cX8_report 169 = .ok (.if_icmp .lt 17, 3) := by decide +kernel
theorem dX8_report_172 : decode cX8_report 172 = .ok (.iload 5, 2) := by decide +kernel
theorem dX8_report_174 : decode cX8_report 174 = .ok (.iload 4, 2) := by decide +kernel
theorem dX8_report_176 : decode cX8_report 176 = .ok (.if_icmp .lt 10, 3) := by decide +kernel
theorem dX8_report_179 : decode cX8_report 179 = .ok (.aload_n 0, 1) := by decide +kernel
theorem dX8_report_180 : decode cX8_report 180 = .ok (.getfield 33, 3) := by decide +kernel
theorem dX8_report_183 : decode cX8_report 183 = .ok (.iload_n 2, 1) := by decide +kernel
theorem dX8_report_184 : decode cX8_report 184 = .ok (.iconst 0, 1) := by decide +kernel
theorem dX8_report_185 : decode cX8_report 185 = .ok (.bastore, 1) := by decide +kernel
theorem dX8_report_186 : decode cX8_report 186 = .ok (.aload_n 0, 1) := by decide +kernel
theorem dX8_report_187 : decode cX8_report 187 = .ok (.getfield 33, 3) := by decide +kernel
theorem dX8_report_190 : decode cX8_report 190 = .ok (.iload_n 2, 1) := by decide +kernel
theorem dX8_report_191 : decode cX8_report 191 = .ok (.baload, 1) := by decide +kernel
theorem dX8_report_192 : decode cX8_report 192 = .ok (.ireturn, 1) := by decide +kernel
theorem dX8_sees_0 : decode cX8_sees 0 = .ok (.aload_n 0, 1) := by decide +kernel
theorem dX8_sees_1 : decode cX8_sees 1 = .ok (.getfield 33, 3) := by decide +kernel
theorem dX8_sees_4 : decode cX8_sees 4 = .ok (.iload_n 1, 1) := by decide +kernel
theorem dX8_sees_5 : decode cX8_sees 5 = .ok (.aload_n 0, 1) := by decide +kernel
theorem dX8_sees_6 : decode cX8_sees 6 = .ok (.getfield 30, 3) := by decide +kernel
theorem dX8_sees_9 : decode cX8_sees 9 = .ok (.iload_n 1, 1) := by decide +kernel
theorem dX8_sees_10 : decode cX8_sees 10 = .ok (.baload, 1) := by decide +kernel
theorem dX8_sees_11 : decode cX8_sees 11 = .ok (.bastore, 1) := by decide +kernel
theorem dX8_sees_12 : decode cX8_sees 12 = .ok (.iconst 0, 1) := by decide +kernel
theorem dX8_sees_13 : decode cX8_sees 13 = .ok (.istore_n 2, 1) := by decide +kernel
theorem dX8_sees_14 : decode cX8_sees 14 = .ok (.iload_n 2, 1) := by decide +kernel
theorem dX8_sees_15 : decode cX8_sees 15 = .ok (.bipush 10, 2) := by decide +kernel
theorem dX8_sees_17 : decode cX8_sees 17 = .ok (.if_icmp .ge 107, 3) := by decide +kernel
theorem dX8_sees_20 : decode cX8_sees 20 = .ok (.aload_n 0, 1) := by decide +kernel
theorem dX8_sees_21 : decode cX8_sees 21 = .ok (.getfield 51, 3) := by decide +kernel
theorem dX8_sees_24 : decode cX8_sees 24 = .ok (.iload_n 1, 1) := by decide +kernel
theorem dX8_sees_25 : decode cX8_sees 25 = .ok (.bipush 10, 2) := by decide +kernel
theorem dX8_sees_27 : decode cX8_sees 27 = .ok (.imul, 1) := by decide +kernel
theorem dX8_sees_28 : decode cX8_sees 28 = .ok (.iload_n 2, 1) := by decide +kernel
theorem dX8_sees_29 : decode cX8_sees 29 = .ok (.iadd, 1) := by decide +kernel
theorem dX8_sees_30 : decode cX8_sees 30 = .ok (.iaload, 1) := by decide +kernel
theorem dX8_sees_31 : decode cX8_sees 31 = .ok (.istore_n 3, 1) := by decide +kernel
theorem dX8_sees_32 : decode cX8_sees 32 = .ok (.aload_n 0, 1) := by decide +kernel
theorem dX8_sees_33 : decode cX8_sees 33 = .ok (.getfield 51, 3) := by decide +kernel
theorem dX8_sees_36 : decode cX8_sees 36 = .ok (.iload_n 1, 1) := by decide +kernel
theorem dX8_sees_37 : decode cX8_sees 37 = .ok (.bipush 10, 2) := by decide +kernel
theorem dX8_sees_39 : decode cX8_sees 39 = .ok (.imul, 1) := by decide +kernel
theorem dX8_sees_40 : decode cX8_sees 40 = .ok (.iload_n 2, 1) := by decide +kernel
theorem dX8_sees_41 : decode cX8_sees 41 = .ok (.iadd, 1) := by decide +kernel
theorem dX8_sees_42 : decode cX8_sees 42 = .ok (.iconst 0, 1) := by decide +kernel
theorem dX8_sees_43 : decode cX8_sees 43 = .ok (.iastore, 1) := by decide +kernel
theorem dX8_sees_44 : decode cX8_sees 44 = .ok (.iload_n 3, 1) := by decide +kernel
theorem dX8_sees_45 : decode cX8_sees 45 = .ok (.ifCond .ne 6, 3) := by decide +kernel
theorem dX8_sees_48 : decode cX8_sees 48 = .ok (.goto 70, 3) := by decide +kernel
theorem dX8_sees_51 : decode cX8_sees 51 = .ok (.aload_n 0, 1) := by decide +kernel
theorem dX8_sees_52 : decode cX8_sees 52 = .ok (.getfield 54, 3) := by decide +kernel
theorem dX8_sees_55 : decode cX8_sees 55 = .ok (.iload_n 2, 1) := by decide +kernel
theorem dX8_sees_56 : decode cX8_sees 56 = .ok (.iload_n 3, 1) := by decide +kernel
theorem dX8_sees_57 : decode cX8_sees 57 = .ok (.iconst 1, 1) := by decide +kernel
theorem dX8_sees_58 : decode cX8_sees 58 = .ok (.if_icmp .ne 7, 3) := by decide +kernel
theorem dX8_sees_61 : decode cX8_sees 61 = .ok (.iconst 1, 1) := by decide +kernel
theorem dX8_sees_62 : decode cX8_sees 62 = .ok (.goto 4, 3) := by decide +kernel
theorem dX8_sees_65 : decode cX8_sees 65 = .ok (.iconst 0, 1) := by decide +kernel
theorem dX8_sees_66 : decode cX8_sees 66 = .ok (.aload_n 0, 1) := by decide +kernel
theorem dX8_sees_67 : decode cX8_sees 67 = .ok (.getfield 30, 3) := by decide +kernel
theorem dX8_sees_70 : decode cX8_sees 70 = .ok (.iload_n 1, 1) := by decide +kernel
theorem dX8_sees_71 : decode cX8_sees 71 = .ok (.baload, 1) := by decide +kernel
theorem dX8_sees_72 : decode cX8_sees 72 = .ok (.if_icmp .ne 21, 3) := by decide +kernel
theorem dX8_sees_75 : decode cX8_sees 75 = .ok (.aload_n 0, 1) := by decide +kernel
theorem dX8_sees_76 : decode cX8_sees 76 = .ok (.bipush 100, 2) := by decide +kernel
theorem dX8_sees_78 : decode cX8_sees 78 = .ok (.aload_n 0, 1) := by decide +kernel
theorem dX8_sees_79 : decode cX8_sees 79 = .ok (.getfield 54, 3) := by decide +kernel
theorem dX8_sees_82 : decode cX8_sees 82 = .ok (.iload_n 2, 1) := by decide +kernel
theorem dX8_sees_83 : decode cX8_sees 83 = .ok (.iaload, 1) := by decide +kernel
theorem dX8_sees_84 : decode cX8_sees 84 = .ok (.bipush 10, 2) := by decide +kernel
theorem dX8_sees_86 : decode cX8_sees 86 = .ok (.iadd, 1) := by decide +kernel
theorem dX8_sees_87 : decode cX8_sees 87 = .ok (.invokevirtual 129, 3) := by decide +kernel
theorem dX8_sees_90 : decode cX8_sees 90 = .ok (.goto 27, 3) := by decide +kernel
theorem dX8_sees_93 : decode cX8_sees 93 = .ok (.aload_n 0, 1) := by decide +kernel
theorem dX8_sees_94 : decode cX8_sees 94 = .ok (.getfield 54, 3) := by decide +kernel
theorem dX8_sees_97 : decode cX8_sees 97 = .ok (.iload_n 2, 1) := by decide +kernel
theorem dX8_sees_98 : decode cX8_sees 98 = .ok (.iaload, 1) := by decide +kernel
theorem dX8_sees_99 : decode cX8_sees 99 = .ok (.bipush 20, 2) := by decide +kernel
theorem dX8_sees_101 : decode cX8_sees 101 = .ok (.if_icmp .ge 7, 3) := by decide +kernel
theorem dX8_sees_104 : decode cX8_sees 104 = .ok (.iconst 0, 1) := by decide +kernel
theorem dX8_sees_105 : decode cX8_sees 105 = .ok (.goto 12, 3) := by decide +kernel
theorem dX8_sees_108 : decode cX8_sees 108 = .ok (.aload_n 0, 1) := by decide +kernel
theorem dX8_sees_109 : decode cX8_sees 109 = .ok (.getfield 54, 3) := by decide +kernel
theorem dX8_sees_112 : decode cX8_sees 112 = .ok (.iload_n 2, 1) := by decide +kernel
theorem dX8_sees_113 : decode cX8_sees 113 = .ok (.iaload, 1) := by decide +kernel
theorem dX8_sees_114 : decode cX8_sees 114 = .ok (.bipush 20, 2) := by decide +kernel
theorem dX8_sees_116 : decode cX8_sees 116 = .ok (.isub, 1) := by decide +kernel
theorem dX8_sees_117 : decode cX8_sees 117 = .ok (.iastore, 1) := by decide +kernel
theorem dX8_sees_118 : decode cX8_sees 118 = .ok (.iinc 2 1, 3) := by decide +kernel
theorem dX8_sees_121 : decode cX8_sees 121 = .ok (.goto (-107), 3) := by decide +kernel
theorem dX8_sees_124 : decode cX8_sees 124 = .ok (.return_, 1) := by decide +kernel
theorem dX8_trust_0 : decode cX8_trust 0 = .ok (.aload_n 0, 1) := by decide +kernel
theorem dX8_trust_1 : decode cX8_trust 1 = .ok (.iload_n 1, 1) := by decide +kernel
theorem dX8_trust_2 : decode cX8_trust 2 = .ok (.iconst 0, 1) := by decide +kernel
theorem dX8_trust_3 : decode cX8_trust 3 = .ok (.bipush 9, 2) := by decide +kernel
theorem dX8_trust_5 : decode cX8_trust 5 = .ok (.invokevirtual 94, 3) := by decide +kernel
theorem dX8_trust_8 : decode cX8_trust 8 = .ok (.ifCond .eq 16, 3) := by decide +kernel
theorem dX8_trust_11 : decode cX8_trust 11 = .ok (.aload_n 0, 1) := by decide +kernel
theorem dX8_trust_12 : decode cX8_trust 12 = .ok (.aload_n 0, 1) := by decide +kernel
theorem dX8_trust_13 : decode cX8_trust 13 = .ok (.getfield 54, 3) := by decide +kernel
theorem dX8_trust_16 : decode cX8_trust 16 = .ok (.iload_n 1, 1) := by decide +kernel
theorem dX8_trust_17 : decode cX8_trust 17 = .ok (.iaload, 1) := by decide +kernel
theorem dX8_trust_18 : decode cX8_trust 18 = .ok (.invokevirtual 114, 3) := by decide +kernel
theorem dX8_trust_21 : decode cX8_trust 21 = .ok (.goto 8, 3) := by decide +kernel
theorem dX8_trust_24 : decode cX8_trust 24 = .ok (.aload_n 0, 1) := by decide +kernel
theorem dX8_trust_25 : decode cX8_trust 25 = .ok (.iconst 1, 1) := by decide +kernel
theorem dX8_trust_26 : decode cX8_trust 26 = .ok (.invokevirtual 110, 3) := by decide +kernel
theorem dX8_trust_29 : decode cX8_trust 29 = .ok (.ireturn, 1) := by decide +kernel
theorem dX8_reports_0 : decode cX8_reports 0 = .ok (.aload_n 0, 1) := by decide +kernel
theorem dX8_reports_1 : decode cX8_reports 1 = .ok (.iload_n 1, 1) := by decide +kernel
theorem dX8_reports_2 : decode cX8_reports 2 = .ok (.invokevirtual 121, 3) := by decide +kernel
theorem dX8_reports_5 : decode cX8_reports 5 = .ok (.ifCond .ne 9, 3) := by decide +kernel
theorem dX8_reports_8 : decode cX8_reports 8 = .ok (.aload_n 0, 1) := by decide +kernel
theorem dX8_reports_9 : decode cX8_reports 9 = .ok (.iconst 1, 1) := by decide +kernel
theorem dX8_reports_10 : decode cX8_reports 10 = .ok (.invokevirtual 110, 3) := by decide +kernel
theorem dX8_reports_13 : decode cX8_reports 13 = .ok (.ireturn, 1) := by decide +kernel
theorem dX8_reports_14 : decode cX8_reports 14 = .ok (.iconst 0, 1) := by decide +kernel
theorem dX8_reports_15 : decode cX8_reports 15 = .ok (.istore_n 2, 1) := by decide +kernel
theorem dX8_reports_16 : decode cX8_reports 16 = .ok (.iconst 0, 1) := by decide +kernel
theorem dX8_reports_17 : decode cX8_reports 17 = .ok (.istore_n 3, 1) := by decide +kernel
theorem dX8_reports_18 : decode cX8_reports 18 = .ok (.iload_n 3, 1) := by decide +kernel
theorem dX8_reports_19 : decode cX8_reports 19 = .ok (.bipush 10, 2) := by decide +kernel
theorem dX8_reports_21 : decode cX8_reports 21 = .ok (.if_icmp .ge 31, 3) := by decide +kernel
theorem dX8_reports_24 : decode cX8_reports 24 = .ok (.iload_n 2, 1) := by decide +kernel
theorem dX8_reports_25 : decode cX8_reports 25 = .ok (.aload_n 0, 1) := by decide +kernel
theorem dX8_reports_26 : decode cX8_reports 26 = .ok (.getfield 51, 3) := by decide +kernel
theorem dX8_reports_29 : decode cX8_reports 29 = .ok (.iload_n 1, 1) := by decide +kernel
theorem dX8_reports_30 : decode cX8_reports 30 = .ok (.bipush 10, 2) := by decide +kernel
theorem dX8_reports_32 : decode cX8_reports 32 = .ok (.imul, 1) := by decide +kernel
theorem dX8_reports_33 : decode cX8_reports 33 = .ok (.iload_n 3, 1) := by decide +kernel
theorem dX8_reports_34 : decode cX8_reports 34 = .ok (.iadd, 1) := by decide +kernel
theorem dX8_reports_35 : decode cX8_reports 35 = .ok (.iaload, 1) := by decide +kernel
theorem dX8_reports_36 : decode cX8_reports 36 = .ok (.ifCond .le 7, 3) := by decide +kernel
theorem dX8_reports_39 : decode cX8_reports 39 = .ok (.iconst 1, 1) := by decide +kernel
theorem dX8_reports_40 : decode cX8_reports 40 = .ok (.goto 4, 3) := by decide +kernel
theorem dX8_reports_43 : decode cX8_reports 43 = .ok (.iconst 0, 1) := by decide +kernel
theorem dX8_reports_44 : decode cX8_reports 44 = .ok (.iadd, 1) := by decide +kernel
theorem dX8_reports_45 : decode cX8_reports 45 = .ok (.istore_n 2, 1) := by decide +kernel
theorem dX8_reports_46 : decode cX8_reports 46 = .ok (.iinc 3 1, 3) := by decide +kernel
theorem dX8_reports_49 : decode cX8_reports 49 = .ok (.goto (-31), 3) := by decide +kernel
theorem dX8_reports_52 : decode cX8_reports 52 = .ok (.aload_n 0, 1) := by decide +kernel
theorem dX8_reports_53 : decode cX8_reports 53 = .ok (.iload_n 2, 1) := by decide +kernel
theorem dX8_reports_54 : decode cX8_reports 54 = .ok (.invokevirtual 114, 3) := by decide +kernel
theorem dX8_reports_57 : decode cX8_reports 57 = .ok (.ireturn, 1) := by decide +kernel
theorem dX8_adds_0 : decode cX8_adds 0 = .ok (.aload_n 0, 1) := by decide +kernel
theorem dX8_adds_1 : decode cX8_adds 1 = .ok (.getfield 57, 3) := by decide +kernel
theorem dX8_adds_4 : decode cX8_adds 4 = .ok (.aload_n 0, 1) := by decide +kernel
theorem dX8_adds_5 : decode cX8_adds 5 = .ok (.getfield 104, 3) := by decide +kernel
theorem dX8_adds_8 : decode cX8_adds 8 = .ok (.iload_n 1, 1) := by decide +kernel
theorem dX8_adds_9 : decode cX8_adds 9 = .ok (.castore, 1) := by decide +kernel
theorem dX8_adds_10 : decode cX8_adds 10 = .ok (.aload_n 0, 1) := by decide +kernel
theorem dX8_adds_11 : decode cX8_adds 11 = .ok (.getfield 61, 3) := by decide +kernel
theorem dX8_adds_14 : decode cX8_adds 14 = .ok (.aload_n 0, 1) := by decide +kernel
theorem dX8_adds_15 : decode cX8_adds 15 = .ok (.getfield 104, 3) := by decide +kernel
theorem dX8_adds_18 : decode cX8_adds 18 = .ok (.iload_n 2, 1) := by decide +kernel
theorem dX8_adds_19 : decode cX8_adds 19 = .ok (.iastore, 1) := by decide +kernel
theorem dX8_adds_20 : decode cX8_adds 20 = .ok (.aload_n 0, 1) := by decide +kernel
theorem dX8_adds_21 : decode cX8_adds 21 = .ok (.getfield 64, 3) := by decide +kernel
theorem dX8_adds_24 : decode cX8_adds 24 = .ok (.aload_n 0, 1) := by decide +kernel
theorem dX8_adds_25 : decode cX8_adds 25 = .ok (.getfield 104, 3) := by decide +kernel
theorem dX8_adds_28 : decode cX8_adds 28 = .ok (.iload_n 3, 1) := by decide +kernel
theorem dX8_adds_29 : decode cX8_adds 29 = .ok (.iastore, 1) := by decide +kernel
theorem dX8_adds_30 : decode cX8_adds 30 = .ok (.aload_n 0, 1) := by decide +kernel
theorem dX8_adds_31 : decode cX8_adds 31 = .ok (.getfield 67, 3) := by decide +kernel
theorem dX8_adds_34 : decode cX8_adds 34 = .ok (.aload_n 0, 1) := by decide +kernel
theorem dX8_adds_35 : decode cX8_adds 35 = .ok (.getfield 104, 3) := by decide +kernel
theorem dX8_adds_38 : decode cX8_adds 38 = .ok (.iconst (-1), 1) := by decide +kernel
theorem dX8_adds_39 : decode cX8_adds 39 = .ok (.iastore, 1) := by decide +kernel
theorem dX8_adds_40 : decode cX8_adds 40 = .ok (.aload_n 0, 1) := by decide +kernel
theorem dX8_adds_41 : decode cX8_adds 41 = .ok (.dup, 1) := by decide +kernel
theorem dX8_adds_42 : decode cX8_adds 42 = .ok (.getfield 104, 3) := by decide +kernel
theorem dX8_adds_45 : decode cX8_adds 45 = .ok (.iconst 1, 1) := by decide +kernel
theorem dX8_adds_46 : decode cX8_adds 46 = .ok (.iadd, 1) := by decide +kernel
theorem dX8_adds_47 : decode cX8_adds 47 = .ok (.putfield 104, 3) := by decide +kernel
theorem dX8_adds_50 : decode cX8_adds 50 = .ok (.aload_n 0, 1) := by decide +kernel
theorem dX8_adds_51 : decode cX8_adds 51 = .ok (.aload_n 0, 1) := by decide +kernel
theorem dX8_adds_52 : decode cX8_adds 52 = .ok (.getfield 104, 3) := by decide +kernel
theorem dX8_adds_55 : decode cX8_adds 55 = .ok (.iconst 1, 1) := by decide +kernel
theorem dX8_adds_56 : decode cX8_adds 56 = .ok (.isub, 1) := by decide +kernel
theorem dX8_adds_57 : decode cX8_adds 57 = .ok (.invokevirtual 114, 3) := by decide +kernel
theorem dX8_adds_60 : decode cX8_adds 60 = .ok (.ireturn, 1) := by decide +kernel
theorem dX8_addTask_0 : decode cX8_addTask 0 = .ok (.iload_n 1, 1) := by decide +kernel
theorem dX8_addTask_1 : decode cX8_addTask 1 = .ok (.bipush 109, 2) := by decide +kernel
theorem dX8_addTask_3 : decode cX8_addTask 3 = .ok (.if_icmp .eq 9, 3) := by decide +kernel
theorem dX8_addTask_6 : decode cX8_addTask 6 = .ok (.iload_n 1, 1) := by decide +kernel
theorem dX8_addTask_7 : decode cX8_addTask 7 = .ok (.bipush 114, 2) := by decide +kernel
theorem dX8_addTask_9 : decode cX8_addTask 9 = .ok (.if_icmp .ne 15, 3) := by decide +kernel
theorem dX8_addTask_12 : decode cX8_addTask 12 = .ok (.aload_n 0, 1) := by decide +kernel
theorem dX8_addTask_13 : decode cX8_addTask 13 = .ok (.iload_n 3, 1) := by decide +kernel
theorem dX8_addTask_14 : decode cX8_addTask 14 = .ok (.iconst 0, 1) := by decide +kernel
theorem dX8_addTask_15 : decode cX8_addTask 15 = .ok (.sipush 999, 3) := by decide +kernel
theorem dX8_addTask_18 : decode cX8_addTask 18 = .ok (.invokevirtual 94, 3) := by decide +kernel
theorem dX8_addTask_21 : decode cX8_addTask 21 = .ok (.ifCond .ne 9, 3) := by decide +kernel
theorem dX8_addTask_24 : decode cX8_addTask 24 = .ok (.aload_n 0, 1) := by decide +kernel
theorem dX8_addTask_25 : decode cX8_addTask 25 = .ok (.iconst 1, 1) := by decide +kernel
theorem dX8_addTask_26 : decode cX8_addTask 26 = .ok (.invokevirtual 110, 3) := by decide +kernel
theorem dX8_addTask_29 : decode cX8_addTask 29 = .ok (.ireturn, 1) := by decide +kernel
theorem dX8_addTask_30 : decode cX8_addTask 30 = .ok (.iload_n 1, 1) := by decide +kernel
theorem dX8_addTask_31 : decode cX8_addTask 31 = .ok (.bipush 109, 2) := by decide +kernel
theorem dX8_addTask_33 : decode cX8_addTask 33 = .ok (.if_icmp .ne 14, 3) := by decide +kernel
theorem dX8_addTask_36 : decode cX8_addTask 36 = .ok (.aload_n 0, 1) := by decide +kernel
theorem dX8_addTask_37 : decode cX8_addTask 37 = .ok (.iload_n 2, 1) := by decide +kernel
theorem dX8_addTask_38 : decode cX8_addTask 38 = .ok (.invokevirtual 121, 3) := by decide +kernel
theorem dX8_addTask_41 : decode cX8_addTask 41 = .ok (.ifCond .ne 20, 3) := by decide +kernel
theorem dX8_addTask_44 : decode cX8_addTask 44 = .ok (.goto 11, 3) := by decide +kernel
theorem dX8_addTask_47 : decode cX8_addTask 47 = .ok (.aload_n 0, 1) := by decide +kernel
theorem dX8_addTask_48 : decode cX8_addTask 48 = .ok (.iload_n 2, 1) := by decide +kernel
theorem dX8_addTask_49 : decode cX8_addTask 49 = .ok (.invokevirtual 158, 3) := by decide +kernel
theorem dX8_addTask_52 : decode cX8_addTask 52 = .ok (.ifCond .ne 9, 3) := by decide +kernel
theorem dX8_addTask_55 : decode cX8_addTask 55 = .ok (.aload_n 0, 1) := by decide +kernel
theorem dX8_addTask_56 : decode cX8_addTask 56 = .ok (.iconst 2, 1) := by decide +kernel
theorem dX8_addTask_57 : decode cX8_addTask 57 = .ok (.invokevirtual 110, 3) := by decide +kernel
theorem dX8_addTask_60 : decode cX8_addTask 60 = .ok (.ireturn, 1) := by decide +kernel
theorem dX8_addTask_61 : decode cX8_addTask 61 = .ok (.aload_n 0, 1) := by decide +kernel
theorem dX8_addTask_62 : decode cX8_addTask 62 = .ok (.getfield 104, 3) := by decide +kernel
theorem dX8_addTask_65 : decode cX8_addTask 65 = .ok (.bipush 40, 2) := by decide +kernel
theorem dX8_addTask_67 : decode cX8_addTask 67 = .ok (.if_icmp .ne 11, 3) := by decide +kernel
theorem dX8_addTask_70 : decode cX8_addTask 70 = .ok (.aload_n 0, 1) := by decide +kernel
theorem dX8_addTask_71 : decode cX8_addTask 71 = .ok (.iconst 3, 1) := by decide +kernel
theorem dX8_addTask_72 : decode cX8_addTask 72 = .ok (.invokevirtual 110, 3) := by decide +kernel
theorem dX8_addTask_75 : decode cX8_addTask 75 = .ok (.goto 10, 3) := by decide +kernel
theorem dX8_addTask_78 : decode cX8_addTask 78 = .ok (.aload_n 0, 1) := by decide +kernel
theorem dX8_addTask_79 : decode cX8_addTask 79 = .ok (.iload_n 1, 1) := by decide +kernel
theorem dX8_addTask_80 : decode cX8_addTask 80 = .ok (.iload_n 2, 1) := by decide +kernel
theorem dX8_addTask_81 : decode cX8_addTask 81 = .ok (.iload_n 3, 1) := by decide +kernel
theorem dX8_addTask_82 : decode cX8_addTask 82 = .ok (.invokevirtual 165, 3) := by decide +kernel
theorem dX8_addTask_85 : decode cX8_addTask 85 = .ok (.ireturn, 1) := by decide +kernel
theorem dX8_hasOpen_0 : decode cX8_hasOpen 0 = .ok (.iconst 0, 1) := by decide +kernel
theorem dX8_hasOpen_1 : decode cX8_hasOpen 1 = .ok (.istore_n 3, 1) := by decide +kernel
theorem dX8_hasOpen_2 : decode cX8_hasOpen 2 = .ok (.iconst 0, 1) := by decide +kernel
theorem dX8_hasOpen_3 : decode cX8_hasOpen 3 = .ok (.istore 4, 2) := by decide +kernel
theorem dX8_hasOpen_5 : decode cX8_hasOpen 5 = .ok (.iload 4, 2) := by decide +kernel
theorem dX8_hasOpen_7 : decode cX8_hasOpen 7 = .ok (.aload_n 0, 1) := by decide +kernel
theorem dX8_hasOpen_8 : decode cX8_hasOpen 8 = .ok (.getfield 104, 3) := by decide +kernel
theorem dX8_hasOpen_11 : decode cX8_hasOpen 11 = .ok (.if_icmp .ge 52, 3) := by decide +kernel
theorem dX8_hasOpen_14 : decode cX8_hasOpen 14 = .ok (.iload_n 3, 1) := by decide +kernel
theorem dX8_hasOpen_15 : decode cX8_hasOpen 15 = .ok (.ifCond .ne 36, 3) := by decide +kernel
theorem dX8_hasOpen_18 : decode cX8_hasOpen 18 = .ok (.aload_n 0, 1) := by decide +kernel
theorem dX8_hasOpen_19 : decode cX8_hasOpen 19 = .ok (.getfield 57, 3) := by decide +kernel
theorem dX8_hasOpen_22 : decode cX8_hasOpen 22 = .ok (.iload 4, 2) := by decide +kernel
theorem dX8_hasOpen_24 : decode cX8_hasOpen 24 = .ok (.caload, 1) := by decide +kernel
theorem dX8_hasOpen_25 : decode cX8_hasOpen 25 = .ok (.iload_n 1, 1) := by decide +kernel
theorem dX8_hasOpen_26 : decode cX8_hasOpen 26 = .ok (.if_icmp .ne 29, 3) := by decide +kernel
theorem dX8_hasOpen_29 : decode cX8_hasOpen 29 = .ok (.aload_n 0, 1) := by decide +kernel
theorem dX8_hasOpen_30 : decode cX8_hasOpen 30 = .ok (.getfield 61, 3) := by decide +kernel
theorem dX8_hasOpen_33 : decode cX8_hasOpen 33 = .ok (.iload 4, 2) := by decide +kernel
theorem dX8_hasOpen_35 : decode cX8_hasOpen 35 = .ok (.iaload, 1) := by decide +kernel
theorem dX8_hasOpen_36 : decode cX8_hasOpen 36 = .ok (.iload_n 2, 1) := by decide +kernel
theorem dX8_hasOpen_37 : decode cX8_hasOpen 37 = .ok (.if_icmp .ne 18, 3) := by decide +kernel
theorem dX8_hasOpen_40 : decode cX8_hasOpen 40 = .ok (.aload_n 0, 1) := by decide +kernel
theorem dX8_hasOpen_41 : decode cX8_hasOpen 41 = .ok (.getfield 67, 3) := by decide +kernel
theorem dX8_hasOpen_44 : decode cX8_hasOpen 44 = .ok (.iload 4, 2) := by decide +kernel
theorem dX8_hasOpen_46 : decode cX8_hasOpen 46 = .ok (.iaload, 1) := by decide +kernel
theorem dX8_hasOpen_47 : decode cX8_hasOpen 47 = .ok (.iconst (-1), 1) := by decide +kernel
theorem dX8_hasOpen_48 : decode cX8_hasOpen 48 = .ok (.if_icmp .ne 7, 3) := by decide +kernel
theorem dX8_hasOpen_51 : decode cX8_hasOpen 51 = .ok (.iconst 1, 1) := by decide +kernel
theorem dX8_hasOpen_52 : decode cX8_hasOpen 52 = .ok (.goto 4, 3) := by decide +kernel
theorem dX8_hasOpen_55 : decode cX8_hasOpen 55 = .ok (.iconst 0, 1) := by decide +kernel
theorem dX8_hasOpen_56 : decode cX8_hasOpen 56 = .ok (.istore_n 3, 1) := by decide +kernel
theorem dX8_hasOpen_57 : decode cX8_hasOpen 57 = .ok (.iinc 4 1, 3) := by decide +kernel
theorem dX8_hasOpen_60 : decode cX8_hasOpen 60 = .ok (.goto (-55), 3) := by decide +kernel
theorem dX8_hasOpen_63 : decode cX8_hasOpen 63 = .ok (.iload_n 3, 1) := by decide +kernel
theorem dX8_hasOpen_64 : decode cX8_hasOpen 64 = .ok (.ireturn, 1) := by decide +kernel
theorem dX8_wants_0 : decode cX8_wants 0 = .ok (.aload_n 0, 1) := by decide +kernel
theorem dX8_wants_1 : decode cX8_wants 1 = .ok (.iload_n 1, 1) := by decide +kernel
theorem dX8_wants_2 : decode cX8_wants 2 = .ok (.iconst 0, 1) := by decide +kernel
theorem dX8_wants_3 : decode cX8_wants 3 = .ok (.invokevirtual 161, 3) := by decide +kernel
theorem dX8_wants_6 : decode cX8_wants 6 = .ok (.ifCond .le 7, 3) := by decide +kernel
theorem dX8_wants_9 : decode cX8_wants 9 = .ok (.iconst 1, 1) := by decide +kernel
theorem dX8_wants_10 : decode cX8_wants 10 = .ok (.goto 4, 3) := by decide +kernel
theorem dX8_wants_13 : decode cX8_wants 13 = .ok (.iconst 0, 1) := by decide +kernel
theorem dX8_wants_14 : decode cX8_wants 14 = .ok (.istore_n 2, 1) := by decide +kernel
theorem dX8_wants_15 : decode cX8_wants 15 = .ok (.aload_n 0, 1) := by decide +kernel
theorem dX8_wants_16 : decode cX8_wants 16 = .ok (.getfield 48, 3) := by decide +kernel
theorem dX8_wants_19 : decode cX8_wants 19 = .ok (.iload_n 1, 1) := by decide +kernel
theorem dX8_wants_20 : decode cX8_wants 20 = .ok (.baload, 1) := by decide +kernel
theorem dX8_wants_21 : decode cX8_wants 21 = .ok (.iload_n 2, 1) := by decide +kernel
theorem dX8_wants_22 : decode cX8_wants 22 = .ok (.if_icmp .eq 31, 3) := by decide +kernel
theorem dX8_wants_25 : decode cX8_wants 25 = .ok (.aload_n 0, 1) := by decide +kernel
theorem dX8_wants_26 : decode cX8_wants 26 = .ok (.aload_n 0, 1) := by decide +kernel
theorem dX8_wants_27 : decode cX8_wants 27 = .ok (.getfield 48, 3) := by decide +kernel
theorem dX8_wants_30 : decode cX8_wants 30 = .ok (.iload_n 1, 1) := by decide +kernel
theorem dX8_wants_31 : decode cX8_wants 31 = .ok (.baload, 1) := by decide +kernel
theorem dX8_wants_32 : decode cX8_wants 32 = .ok (.ifCond .eq 8, 3) := by decide +kernel
theorem dX8_wants_35 : decode cX8_wants 35 = .ok (.bipush 117, 2) := by decide +kernel
theorem dX8_wants_37 : decode cX8_wants 37 = .ok (.goto 5, 3) := by decide +kernel
theorem dX8_wants_40 : decode cX8_wants 40 = .ok (.bipush 99, 2) := by decide +kernel
theorem dX8_wants_42 : decode cX8_wants 42 = .ok (.iload_n 1, 1) := by decide +kernel
theorem dX8_wants_43 : decode cX8_wants 43 = .ok (.invokevirtual 169, 3) := by decide +kernel
theorem dX8_wants_46 : decode cX8_wants 46 = .ok (.ifCond .ne 7, 3) := by decide +kernel
theorem dX8_wants_49 : decode cX8_wants 49 = .ok (.iconst 1, 1) := by decide +kernel
theorem dX8_wants_50 : decode cX8_wants 50 = .ok (.goto 4, 3) := by decide +kernel
theorem dX8_wants_53 : decode cX8_wants 53 = .ok (.iconst 0, 1) := by decide +kernel
theorem dX8_wants_54 : decode cX8_wants 54 = .ok (.ireturn, 1) := by decide +kernel
theorem dX8_plan_0 : decode cX8_plan 0 = .ok (.iconst 0, 1) := by decide +kernel
theorem dX8_plan_1 : decode cX8_plan 1 = .ok (.istore_n 1, 1) := by decide +kernel
theorem dX8_plan_2 : decode cX8_plan 2 = .ok (.aload_n 0, 1) := by decide +kernel
theorem dX8_plan_3 : decode cX8_plan 3 = .ok (.getfield 104, 3) := by decide +kernel
theorem dX8_plan_6 : decode cX8_plan 6 = .ok (.bipush 40, 2) := by decide +kernel
theorem dX8_plan_8 : decode cX8_plan 8 = .ok (.if_icmp .ge 95, 3) := by decide +kernel
theorem dX8_plan_11 : decode cX8_plan 11 = .ok (.iconst (-1), 1) := by decide +kernel
theorem dX8_plan_12 : decode cX8_plan 12 = .ok (.istore_n 2, 1) := by decide +kernel
theorem dX8_plan_13 : decode cX8_plan 13 = .ok (.iconst (-1), 1) := by decide +kernel
theorem dX8_plan_14 : decode cX8_plan 14 = .ok (.istore_n 3, 1) := by decide +kernel
theorem dX8_plan_15 : decode cX8_plan 15 = .ok (.iconst 0, 1) := by decide +kernel
theorem dX8_plan_16 : decode cX8_plan 16 = .ok (.istore 4, 2) := by decide +kernel
theorem dX8_plan_18 : decode cX8_plan 18 = .ok (.iload 4, 2) := by decide +kernel
theorem dX8_plan_20 : decode cX8_plan 20 = .ok (.aload_n 0, 1) := by decide +kernel
theorem dX8_plan_21 : decode cX8_plan 21 = .ok (.getfield 101, 3) := by decide +kernel
theorem dX8_plan_24 : decode cX8_plan 24 = .ok (.if_icmp .ge 42, 3) := by decide +kernel
theorem dX8_plan_27 : decode cX8_plan 27 = .ok (.aload_n 0, 1) := by decide +kernel
theorem dX8_plan_28 : decode cX8_plan 28 = .ok (.iload 4, 2) := by decide +kernel
theorem dX8_plan_30 : decode cX8_plan 30 = .ok (.iconst 0, 1) := by decide +kernel
theorem dX8_plan_31 : decode cX8_plan 31 = .ok (.invokevirtual 161, 3) := by decide +kernel
theorem dX8_plan_34 : decode cX8_plan 34 = .ok (.istore 5, 2) := by decide +kernel
theorem dX8_plan_36 : decode cX8_plan 36 = .ok (.iload 5, 2) := by decide +kernel
theorem dX8_plan_38 : decode cX8_plan 38 = .ok (.iload_n 3, 1) := by decide +kernel
theorem dX8_plan_39 : decode cX8_plan 39 = .ok (.if_icmp .le 21, 3) := by decide +kernel
theorem dX8_plan_42 : decode cX8_plan 42 = .ok (.aload_n 0, 1) := by decide +kernel
theorem dX8_plan_43 : decode cX8_plan 43 = .ok (.iload 4, 2) := by decide +kernel
theorem dX8_plan_45 : decode cX8_plan 45 = .ok (.invokevirtual 173, 3) := by decide +kernel
theorem dX8_plan_48 : decode cX8_plan 48 = .ok (.ifCond .ne 6, 3) := by decide +kernel
theorem dX8_plan_51 : decode cX8_plan 51 = .ok (.goto 9, 3) := by decide +kernel
theorem dX8_plan_54 : decode cX8_plan 54 = .ok (.iload 5, 2) := by decide +kernel
theorem dX8_plan_56 : decode cX8_plan 56 = .ok (.istore_n 3, 1) := by decide +kernel
theorem dX8_plan_57 : decode cX8_plan 57 = .ok (.iload 4, 2) := by decide +kernel
theorem dX8_plan_59 : decode cX8_plan 59 = .ok (.istore_n 2, 1) := by decide +kernel
theorem dX8_plan_60 : decode cX8_plan 60 = .ok (.iinc 4 1, 3) := by decide +kernel
theorem dX8_plan_63 : decode cX8_plan 63 = .ok (.goto (-45), 3) := by decide +kernel
theorem dX8_plan_66 : decode cX8_plan 66 = .ok (.iload_n 2, 1) := by decide +kernel
theorem dX8_plan_67 : decode cX8_plan 67 = .ok (.iconst (-1), 1) := by decide +kernel
theorem dX8_plan_68 : decode cX8_plan 68 = .ok (.if_icmp .ne 6, 3) := by decide +kernel
theorem dX8_plan_71 : decode cX8_plan 71 = .ok (.goto 32, 3) := by decide +kernel
theorem dX8_plan_74 : decode cX8_plan 74 = .ok (.aload_n 0, 1) := by decide +kernel
theorem dX8_plan_75 : decode cX8_plan 75 = .ok (.aload_n 0, 1) := by decide +kernel
theorem dX8_plan_76 : decode cX8_plan 76 = .ok (.getfield 48, 3) := by decide +kernel
theorem dX8_plan_79 : decode cX8_plan 79 = .ok (.iload_n 2, 1) := by decide +kernel
theorem dX8_plan_80 : decode cX8_plan 80 = .ok (.baload, 1) := by decide +kernel
theorem dX8_plan_81 : decode cX8_plan 81 = .ok (.ifCond .eq 8, 3) := by decide +kernel
theorem dX8_plan_84 : decode cX8_plan 84 = .ok (.bipush 117, 2) := by decide +kernel
theorem dX8_plan_86 : decode cX8_plan 86 = .ok (.goto 5, 3) := by decide +kernel
theorem dX8_plan_89 : decode cX8_plan 89 = .ok (.bipush 99, 2) := by decide +kernel
theorem dX8_plan_91 : decode cX8_plan 91 = .ok (.iload_n 2, 1) := by decide +kernel
theorem dX8_plan_92 : decode cX8_plan 92 = .ok (.iload_n 3, 1) := by decide +kernel
theorem dX8_plan_93 : decode cX8_plan 93 = .ok (.invokevirtual 165, 3) := by decide +kernel
theorem dX8_plan_96 : decode cX8_plan 96 = .ok (.pop, 1) := by decide +kernel
theorem dX8_plan_97 : decode cX8_plan 97 = .ok (.iinc 1 1, 3) := by decide +kernel
theorem dX8_plan_100 : decode cX8_plan 100 = .ok (.goto (-98), 3) := by decide +kernel
theorem dX8_plan_103 : decode cX8_plan 103 = .ok (.aload_n 0, 1) := by decide +kernel
theorem dX8_plan_104 : decode cX8_plan 104 = .ok (.iload_n 1, 1) := by decide +kernel
theorem dX8_plan_105 : decode cX8_plan 105 = .ok (.invokevirtual 114, 3) := by decide +kernel
theorem dX8_plan_108 : decode cX8_plan 108 = .ok (.ireturn, 1) := by decide +kernel
theorem dX8_kindOf_0 : decode cX8_kindOf 0 = .ok (.aload_n 0, 1) := by decide +kernel
theorem dX8_kindOf_1 : decode cX8_kindOf 1 = .ok (.aload_n 0, 1) := by decide +kernel
theorem dX8_kindOf_2 : decode cX8_kindOf 2 = .ok (.iload_n 1, 1) := by decide +kernel
theorem dX8_kindOf_3 : decode cX8_kindOf 3 = .ok (.invokevirtual 176, 3) := by decide +kernel
theorem dX8_kindOf_6 : decode cX8_kindOf 6 = .ok (.ifCond .eq 7, 3) := by decide +kernel
theorem dX8_kindOf_9 : decode cX8_kindOf 9 = .ok (.iconst 0, 1) := by decide +kernel
theorem dX8_kindOf_10 : decode cX8_kindOf 10 = .ok (.goto 4, 3) := by decide +kernel
theorem dX8_kindOf_13 : decode cX8_kindOf 13 = .ok (.iconst 1, 1) := by decide +kernel
theorem dX8_kindOf_14 : decode cX8_kindOf 14 = .ok (.putfield 88, 3) := by decide +kernel
theorem dX8_kindOf_17 : decode cX8_kindOf 17 = .ok (.aload_n 0, 1) := by decide +kernel
theorem dX8_kindOf_18 : decode cX8_kindOf 18 = .ok (.getfield 88, 3) := by decide +kernel
theorem dX8_kindOf_21 : decode cX8_kindOf 21 = .ok (.ifCond .ne 12, 3) := by decide +kernel
theorem dX8_kindOf_24 : decode cX8_kindOf 24 = .ok (.aload_n 0, 1) := by decide +kernel
theorem dX8_kindOf_25 : decode cX8_kindOf 25 = .ok (.getfield 57, 3) := by decide +kernel
theorem dX8_kindOf_28 : decode cX8_kindOf 28 = .ok (.iload_n 1, 1) := by decide +kernel
theorem dX8_kindOf_29 : decode cX8_kindOf 29 = .ok (.caload, 1) := by decide +kernel
theorem dX8_kindOf_30 : decode cX8_kindOf 30 = .ok (.goto 5, 3) := by decide +kernel
theorem dX8_kindOf_33 : decode cX8_kindOf 33 = .ok (.bipush 32, 2) := by decide +kernel
theorem dX8_kindOf_35 : decode cX8_kindOf 35 = .ok (.ireturn, 1) := by decide +kernel
theorem dX8_numberOf_0 : decode cX8_numberOf 0 = .ok (.aload_n 0, 1) := by decide +kernel
theorem dX8_numberOf_1 : decode cX8_numberOf 1 = .ok (.iload_n 1, 1) := by decide +kernel
theorem dX8_numberOf_2 : decode cX8_numberOf 2 = .ok (.invokevirtual 176, 3) := by decide +kernel
theorem dX8_numberOf_5 : decode cX8_numberOf 5 = .ok (.ifCond .eq 16, 3) := by decide +kernel
theorem dX8_numberOf_8 : decode cX8_numberOf 8 = .ok (.aload_n 0, 1) := by decide +kernel
theorem dX8_numberOf_9 : decode cX8_numberOf 9 = .ok (.aload_n 0, 1) := by decide +kernel
theorem dX8_numberOf_10 : decode cX8_numberOf 10 = .ok (.getfield 61, 3) := by decide +kernel
theorem dX8_numberOf_13 : decode cX8_numberOf 13 = .ok (.iload_n 1, 1) := by decide +kernel
theorem dX8_numberOf_14 : decode cX8_numberOf 14 = .ok (.iaload, 1) := by decide +kernel
theorem dX8_numberOf_15 : decode cX8_numberOf 15 = .ok (.invokevirtual 114, 3) := by decide +kernel
theorem dX8_numberOf_18 : decode cX8_numberOf 18 = .ok (.goto 8, 3) := by decide +kernel
theorem dX8_numberOf_21 : decode cX8_numberOf 21 = .ok (.aload_n 0, 1) := by decide +kernel
theorem dX8_numberOf_22 : decode cX8_numberOf 22 = .ok (.iconst 1, 1) := by decide +kernel
theorem dX8_numberOf_23 : decode cX8_numberOf 23 = .ok (.invokevirtual 110, 3) := by decide +kernel
theorem dX8_numberOf_26 : decode cX8_numberOf 26 = .ok (.ireturn, 1) := by decide +kernel
theorem dX8_doneBy_0 : decode cX8_doneBy 0 = .ok (.aload_n 0, 1) := by decide +kernel
theorem dX8_doneBy_1 : decode cX8_doneBy 1 = .ok (.iload_n 1, 1) := by decide +kernel
theorem dX8_doneBy_2 : decode cX8_doneBy 2 = .ok (.invokevirtual 176, 3) := by decide +kernel
theorem dX8_doneBy_5 : decode cX8_doneBy 5 = .ok (.ifCond .ne 11, 3) := by decide +kernel
theorem dX8_doneBy_8 : decode cX8_doneBy 8 = .ok (.aload_n 0, 1) := by decide +kernel
theorem dX8_doneBy_9 : decode cX8_doneBy 9 = .ok (.iconst 1, 1) := by decide +kernel
theorem dX8_doneBy_10 : decode cX8_doneBy 10 = .ok (.invokevirtual 110, 3) := by decide +kernel
theorem dX8_doneBy_13 : decode cX8_doneBy 13 = .ok (.goto 31, 3) := by decide +kernel
theorem dX8_doneBy_16 : decode cX8_doneBy 16 = .ok (.aload_n 0, 1) := by decide +kernel
theorem dX8_doneBy_17 : decode cX8_doneBy 17 = .ok (.getfield 67, 3) := by decide +kernel
theorem dX8_doneBy_20 : decode cX8_doneBy 20 = .ok (.iload_n 1, 1) := by decide +kernel
theorem dX8_doneBy_21 : decode cX8_doneBy 21 = .ok (.iaload, 1) := by decide +kernel
theorem dX8_doneBy_22 : decode cX8_doneBy 22 = .ok (.iconst (-1), 1) := by decide +kernel
theorem dX8_doneBy_23 : decode cX8_doneBy 23 = .ok (.if_icmp .ne 11, 3) := by decide +kernel
theorem dX8_doneBy_26 : decode cX8_doneBy 26 = .ok (.aload_n 0, 1) := by decide +kernel
theorem dX8_doneBy_27 : decode cX8_doneBy 27 = .ok (.iconst 2, 1) := by decide +kernel
theorem dX8_doneBy_28 : decode cX8_doneBy 28 = .ok (.invokevirtual 110, 3) := by decide +kernel
theorem dX8_doneBy_31 : decode cX8_doneBy 31 = .ok (.goto 13, 3) := by decide +kernel
theorem dX8_doneBy_34 : decode cX8_doneBy 34 = .ok (.aload_n 0, 1) := by decide +kernel
theorem dX8_doneBy_35 : decode cX8_doneBy 35 = .ok (.aload_n 0, 1) := by decide +kernel
theorem dX8_doneBy_36 : decode cX8_doneBy 36 = .ok (.getfield 67, 3) := by decide +kernel
theorem dX8_doneBy_39 : decode cX8_doneBy 39 = .ok (.iload_n 1, 1) := by decide +kernel
theorem dX8_doneBy_40 : decode cX8_doneBy 40 = .ok (.iaload, 1) := by decide +kernel
theorem dX8_doneBy_41 : decode cX8_doneBy 41 = .ok (.invokevirtual 114, 3) := by decide +kernel
theorem dX8_doneBy_44 : decode cX8_doneBy 44 = .ok (.ireturn, 1) := by decide +kernel
theorem dX8_openTasks_0 : decode cX8_openTasks 0 = .ok (.iconst 0, 1) := by decide +kernel
theorem dX8_openTasks_1 : decode cX8_openTasks 1 = .ok (.istore_n 1, 1) := by decide +kernel
theorem dX8_openTasks_2 : decode cX8_openTasks 2 = .ok (.iconst 0, 1) := by decide +kernel
theorem dX8_openTasks_3 : decode cX8_openTasks 3 = .ok (.istore_n 2, 1) := by decide +kernel
theorem dX8_openTasks_4 : decode cX8_openTasks 4 = .ok (.iload_n 2, 1) := by decide +kernel
theorem dX8_openTasks_5 : decode cX8_openTasks 5 = .ok (.aload_n 0, 1) := by decide +kernel
theorem dX8_openTasks_6 : decode cX8_openTasks 6 = .ok (.getfield 104, 3) := by decide +kernel
theorem dX8_openTasks_9 : decode cX8_openTasks 9 = .ok (.if_icmp .ge 27, 3) := by decide +kernel
theorem dX8_openTasks_12 : decode cX8_openTasks 12 = .ok (.iload_n 1, 1) := by decide +kernel
theorem dX8_openTasks_13 : decode cX8_openTasks 13 = .ok (.aload_n 0, 1) := by decide +kernel
theorem dX8_openTasks_14 : decode cX8_openTasks 14 = .ok (.getfield 67, 3) := by decide +kernel
theorem dX8_openTasks_17 : decode cX8_openTasks 17 = .ok (.iload_n 2, 1) := by decide +kernel
theorem dX8_openTasks_18 : decode cX8_openTasks 18 = .ok (.iaload, 1) := by decide +kernel
theorem dX8_openTasks_19 : decode cX8_openTasks 19 = .ok (.iconst (-1), 1) := by decide +kernel
theorem dX8_openTasks_20 : decode cX8_openTasks 20 = .ok (.if_icmp .ne 7, 3) := by decide +kernel
theorem dX8_openTasks_23 : decode cX8_openTasks 23 = .ok (.iconst 1, 1) := by decide +kernel
theorem dX8_openTasks_24 : decode cX8_openTasks 24 = .ok (.goto 4, 3) := by decide +kernel
theorem dX8_openTasks_27 : decode cX8_openTasks 27 = .ok (.iconst 0, 1) := by decide +kernel
theorem dX8_openTasks_28 : decode cX8_openTasks 28 = .ok (.iadd, 1) := by decide +kernel
theorem dX8_openTasks_29 : decode cX8_openTasks 29 = .ok (.istore_n 1, 1) := by decide +kernel
theorem dX8_openTasks_30 : decode cX8_openTasks 30 = .ok (.iinc 2 1, 3) := by decide +kernel
theorem dX8_openTasks_33 : decode cX8_openTasks 33 = .ok (.goto (-29), 3) := by decide +kernel
theorem dX8_openTasks_36 : decode cX8_openTasks 36 = .ok (.aload_n 0, 1) := by decide +kernel
theorem dX8_openTasks_37 : decode cX8_openTasks 37 = .ok (.iload_n 1, 1) := by decide +kernel
theorem dX8_openTasks_38 : decode cX8_openTasks 38 = .ok (.invokevirtual 114, 3) := by decide +kernel
theorem dX8_openTasks_41 : decode cX8_openTasks 41 = .ok (.ireturn, 1) := by decide +kernel
theorem dX8_addRanger_0 : decode cX8_addRanger 0 = .ok (.aload_n 0, 1) := by decide +kernel
theorem dX8_addRanger_1 : decode cX8_addRanger 1 = .ok (.iload_n 1, 1) := by decide +kernel
theorem dX8_addRanger_2 : decode cX8_addRanger 2 = .ok (.invokevirtual 117, 3) := by decide +kernel
theorem dX8_addRanger_5 : decode cX8_addRanger 5 = .ok (.ifCond .ne 9, 3) := by decide +kernel
theorem dX8_addRanger_8 : decode cX8_addRanger 8 = .ok (.aload_n 0, 1) := by decide +kernel
theorem dX8_addRanger_9 : decode cX8_addRanger 9 = .ok (.iconst 1, 1) := by decide +kernel
theorem dX8_addRanger_10 : decode cX8_addRanger 10 = .ok (.invokevirtual 110, 3) := by decide +kernel
theorem dX8_addRanger_13 : decode cX8_addRanger 13 = .ok (.ireturn, 1) := by decide +kernel
theorem dX8_addRanger_14 : decode cX8_addRanger 14 = .ok (.aload_n 0, 1) := by decide +kernel
theorem dX8_addRanger_15 : decode cX8_addRanger 15 = .ok (.iload_n 2, 1) := by decide +kernel
theorem dX8_addRanger_16 : decode cX8_addRanger 16 = .ok (.iconst 0, 1) := by decide +kernel
theorem dX8_addRanger_17 : decode cX8_addRanger 17 = .ok (.iconst 3, 1) := by decide +kernel
theorem dX8_addRanger_18 : decode cX8_addRanger 18 = .ok (.invokevirtual 94, 3) := by decide +kernel
theorem dX8_addRanger_21 : decode cX8_addRanger 21 = .ok (.ifCond .ne 9, 3) := by decide +kernel
theorem dX8_addRanger_24 : decode cX8_addRanger 24 = .ok (.aload_n 0, 1) := by decide +kernel
theorem dX8_addRanger_25 : decode cX8_addRanger 25 = .ok (.iconst 2, 1) := by decide +kernel
theorem dX8_addRanger_26 : decode cX8_addRanger 26 = .ok (.invokevirtual 110, 3) := by decide +kernel
theorem dX8_addRanger_29 : decode cX8_addRanger 29 = .ok (.ireturn, 1) := by decide +kernel
theorem dX8_addRanger_30 : decode cX8_addRanger 30 = .ok (.aload_n 0, 1) := by decide +kernel
theorem dX8_addRanger_31 : decode cX8_addRanger 31 = .ok (.getfield 107, 3) := by decide +kernel
theorem dX8_addRanger_34 : decode cX8_addRanger 34 = .ok (.iconst 4, 1) := by decide +kernel
theorem dX8_addRanger_35 : decode cX8_addRanger 35 = .ok (.if_icmp .ne 9, 3) := by decide +kernel
theorem dX8_addRanger_38 : decode cX8_addRanger 38 = .ok (.aload_n 0, 1) := by decide +kernel
theorem dX8_addRanger_39 : decode cX8_addRanger 39 = .ok (.iconst 3, 1) := by decide +kernel
theorem dX8_addRanger_40 : decode cX8_addRanger 40 = .ok (.invokevirtual 110, 3) := by decide +kernel
theorem dX8_addRanger_43 : decode cX8_addRanger 43 = .ok (.ireturn, 1) := by decide +kernel
theorem dX8_addRanger_44 : decode cX8_addRanger 44 = .ok (.aload_n 0, 1) := by decide +kernel
theorem dX8_addRanger_45 : decode cX8_addRanger 45 = .ok (.getfield 70, 3) := by decide +kernel
theorem dX8_addRanger_48 : decode cX8_addRanger 48 = .ok (.aload_n 0, 1) := by decide +kernel
theorem dX8_addRanger_49 : decode cX8_addRanger 49 = .ok (.getfield 107, 3) := by decide +kernel
theorem dX8_addRanger_52 : decode cX8_addRanger 52 = .ok (.iload_n 1, 1) := by decide +kernel
theorem dX8_addRanger_53 : decode cX8_addRanger 53 = .ok (.iastore, 1) := by decide +kernel
theorem dX8_addRanger_54 : decode cX8_addRanger 54 = .ok (.aload_n 0, 1) := by decide +kernel
theorem dX8_addRanger_55 : decode cX8_addRanger 55 = .ok (.getfield 73, 3) := by decide +kernel
theorem dX8_addRanger_58 : decode cX8_addRanger 58 = .ok (.aload_n 0, 1) := by decide +kernel
theorem dX8_addRanger_59 : decode cX8_addRanger 59 = .ok (.getfield 107, 3) := by decide +kernel
theorem dX8_addRanger_62 : decode cX8_addRanger 62 = .ok (.iload_n 2, 1) := by decide +kernel
theorem dX8_addRanger_63 : decode cX8_addRanger 63 = .ok (.iastore, 1) := by decide +kernel
theorem dX8_addRanger_64 : decode cX8_addRanger 64 = .ok (.aload_n 0, 1) := by decide +kernel
theorem dX8_addRanger_65 : decode cX8_addRanger 65 = .ok (.dup, 1) := by decide +kernel
theorem dX8_addRanger_66 : decode cX8_addRanger 66 = .ok (.getfield 107, 3) := by decide +kernel
theorem dX8_addRanger_69 : decode cX8_addRanger 69 = .ok (.iconst 1, 1) := by decide +kernel
theorem dX8_addRanger_70 : decode cX8_addRanger 70 = .ok (.iadd, 1) := by decide +kernel
theorem dX8_addRanger_71 : decode cX8_addRanger 71 = .ok (.putfield 107, 3) := by decide +kernel
theorem dX8_addRanger_74 : decode cX8_addRanger 74 = .ok (.aload_n 0, 1) := by decide +kernel
theorem dX8_addRanger_75 : decode cX8_addRanger 75 = .ok (.aload_n 0, 1) := by decide +kernel
theorem dX8_addRanger_76 : decode cX8_addRanger 76 = .ok (.getfield 107, 3) := by decide +kernel
theorem dX8_addRanger_79 : decode cX8_addRanger 79 = .ok (.iconst 1, 1) := by decide +kernel
theorem dX8_addRanger_80 : decode cX8_addRanger 80 = .ok (.isub, 1) := by decide +kernel
theorem dX8_addRanger_81 : decode cX8_addRanger 81 = .ok (.invokevirtual 114, 3) := by decide +kernel
theorem dX8_addRanger_84 : decode cX8_addRanger 84 = .ok (.ireturn, 1) := by decide +kernel
theorem dX8_forkOf_0 : decode cX8_forkOf 0 = .ok (.aload_n 0, 1) := by decide +kernel
theorem dX8_forkOf_1 : decode cX8_forkOf 1 = .ok (.iload_n 1, 1) := by decide +kernel
theorem dX8_forkOf_2 : decode cX8_forkOf 2 = .ok (.invokevirtual 179, 3) := by decide +kernel
theorem dX8_forkOf_5 : decode cX8_forkOf 5 = .ok (.ifCond .eq 16, 3) := by decide +kernel
theorem dX8_forkOf_8 : decode cX8_forkOf 8 = .ok (.aload_n 0, 1) := by decide +kernel
theorem dX8_forkOf_9 : decode cX8_forkOf 9 = .ok (.aload_n 0, 1) := by decide +kernel
theorem dX8_forkOf_10 : decode cX8_forkOf 10 = .ok (.getfield 70, 3) := by decide +kernel
theorem dX8_forkOf_13 : decode cX8_forkOf 13 = .ok (.iload_n 1, 1) := by decide +kernel
theorem dX8_forkOf_14 : decode cX8_forkOf 14 = .ok (.iaload, 1) := by decide +kernel
theorem dX8_forkOf_15 : decode cX8_forkOf 15 = .ok (.invokevirtual 114, 3) := by decide +kernel
theorem dX8_forkOf_18 : decode cX8_forkOf 18 = .ok (.goto 8, 3) := by decide +kernel
theorem dX8_forkOf_21 : decode cX8_forkOf 21 = .ok (.aload_n 0, 1) := by decide +kernel
theorem dX8_forkOf_22 : decode cX8_forkOf 22 = .ok (.iconst 1, 1) := by decide +kernel
theorem dX8_forkOf_23 : decode cX8_forkOf 23 = .ok (.invokevirtual 110, 3) := by decide +kernel
theorem dX8_forkOf_26 : decode cX8_forkOf 26 = .ok (.ireturn, 1) := by decide +kernel
theorem dX8_worked_0 : decode cX8_worked 0 = .ok (.aload_n 0, 1) := by decide +kernel
theorem dX8_worked_1 : decode cX8_worked 1 = .ok (.iload_n 1, 1) := by decide +kernel
theorem dX8_worked_2 : decode cX8_worked 2 = .ok (.invokevirtual 179, 3) := by decide +kernel
theorem dX8_worked_5 : decode cX8_worked 5 = .ok (.ifCond .eq 16, 3) := by decide +kernel
theorem dX8_worked_8 : decode cX8_worked 8 = .ok (.aload_n 0, 1) := by decide +kernel
theorem dX8_worked_9 : decode cX8_worked 9 = .ok (.aload_n 0, 1) := by decide +kernel
theorem dX8_worked_10 : decode cX8_worked 10 = .ok (.getfield 76, 3) := by decide +kernel
theorem dX8_worked_13 : decode cX8_worked 13 = .ok (.iload_n 1, 1) := by decide +kernel
theorem dX8_worked_14 : decode cX8_worked 14 = .ok (.iaload, 1) := by decide +kernel
theorem dX8_worked_15 : decode cX8_worked 15 = .ok (.invokevirtual 114, 3) := by decide +kernel
theorem dX8_worked_18 : decode cX8_worked 18 = .ok (.goto 8, 3) := by decide +kernel
theorem dX8_worked_21 : decode cX8_worked 21 = .ok (.aload_n 0, 1) := by decide +kernel
theorem dX8_worked_22 : decode cX8_worked 22 = .ok (.iconst 1, 1) := by decide +kernel
theorem dX8_worked_23 : decode cX8_worked 23 = .ok (.invokevirtual 110, 3) := by decide +kernel
theorem dX8_worked_26 : decode cX8_worked 26 = .ok (.ireturn, 1) := by decide +kernel
theorem dX8_placeOf_0 : decode cX8_placeOf 0 = .ok (.aload_n 0, 1) := by decide +kernel
theorem dX8_placeOf_1 : decode cX8_placeOf 1 = .ok (.getfield 57, 3) := by decide +kernel
theorem dX8_placeOf_4 : decode cX8_placeOf 4 = .ok (.iload_n 1, 1) := by decide +kernel
theorem dX8_placeOf_5 : decode cX8_placeOf 5 = .ok (.caload, 1) := by decide +kernel
theorem dX8_placeOf_6 : decode cX8_placeOf 6 = .ok (.bipush 109, 2) := by decide +kernel
theorem dX8_placeOf_8 : decode cX8_placeOf 8 = .ok (.if_icmp .ne 17, 3) := by decide +kernel
theorem dX8_placeOf_11 : decode cX8_placeOf 11 = .ok (.aload_n 0, 1) := by decide +kernel
theorem dX8_placeOf_12 : decode cX8_placeOf 12 = .ok (.getfield 17, 3) := by decide +kernel
theorem dX8_placeOf_15 : decode cX8_placeOf 15 = .ok (.aload_n 0, 1) := by decide +kernel
theorem dX8_placeOf_16 : decode cX8_placeOf 16 = .ok (.getfield 61, 3) := by decide +kernel
theorem dX8_placeOf_19 : decode cX8_placeOf 19 = .ok (.iload_n 1, 1) := by decide +kernel
theorem dX8_placeOf_20 : decode cX8_placeOf 20 = .ok (.iaload, 1) := by decide +kernel
theorem dX8_placeOf_21 : decode cX8_placeOf 21 = .ok (.iaload, 1) := by decide +kernel
theorem dX8_placeOf_22 : decode cX8_placeOf 22 = .ok (.goto 14, 3) := by decide +kernel
theorem dX8_placeOf_25 : decode cX8_placeOf 25 = .ok (.aload_n 0, 1) := by decide +kernel
theorem dX8_placeOf_26 : decode cX8_placeOf 26 = .ok (.getfield 36, 3) := by decide +kernel
theorem dX8_placeOf_29 : decode cX8_placeOf 29 = .ok (.aload_n 0, 1) := by decide +kernel
theorem dX8_placeOf_30 : decode cX8_placeOf 30 = .ok (.getfield 61, 3) := by decide +kernel
theorem dX8_placeOf_33 : decode cX8_placeOf 33 = .ok (.iload_n 1, 1) := by decide +kernel
theorem dX8_placeOf_34 : decode cX8_placeOf 34 = .ok (.iaload, 1) := by decide +kernel
theorem dX8_placeOf_35 : decode cX8_placeOf 35 = .ok (.iaload, 1) := by decide +kernel
theorem dX8_placeOf_36 : decode cX8_placeOf 36 = .ok (.ireturn, 1) := by decide +kernel
theorem dX8_timeOf_0 : decode cX8_timeOf 0 = .ok (.aload_n 0, 1) := by decide +kernel
theorem dX8_timeOf_1 : decode cX8_timeOf 1 = .ok (.getfield 57, 3) := by decide +kernel
theorem dX8_timeOf_4 : decode cX8_timeOf 4 = .ok (.iload_n 1, 1) := by decide +kernel
theorem dX8_timeOf_5 : decode cX8_timeOf 5 = .ok (.caload, 1) := by decide +kernel
theorem dX8_timeOf_6 : decode cX8_timeOf 6 = .ok (.bipush 109, 2) := by decide +kernel
theorem dX8_timeOf_8 : decode cX8_timeOf 8 = .ok (.if_icmp .ne 9, 3) := by decide +kernel
theorem dX8_timeOf_11 : decode cX8_timeOf 11 = .ok (.sipush 200, 3) := by decide +kernel
theorem dX8_timeOf_14 : decode cX8_timeOf 14 = .ok (.goto 21, 3) := by decide +kernel
theorem dX8_timeOf_17 : decode cX8_timeOf 17 = .ok (.aload_n 0, 1) := by decide +kernel
theorem dX8_timeOf_18 : decode cX8_timeOf 18 = .ok (.getfield 57, 3) := by decide +kernel
theorem dX8_timeOf_21 : decode cX8_timeOf 21 = .ok (.iload_n 1, 1) := by decide +kernel
theorem dX8_timeOf_22 : decode cX8_timeOf 22 = .ok (.caload, 1) := by decide +kernel
theorem dX8_timeOf_23 : decode cX8_timeOf 23 = .ok (.bipush 114, 2) := by decide +kernel
theorem dX8_timeOf_25 : decode cX8_timeOf 25 = .ok (.if_icmp .ne 8, 3) := by decide +kernel
theorem dX8_timeOf_28 : decode cX8_timeOf 28 = .ok (.bipush 30, 2) := by decide +kernel
theorem dX8_timeOf_30 : decode cX8_timeOf 30 = .ok (.goto 5, 3) := by decide +kernel
theorem dX8_timeOf_33 : decode cX8_timeOf 33 = .ok (.bipush 10, 2) := by decide +kernel
theorem dX8_timeOf_35 : decode cX8_timeOf 35 = .ok (.ireturn, 1) := by decide +kernel
theorem dX8_canBeDone_0 : decode cX8_canBeDone 0 = .ok (.aload_n 0, 1) := by decide +kernel
theorem dX8_canBeDone_1 : decode cX8_canBeDone 1 = .ok (.getfield 61, 3) := by decide +kernel
theorem dX8_canBeDone_4 : decode cX8_canBeDone 4 = .ok (.iload_n 1, 1) := by decide +kernel
theorem dX8_canBeDone_5 : decode cX8_canBeDone 5 = .ok (.iaload, 1) := by decide +kernel
theorem dX8_canBeDone_6 : decode cX8_canBeDone 6 = .ok (.istore_n 2, 1) := by decide +kernel
theorem dX8_canBeDone_7 : decode cX8_canBeDone 7 = .ok (.aload_n 0, 1) := by decide +kernel
theorem dX8_canBeDone_8 : decode cX8_canBeDone 8 = .ok (.getfield 57, 3) := by decide +kernel
theorem dX8_canBeDone_11 : decode cX8_canBeDone 11 = .ok (.iload_n 1, 1) := by decide +kernel
theorem dX8_canBeDone_12 : decode cX8_canBeDone 12 = .ok (.caload, 1) := by decide +kernel
theorem dX8_canBeDone_13 : decode cX8_canBeDone 13 = .ok (.lookupswitch 89 #[(99, 35), (114, 57), (117, 50)], 35) := by decide +kernel
theorem dX8_canBeDone_48 : decode cX8_canBeDone 48 = .ok (.aload_n 0, 1) := by decide +kernel
theorem dX8_canBeDone_49 : decode cX8_canBeDone 49 = .ok (.getfield 48, 3) := by decide +kernel
theorem dX8_canBeDone_52 : decode cX8_canBeDone 52 = .ok (.iload_n 2, 1) := by decide +kernel
theorem dX8_canBeDone_53 : decode cX8_canBeDone 53 = .ok (.baload, 1) := by decide +kernel
theorem dX8_canBeDone_54 : decode cX8_canBeDone 54 = .ok (.ifCond .ne 7, 3) := by decide +kernel
theorem dX8_canBeDone_57 : decode cX8_canBeDone 57 = .ok (.iconst 1, 1) := by decide +kernel
theorem dX8_canBeDone_58 : decode cX8_canBeDone 58 = .ok (.goto 4, 3) := by decide +kernel
theorem dX8_canBeDone_61 : decode cX8_canBeDone 61 = .ok (.iconst 0, 1) := by decide +kernel
theorem dX8_canBeDone_62 : decode cX8_canBeDone 62 = .ok (.ireturn, 1) := by decide +kernel
theorem dX8_canBeDone_63 : decode cX8_canBeDone 63 = .ok (.aload_n 0, 1) := by decide +kernel
theorem dX8_canBeDone_64 : decode cX8_canBeDone 64 = .ok (.getfield 48, 3) := by decide +kernel
theorem dX8_canBeDone_67 : decode cX8_canBeDone 67 = .ok (.iload_n 2, 1) := by decide +kernel
theorem dX8_canBeDone_68 : decode cX8_canBeDone 68 = .ok (.baload, 1) := by decide +kernel
theorem dX8_canBeDone_69 : decode cX8_canBeDone 69 = .ok (.ireturn, 1) := by decide +kernel
theorem dX8_canBeDone_70 : decode cX8_canBeDone 70 = .ok (.aload_n 0, 1) := by decide +kernel
theorem dX8_canBeDone_71 : decode cX8_canBeDone 71 = .ok (.getfield 7, 3) := by decide +kernel
theorem dX8_canBeDone_74 : decode cX8_canBeDone 74 = .ok (.ifCond .le 26, 3) := by decide +kernel
theorem dX8_canBeDone_77 : decode cX8_canBeDone 77 = .ok (.aload_n 0, 1) := by decide +kernel
theorem dX8_canBeDone_78 : decode cX8_canBeDone 78 = .ok (.aload_n 0, 1) := by decide +kernel
theorem dX8_canBeDone_79 : decode cX8_canBeDone 79 = .ok (.getfield 36, 3) := by decide +kernel
theorem dX8_canBeDone_82 : decode cX8_canBeDone 82 = .ok (.iload_n 2, 1) := by decide +kernel
theorem dX8_canBeDone_83 : decode cX8_canBeDone 83 = .ok (.iaload, 1) := by decide +kernel
theorem dX8_canBeDone_84 : decode cX8_canBeDone 84 = .ok (.aload_n 0, 1) := by decide +kernel
theorem dX8_canBeDone_85 : decode cX8_canBeDone 85 = .ok (.getfield 39, 3) := by decide +kernel
theorem dX8_canBeDone_88 : decode cX8_canBeDone 88 = .ok (.iload_n 2, 1) := by decide +kernel
theorem dX8_canBeDone_89 : decode cX8_canBeDone 89 = .ok (.iaload, 1) := by decide +kernel
theorem dX8_canBeDone_90 : decode cX8_canBeDone 90 = .ok (.invokevirtual 150, 3) := by decide +kernel
theorem dX8_canBeDone_93 : decode cX8_canBeDone 93 = .ok (.ifCond .eq 7, 3) := by decide +kernel
theorem dX8_canBeDone_96 : decode cX8_canBeDone 96 = .ok (.iconst 1, 1) := by decide +kernel
theorem dX8_canBeDone_97 : decode cX8_canBeDone 97 = .ok (.goto 4, 3) := by decide +kernel
theorem dX8_canBeDone_100 : decode cX8_canBeDone 100 = .ok (.iconst 0, 1) := by decide +kernel
theorem dX8_canBeDone_101 : decode cX8_canBeDone 101 = .ok (.ireturn, 1) := by decide +kernel
theorem dX8_canBeDone_102 : decode cX8_canBeDone 102 = .ok (.aload_n 0, 1) := by decide +kernel
theorem dX8_canBeDone_103 : decode cX8_canBeDone 103 = .ok (.getfield 33, 3) := by decide +kernel
theorem dX8_canBeDone_106 : decode cX8_canBeDone 106 = .ok (.iload_n 2, 1) := by decide +kernel
theorem dX8_canBeDone_107 : decode cX8_canBeDone 107 = .ok (.baload, 1) := by decide +kernel
theorem dX8_canBeDone_108 : decode cX8_canBeDone 108 = .ok (.ireturn, 1) := by decide +kernel
theorem dX8_hasTool_0 : decode cX8_hasTool 0 = .ok (.aload_n 0, 1) := by decide +kernel
theorem dX8_hasTool_1 : decode cX8_hasTool 1 = .ok (.getfield 57, 3) := by decide +kernel
theorem dX8_hasTool_4 : decode cX8_hasTool 4 = .ok (.iload_n 2, 1) := by decide +kernel
theorem dX8_hasTool_5 : decode cX8_hasTool 5 = .ok (.caload, 1) := by decide +kernel
theorem dX8_hasTool_6 : decode cX8_hasTool 6 = .ok (.bipush 109, 2) := by decide +kernel
theorem dX8_hasTool_8 : decode cX8_hasTool 8 = .ok (.if_icmp .ne 21, 3) := by decide +kernel
theorem dX8_hasTool_11 : decode cX8_hasTool 11 = .ok (.aload_n 0, 1) := by decide +kernel
theorem dX8_hasTool_12 : decode cX8_hasTool 12 = .ok (.getfield 73, 3) := by decide +kernel
theorem dX8_hasTool_15 : decode cX8_hasTool 15 = .ok (.iload_n 1, 1) := by decide +kernel
theorem dX8_hasTool_16 : decode cX8_hasTool 16 = .ok (.iaload, 1) := by decide +kernel
theorem dX8_hasTool_17 : decode cX8_hasTool 17 = .ok (.iconst 2, 1) := by decide +kernel
theorem dX8_hasTool_18 : decode cX8_hasTool 18 = .ok (.if_icmp .lt 7, 3) := by decide +kernel
theorem dX8_hasTool_21 : decode cX8_hasTool 21 = .ok (.iconst 1, 1) := by decide +kernel
theorem dX8_hasTool_22 : decode cX8_hasTool 22 = .ok (.goto 35, 3) := by decide +kernel
theorem dX8_hasTool_25 : decode cX8_hasTool 25 = .ok (.iconst 0, 1) := by decide +kernel
theorem dX8_hasTool_26 : decode cX8_hasTool 26 = .ok (.goto 31, 3) := by decide +kernel
theorem dX8_hasTool_29 : decode cX8_hasTool 29 = .ok (.aload_n 0, 1) := by decide +kernel
theorem dX8_hasTool_30 : decode cX8_hasTool 30 = .ok (.getfield 57, 3) := by decide +kernel
theorem dX8_hasTool_33 : decode cX8_hasTool 33 = .ok (.iload_n 2, 1) := by decide +kernel
theorem dX8_hasTool_34 : decode cX8_hasTool 34 = .ok (.caload, 1) := by decide +kernel
theorem dX8_hasTool_35 : decode cX8_hasTool 35 = .ok (.bipush 114, 2) := by decide +kernel
theorem dX8_hasTool_37 : decode cX8_hasTool 37 = .ok (.if_icmp .ne 15, 3) := by decide +kernel
theorem dX8_hasTool_40 : decode cX8_hasTool 40 = .ok (.aload_n 0, 1) := by decide +kernel
theorem dX8_hasTool_41 : decode cX8_hasTool 41 = .ok (.getfield 73, 3) := by decide +kernel
theorem dX8_hasTool_44 : decode cX8_hasTool 44 = .ok (.iload_n 1, 1) := by decide +kernel
theorem dX8_hasTool_45 : decode cX8_hasTool 45 = .ok (.iaload, 1) := by decide +kernel
theorem dX8_hasTool_46 : decode cX8_hasTool 46 = .ok (.iconst 2, 1) := by decide +kernel
theorem dX8_hasTool_47 : decode cX8_hasTool 47 = .ok (.irem, 1) := by decide +kernel
theorem dX8_hasTool_48 : decode cX8_hasTool 48 = .ok (.iconst 1, 1) := by decide +kernel
theorem dX8_hasTool_49 : decode cX8_hasTool 49 = .ok (.if_icmp .ne 7, 3) := by decide +kernel
theorem dX8_hasTool_52 : decode cX8_hasTool 52 = .ok (.iconst 1, 1) := by decide +kernel
theorem dX8_hasTool_53 : decode cX8_hasTool 53 = .ok (.goto 4, 3) := by decide +kernel
theorem dX8_hasTool_56 : decode cX8_hasTool 56 = .ok (.iconst 0, 1) := by decide +kernel
theorem dX8_hasTool_57 : decode cX8_hasTool 57 = .ok (.ireturn, 1) := by decide +kernel
theorem dX8_isInTime_0 : decode cX8_isInTime 0 = .ok (.aload_n 0, 1) := by decide +kernel
theorem dX8_isInTime_1 : decode cX8_isInTime 1 = .ok (.aload_n 0, 1) := by decide +kernel
theorem dX8_isInTime_2 : decode cX8_isInTime 2 = .ok (.getfield 70, 3) := by decide +kernel
theorem dX8_isInTime_5 : decode cX8_isInTime 5 = .ok (.iload_n 1, 1) := by decide +kernel
theorem dX8_isInTime_6 : decode cX8_isInTime 6 = .ok (.iaload, 1) := by decide +kernel
theorem dX8_isInTime_7 : decode cX8_isInTime 7 = .ok (.aload_n 0, 1) := by decide +kernel
theorem dX8_isInTime_8 : decode cX8_isInTime 8 = .ok (.iload_n 2, 1) := by decide +kernel
theorem dX8_isInTime_9 : decode cX8_isInTime 9 = .ok (.invokevirtual 182, 3) := by decide +kernel
theorem dX8_isInTime_12 : decode cX8_isInTime 12 = .ok (.iconst 0, 1) := by decide +kernel
theorem dX8_isInTime_13 : decode cX8_isInTime 13 = .ok (.invokevirtual 143, 3) := by decide +kernel
theorem dX8_isInTime_16 : decode cX8_isInTime 16 = .ok (.aload_n 0, 1) := by decide +kernel
theorem dX8_isInTime_17 : decode cX8_isInTime 17 = .ok (.iload_n 2, 1) := by decide +kernel
theorem dX8_isInTime_18 : decode cX8_isInTime 18 = .ok (.invokevirtual 185, 3) := by decide +kernel
theorem dX8_isInTime_21 : decode cX8_isInTime 21 = .ok (.iadd, 1) := by decide +kernel
theorem dX8_isInTime_22 : decode cX8_isInTime 22 = .ok (.aload_n 0, 1) := by decide +kernel
theorem dX8_isInTime_23 : decode cX8_isInTime 23 = .ok (.getfield 188, 3) := by decide +kernel
theorem dX8_isInTime_26 : decode cX8_isInTime 26 = .ok (.if_icmp .gt 7, 3) := by decide +kernel
theorem dX8_isInTime_29 : decode cX8_isInTime 29 = .ok (.iconst 1, 1) := by decide +kernel
theorem dX8_isInTime_30 : decode cX8_isInTime 30 = .ok (.goto 4, 3) := by decide +kernel
theorem dX8_isInTime_33 : decode cX8_isInTime 33 = .ok (.iconst 0, 1) := by decide +kernel
theorem dX8_isInTime_34 : decode cX8_isInTime 34 = .ok (.ireturn, 1) := by decide +kernel
theorem dX8_chosen_0 : decode cX8_chosen 0 = .ok (.iconst (-1), 1) := by decide +kernel
theorem dX8_chosen_1 : decode cX8_chosen 1 = .ok (.istore_n 2, 1) := by decide +kernel
theorem dX8_chosen_2 : decode cX8_chosen 2 = .ok (.iconst 0, 1) := by decide +kernel
theorem dX8_chosen_3 : decode cX8_chosen 3 = .ok (.istore_n 3, 1) := by decide +kernel
theorem dX8_chosen_4 : decode cX8_chosen 4 = .ok (.iload_n 3, 1) := by decide +kernel
theorem dX8_chosen_5 : decode cX8_chosen 5 = .ok (.aload_n 0, 1) := by decide +kernel
theorem dX8_chosen_6 : decode cX8_chosen 6 = .ok (.getfield 104, 3) := by decide +kernel
theorem dX8_chosen_9 : decode cX8_chosen 9 = .ok (.if_icmp .ge 70, 3) := by decide +kernel
theorem dX8_chosen_12 : decode cX8_chosen 12 = .ok (.aload_n 0, 1) := by decide +kernel
theorem dX8_chosen_13 : decode cX8_chosen 13 = .ok (.getfield 67, 3) := by decide +kernel
theorem dX8_chosen_16 : decode cX8_chosen 16 = .ok (.iload_n 3, 1) := by decide +kernel
theorem dX8_chosen_17 : decode cX8_chosen 17 = .ok (.iaload, 1) := by decide +kernel
theorem dX8_chosen_18 : decode cX8_chosen 18 = .ok (.iconst (-1), 1) := by decide +kernel
theorem dX8_chosen_19 : decode cX8_chosen 19 = .ok (.if_icmp .ne 54, 3) := by decide +kernel
theorem dX8_chosen_22 : decode cX8_chosen 22 = .ok (.iload_n 2, 1) := by decide +kernel
theorem dX8_chosen_23 : decode cX8_chosen 23 = .ok (.iconst (-1), 1) := by decide +kernel
theorem dX8_chosen_24 : decode cX8_chosen 24 = .ok (.if_icmp .eq 18, 3) := by decide +kernel
theorem dX8_chosen_27 : decode cX8_chosen 27 = .ok (.aload_n 0, 1) := by decide +kernel
theorem dX8_chosen_28 : decode cX8_chosen 28 = .ok (.getfield 64, 3) := by decide +kernel
theorem dX8_chosen_31 : decode cX8_chosen 31 = .ok (.iload_n 3, 1) := by decide +kernel
theorem dX8_chosen_32 : decode cX8_chosen 32 = .ok (.iaload, 1) := by decide +kernel
theorem dX8_chosen_33 : decode cX8_chosen 33 = .ok (.aload_n 0, 1) := by decide +kernel
theorem dX8_chosen_34 : decode cX8_chosen 34 = .ok (.getfield 64, 3) := by decide +kernel
theorem dX8_chosen_37 : decode cX8_chosen 37 = .ok (.iload_n 2, 1) := by decide +kernel
theorem dX8_chosen_38 : decode cX8_chosen 38 = .ok (.iaload, 1) := by decide +kernel
theorem dX8_chosen_39 : decode cX8_chosen 39 = .ok (.if_icmp .le 34, 3) := by decide +kernel
theorem dX8_chosen_42 : decode cX8_chosen 42 = .ok (.aload_n 0, 1) := by decide +kernel
theorem dX8_chosen_43 : decode cX8_chosen 43 = .ok (.iload_n 1, 1) := by decide +kernel
theorem dX8_chosen_44 : decode cX8_chosen 44 = .ok (.iload_n 3, 1) := by decide +kernel
theorem dX8_chosen_45 : decode cX8_chosen 45 = .ok (.invokevirtual 191, 3) := by decide +kernel
theorem dX8_chosen_48 : decode cX8_chosen 48 = .ok (.ifCond .eq 25, 3) := by decide +kernel
theorem dX8_chosen_51 : decode cX8_chosen 51 = .ok (.aload_n 0, 1) := by decide +kernel
theorem dX8_chosen_52 : decode cX8_chosen 52 = .ok (.iload_n 3, 1) := by decide +kernel
theorem dX8_chosen_53 : decode cX8_chosen 53 = .ok (.invokevirtual 194, 3) := by decide +kernel
theorem dX8_chosen_56 : decode cX8_chosen 56 = .ok (.ifCond .eq 17, 3) := by decide +kernel
theorem dX8_chosen_59 : decode cX8_chosen 59 = .ok (.aload_n 0, 1) := by decide +kernel
theorem dX8_chosen_60 : decode cX8_chosen 60 = .ok (.iload_n 1, 1) := by decide +kernel
theorem dX8_chosen_61 : decode cX8_chosen 61 = .ok (.iload_n 3, 1) := by decide +kernel
theorem dX8_chosen_62 : decode cX8_chosen 62 = .ok (.invokevirtual 197, 3) := by decide +kernel
theorem dX8_chosen_65 : decode cX8_chosen 65 = .ok (.ifCond .ne 6, 3) := by decide +kernel
theorem dX8_chosen_68 : decode cX8_chosen 68 = .ok (.goto 5, 3) := by decide +kernel
theorem dX8_chosen_71 : decode cX8_chosen 71 = .ok (.iload_n 3, 1) := by decide +kernel
theorem dX8_chosen_72 : decode cX8_chosen 72 = .ok (.istore_n 2, 1) := by decide +kernel
theorem dX8_chosen_73 : decode cX8_chosen 73 = .ok (.iinc 3 1, 3) := by decide +kernel
theorem dX8_chosen_76 : decode cX8_chosen 76 = .ok (.goto (-72), 3) := by decide +kernel
theorem dX8_chosen_79 : decode cX8_chosen 79 = .ok (.iload_n 2, 1) := by decide +kernel
theorem dX8_chosen_80 : decode cX8_chosen 80 = .ok (.ireturn, 1) := by decide +kernel
theorem dX8_comes_0 : decode cX8_comes 0 = .ok (.aload_n 0, 1) := by decide +kernel
theorem dX8_comes_1 : decode cX8_comes 1 = .ok (.iload_n 2, 1) := by decide +kernel
theorem dX8_comes_2 : decode cX8_comes 2 = .ok (.invokevirtual 182, 3) := by decide +kernel
theorem dX8_comes_5 : decode cX8_comes 5 = .ok (.istore_n 3, 1) := by decide +kernel
theorem dX8_comes_6 : decode cX8_comes 6 = .ok (.aload_n 0, 1) := by decide +kernel
theorem dX8_comes_7 : decode cX8_comes 7 = .ok (.getfield 70, 3) := by decide +kernel
theorem dX8_comes_10 : decode cX8_comes 10 = .ok (.iload_n 1, 1) := by decide +kernel
theorem dX8_comes_11 : decode cX8_comes 11 = .ok (.iaload, 1) := by decide +kernel
theorem dX8_comes_12 : decode cX8_comes 12 = .ok (.iload_n 3, 1) := by decide +kernel
theorem dX8_comes_13 : decode cX8_comes 13 = .ok (.if_icmp .eq 109, 3) := by decide +kernel
theorem dX8_comes_16 : decode cX8_comes 16 = .ok (.aload_n 0, 1) := by decide +kernel
theorem dX8_comes_17 : decode cX8_comes 17 = .ok (.aload_n 0, 1) := by decide +kernel
theorem dX8_comes_18 : decode cX8_comes 18 = .ok (.getfield 70, 3) := by decide +kernel
theorem dX8_comes_21 : decode cX8_comes 21 = .ok (.iload_n 1, 1) := by decide +kernel
theorem dX8_comes_22 : decode cX8_comes 22 = .ok (.iaload, 1) := by decide +kernel
theorem dX8_comes_23 : decode cX8_comes 23 = .ok (.iload_n 3, 1) := by decide +kernel
theorem dX8_comes_24 : decode cX8_comes 24 = .ok (.invokevirtual 147, 3) := by decide +kernel
theorem dX8_comes_27 : decode cX8_comes 27 = .ok (.istore 4, 2) := by decide +kernel
theorem dX8_comes_29 : decode cX8_comes 29 = .ok (.iload 4, 2) := by decide +kernel
theorem dX8_comes_31 : decode cX8_comes 31 = .ok (.iconst (-1), 1) := by decide +kernel
theorem dX8_comes_32 : decode cX8_comes 32 = .ok (.if_icmp .eq 12, 3) := by decide +kernel
theorem dX8_comes_35 : decode cX8_comes 35 = .ok (.aload_n 0, 1) := by decide +kernel
theorem dX8_comes_36 : decode cX8_comes 36 = .ok (.iload_n 1, 1) := by decide +kernel
theorem dX8_comes_37 : decode cX8_comes 37 = .ok (.iload_n 2, 1) := by decide +kernel
theorem dX8_comes_38 : decode cX8_comes 38 = .ok (.invokevirtual 197, 3) := by decide +kernel
theorem dX8_comes_41 : decode cX8_comes 41 = .ok (.ifCond .ne 5, 3) := by decide +kernel
theorem dX8_comes_44 : decode cX8_comes 44 = .ok (.iconst 0, 1) := by decide +kernel
theorem dX8_comes_45 : decode cX8_comes 45 = .ok (.ireturn, 1) := by decide +kernel
theorem dX8_comes_46 : decode cX8_comes 46 = .ok (.aload_n 0, 1) := by decide +kernel
theorem dX8_comes_47 : decode cX8_comes 47 = .ok (.iload 4, 2) := by decide +kernel
theorem dX8_comes_49 : decode cX8_comes 49 = .ok (.invokevirtual 200, 3) := by decide +kernel
theorem dX8_comes_52 : decode cX8_comes 52 = .ok (.aload_n 0, 1) := by decide +kernel
theorem dX8_comes_53 : decode cX8_comes 53 = .ok (.getfield 30, 3) := by decide +kernel
theorem dX8_comes_56 : decode cX8_comes 56 = .ok (.iload 4, 2) := by decide +kernel
theorem dX8_comes_58 : decode cX8_comes 58 = .ok (.baload, 1) := by decide +kernel
theorem dX8_comes_59 : decode cX8_comes 59 = .ok (.ifCond .eq 6, 3) := by decide +kernel
theorem dX8_comes_62 : decode cX8_comes 62 = .ok (.goto (-56), 3) := by decide +kernel
theorem dX8_comes_65 : decode cX8_comes 65 = .ok (.aload_n 0, 1) := by decide +kernel
theorem dX8_comes_66 : decode cX8_comes 66 = .ok (.iload 4, 2) := by decide +kernel
theorem dX8_comes_68 : decode cX8_comes 68 = .ok (.aload_n 0, 1) := by decide +kernel
theorem dX8_comes_69 : decode cX8_comes 69 = .ok (.getfield 70, 3) := by decide +kernel
theorem dX8_comes_72 : decode cX8_comes 72 = .ok (.iload_n 1, 1) := by decide +kernel
theorem dX8_comes_73 : decode cX8_comes 73 = .ok (.iaload, 1) := by decide +kernel
theorem dX8_comes_74 : decode cX8_comes 74 = .ok (.invokevirtual 137, 3) := by decide +kernel
theorem dX8_comes_77 : decode cX8_comes 77 = .ok (.istore 5, 2) := by decide +kernel
theorem dX8_comes_79 : decode cX8_comes 79 = .ok (.aload_n 0, 1) := by decide +kernel
theorem dX8_comes_80 : decode cX8_comes 80 = .ok (.getfield 70, 3) := by decide +kernel
theorem dX8_comes_83 : decode cX8_comes 83 = .ok (.iload_n 1, 1) := by decide +kernel
theorem dX8_comes_84 : decode cX8_comes 84 = .ok (.aload_n 0, 1) := by decide +kernel
theorem dX8_comes_85 : decode cX8_comes 85 = .ok (.iload 4, 2) := by decide +kernel
theorem dX8_comes_87 : decode cX8_comes 87 = .ok (.aload_n 0, 1) := by decide +kernel
theorem dX8_comes_88 : decode cX8_comes 88 = .ok (.getfield 70, 3) := by decide +kernel
theorem dX8_comes_91 : decode cX8_comes 91 = .ok (.iload_n 1, 1) := by decide +kernel
theorem dX8_comes_92 : decode cX8_comes 92 = .ok (.iaload, 1) := by decide +kernel
theorem dX8_comes_93 : decode cX8_comes 93 = .ok (.invokevirtual 140, 3) := by decide +kernel
theorem dX8_comes_96 : decode cX8_comes 96 = .ok (.iastore, 1) := by decide +kernel
theorem dX8_comes_97 : decode cX8_comes 97 = .ok (.aload_n 0, 1) := by decide +kernel
theorem dX8_comes_98 : decode cX8_comes 98 = .ok (.dup, 1) := by decide +kernel
theorem dX8_comes_99 : decode cX8_comes 99 = .ok (.getfield 188, 3) := by decide +kernel
theorem dX8_comes_102 : decode cX8_comes 102 = .ok (.iload 5, 2) := by decide +kernel
theorem dX8_comes_104 : decode cX8_comes 104 = .ok (.isub, 1) := by decide +kernel
theorem dX8_comes_105 : decode cX8_comes 105 = .ok (.putfield 188, 3) := by decide +kernel
theorem dX8_comes_108 : decode cX8_comes 108 = .ok (.aload_n 0, 1) := by decide +kernel
theorem dX8_comes_109 : decode cX8_comes 109 = .ok (.getfield 76, 3) := by decide +kernel
theorem dX8_comes_112 : decode cX8_comes 112 = .ok (.iload_n 1, 1) := by decide +kernel
theorem dX8_comes_113 : decode cX8_comes 113 = .ok (.dup2, 1) := by decide +kernel
theorem dX8_comes_114 : decode cX8_comes 114 = .ok (.iaload, 1) := by decide +kernel
theorem dX8_comes_115 : decode cX8_comes 115 = .ok (.iload 5, 2) := by decide +kernel
theorem dX8_comes_117 : decode cX8_comes 117 = .ok (.iadd, 1) := by decide +kernel
theorem dX8_comes_118 : decode cX8_comes 118 = .ok (.iastore, 1) := by decide +kernel
theorem dX8_comes_119 : decode cX8_comes 119 = .ok (.goto (-113), 3) := by decide +kernel
theorem dX8_comes_122 : decode cX8_comes 122 = .ok (.iconst 1, 1) := by decide +kernel
theorem dX8_comes_123 : decode cX8_comes 123 = .ok (.ireturn, 1) := by decide +kernel
theorem dX8_does_0 : decode cX8_does 0 = .ok (.aload_n 0, 1) := by decide +kernel
theorem dX8_does_1 : decode cX8_does 1 = .ok (.getfield 61, 3) := by decide +kernel
theorem dX8_does_4 : decode cX8_does 4 = .ok (.iload_n 2, 1) := by decide +kernel
theorem dX8_does_5 : decode cX8_does 5 = .ok (.iaload, 1) := by decide +kernel
theorem dX8_does_6 : decode cX8_does 6 = .ok (.istore_n 3, 1) := by decide +kernel
theorem dX8_does_7 : decode cX8_does 7 = .ok (.aload_n 0, 1) := by decide +kernel
theorem dX8_does_8 : decode cX8_does 8 = .ok (.dup, 1) := by decide +kernel
theorem dX8_does_9 : decode cX8_does 9 = .ok (.getfield 188, 3) := by decide +kernel
theorem dX8_does_12 : decode cX8_does 12 = .ok (.aload_n 0, 1) := by decide +kernel
theorem dX8_does_13 : decode cX8_does 13 = .ok (.iload_n 2, 1) := by decide +kernel
theorem dX8_does_14 : decode cX8_does 14 = .ok (.invokevirtual 185, 3) := by decide +kernel
theorem dX8_does_17 : decode cX8_does 17 = .ok (.isub, 1) := by decide +kernel
theorem dX8_does_18 : decode cX8_does 18 = .ok (.putfield 188, 3) := by decide +kernel
theorem dX8_does_21 : decode cX8_does 21 = .ok (.aload_n 0, 1) := by decide +kernel
theorem dX8_does_22 : decode cX8_does 22 = .ok (.getfield 76, 3) := by decide +kernel
theorem dX8_does_25 : decode cX8_does 25 = .ok (.iload_n 1, 1) := by decide +kernel
theorem dX8_does_26 : decode cX8_does 26 = .ok (.dup2, 1) := by decide +kernel
theorem dX8_does_27 : decode cX8_does 27 = .ok (.iaload, 1) := by decide +kernel
theorem dX8_does_28 : decode cX8_does 28 = .ok (.aload_n 0, 1) := by decide +kernel
theorem dX8_does_29 : decode cX8_does 29 = .ok (.iload_n 2, 1) := by decide +kernel
theorem dX8_does_30 : decode cX8_does 30 = .ok (.invokevirtual 185, 3) := by decide +kernel
theorem dX8_does_33 : decode cX8_does 33 = .ok (.iadd, 1) := by decide +kernel
theorem dX8_does_34 : decode cX8_does 34 = .ok (.iastore, 1) := by decide +kernel
theorem dX8_does_35 : decode cX8_does 35 = .ok (.aload_n 0, 1) := by decide +kernel
theorem dX8_does_36 : decode cX8_does 36 = .ok (.getfield 67, 3) := by decide +kernel
theorem dX8_does_39 : decode cX8_does 39 = .ok (.iload_n 2, 1) := by decide +kernel
theorem dX8_does_40 : decode cX8_does 40 = .ok (.iload_n 1, 1) := by decide +kernel
theorem dX8_does_41 : decode cX8_does 41 = .ok (.iastore, 1) := by decide +kernel
theorem dX8_does_42 : decode cX8_does 42 = .ok (.aload_n 0, 1) := by decide +kernel
theorem dX8_does_43 : decode cX8_does 43 = .ok (.getfield 57, 3) := by decide +kernel
theorem dX8_does_46 : decode cX8_does 46 = .ok (.iload_n 2, 1) := by decide +kernel
theorem dX8_does_47 : decode cX8_does 47 = .ok (.caload, 1) := by decide +kernel
theorem dX8_does_48 : decode cX8_does 48 = .ok (.lookupswitch 76 #[(99, 36), (114, 56), (117, 46)], 36) := by decide +kernel
theorem dX8_does_84 : decode cX8_does 84 = .ok (.aload_n 0, 1) := by decide +kernel
theorem dX8_does_85 : decode cX8_does 85 = .ok (.getfield 48, 3) := by decide +kernel
theorem dX8_does_88 : decode cX8_does 88 = .ok (.iload_n 3, 1) := by decide +kernel
theorem dX8_does_89 : decode cX8_does 89 = .ok (.iconst 1, 1) := by decide +kernel
theorem dX8_does_90 : decode cX8_does 90 = .ok (.bastore, 1) := by decide +kernel
theorem dX8_does_91 : decode cX8_does 91 = .ok (.goto 52, 3) := by decide +kernel
theorem dX8_does_94 : decode cX8_does 94 = .ok (.aload_n 0, 1) := by decide +kernel
theorem dX8_does_95 : decode cX8_does 95 = .ok (.getfield 48, 3) := by decide +kernel
theorem dX8_does_98 : decode cX8_does 98 = .ok (.iload_n 3, 1) := by decide +kernel
theorem dX8_does_99 : decode cX8_does 99 = .ok (.iconst 0, 1) := by decide +kernel
theorem dX8_does_100 : decode cX8_does 100 = .ok (.bastore, 1) := by decide +kernel
theorem dX8_does_101 : decode cX8_does 101 = .ok (.goto 42, 3) := by decide +kernel
theorem dX8_does_104 : decode cX8_does 104 = .ok (.aload_n 0, 1) := by decide +kernel
theorem dX8_does_105 : decode cX8_does 105 = .ok (.iload_n 3, 1) := by decide +kernel
theorem dX8_does_106 : decode cX8_does 106 = .ok (.aload_n 0, 1) := by decide +kernel
theorem dX8_does_107 : decode cX8_does 107 = .ok (.getfield 36, 3) := by decide +kernel
theorem dX8_does_110 : decode cX8_does 110 = .ok (.iload_n 3, 1) := by decide +kernel
theorem dX8_does_111 : decode cX8_does 111 = .ok (.iaload, 1) := by decide +kernel
theorem dX8_does_112 : decode cX8_does 112 = .ok (.aload_n 0, 1) := by decide +kernel
theorem dX8_does_113 : decode cX8_does 113 = .ok (.getfield 39, 3) := by decide +kernel
theorem dX8_does_116 : decode cX8_does 116 = .ok (.iload_n 3, 1) := by decide +kernel
theorem dX8_does_117 : decode cX8_does 117 = .ok (.iaload, 1) := by decide +kernel
theorem dX8_does_118 : decode cX8_does 118 = .ok (.invokevirtual 154, 3) := by decide +kernel
theorem dX8_does_121 : decode cX8_does 121 = .ok (.goto 22, 3) := by decide +kernel
theorem dX8_does_124 : decode cX8_does 124 = .ok (.aload_n 0, 1) := by decide +kernel
theorem dX8_does_125 : decode cX8_does 125 = .ok (.iload_n 3, 1) := by decide +kernel
theorem dX8_does_126 : decode cX8_does 126 = .ok (.invokevirtual 200, 3) := by decide +kernel
theorem dX8_does_129 : decode cX8_does 129 = .ok (.aload_n 0, 1) := by decide +kernel
theorem dX8_does_130 : decode cX8_does 130 = .ok (.getfield 30, 3) := by decide +kernel
theorem dX8_does_133 : decode cX8_does 133 = .ok (.iload_n 3, 1) := by decide +kernel
theorem dX8_does_134 : decode cX8_does 134 = .ok (.iconst 0, 1) := by decide +kernel
theorem dX8_does_135 : decode cX8_does 135 = .ok (.bastore, 1) := by decide +kernel
theorem dX8_does_136 : decode cX8_does 136 = .ok (.aload_n 0, 1) := by decide +kernel
theorem dX8_does_137 : decode cX8_does 137 = .ok (.getfield 33, 3) := by decide +kernel
theorem dX8_does_140 : decode cX8_does 140 = .ok (.iload_n 3, 1) := by decide +kernel
theorem dX8_does_141 : decode cX8_does 141 = .ok (.iconst 0, 1) := by decide +kernel
theorem dX8_does_142 : decode cX8_does 142 = .ok (.bastore, 1) := by decide +kernel
theorem dX8_does_143 : decode cX8_does 143 = .ok (.return_, 1) := by decide +kernel
theorem dX8_day_0 : decode cX8_day 0 = .ok (.aload_n 0, 1) := by decide +kernel
theorem dX8_day_1 : decode cX8_day 1 = .ok (.getfield 204, 3) := by decide +kernel
theorem dX8_day_4 : decode cX8_day 4 = .ok (.bipush 50, 2) := by decide +kernel
theorem dX8_day_6 : decode cX8_day 6 = .ok (.if_icmp .ne 9, 3) := by decide +kernel
theorem dX8_day_9 : decode cX8_day 9 = .ok (.aload_n 0, 1) := by decide +kernel
theorem dX8_day_10 : decode cX8_day 10 = .ok (.iconst 1, 1) := by decide +kernel
theorem dX8_day_11 : decode cX8_day 11 = .ok (.invokevirtual 110, 3) := by decide +kernel
theorem dX8_day_14 : decode cX8_day 14 = .ok (.ireturn, 1) := by decide +kernel
theorem dX8_day_15 : decode cX8_day 15 = .ok (.iconst 0, 1) := by decide +kernel
theorem dX8_day_16 : decode cX8_day 16 = .ok (.istore_n 1, 1) := by decide +kernel
theorem dX8_day_17 : decode cX8_day 17 = .ok (.iconst 0, 1) := by decide +kernel
theorem dX8_day_18 : decode cX8_day 18 = .ok (.istore_n 2, 1) := by decide +kernel
theorem dX8_day_19 : decode cX8_day 19 = .ok (.iload_n 2, 1) := by decide +kernel
theorem dX8_day_20 : decode cX8_day 20 = .ok (.aload_n 0, 1) := by decide +kernel
theorem dX8_day_21 : decode cX8_day 21 = .ok (.getfield 107, 3) := by decide +kernel
theorem dX8_day_24 : decode cX8_day 24 = .ok (.if_icmp .ge 62, 3) := by decide +kernel
theorem dX8_day_27 : decode cX8_day 27 = .ok (.aload_n 0, 1) := by decide +kernel
theorem dX8_day_28 : decode cX8_day 28 = .ok (.sipush 480, 3) := by decide +kernel
theorem dX8_day_31 : decode cX8_day 31 = .ok (.putfield 188, 3) := by decide +kernel
theorem dX8_day_34 : decode cX8_day 34 = .ok (.aload_n 0, 1) := by decide +kernel
theorem dX8_day_35 : decode cX8_day 35 = .ok (.iload_n 2, 1) := by decide +kernel
theorem dX8_day_36 : decode cX8_day 36 = .ok (.invokevirtual 207, 3) := by decide +kernel
theorem dX8_day_39 : decode cX8_day 39 = .ok (.istore_n 3, 1) := by decide +kernel
theorem dX8_day_40 : decode cX8_day 40 = .ok (.iload_n 3, 1) := by decide +kernel
theorem dX8_day_41 : decode cX8_day 41 = .ok (.iconst (-1), 1) := by decide +kernel
theorem dX8_day_42 : decode cX8_day 42 = .ok (.if_icmp .eq 38, 3) := by decide +kernel
theorem dX8_day_45 : decode cX8_day 45 = .ok (.aload_n 0, 1) := by decide +kernel
theorem dX8_day_46 : decode cX8_day 46 = .ok (.iload_n 2, 1) := by decide +kernel
theorem dX8_day_47 : decode cX8_day 47 = .ok (.iload_n 3, 1) := by decide +kernel
theorem dX8_day_48 : decode cX8_day 48 = .ok (.invokevirtual 210, 3) := by decide +kernel
theorem dX8_day_51 : decode cX8_day 51 = .ok (.ifCond .eq 20, 3) := by decide +kernel
theorem dX8_day_54 : decode cX8_day 54 = .ok (.aload_n 0, 1) := by decide +kernel
theorem dX8_day_55 : decode cX8_day 55 = .ok (.iload_n 3, 1) := by decide +kernel
theorem dX8_day_56 : decode cX8_day 56 = .ok (.invokevirtual 194, 3) := by decide +kernel
theorem dX8_day_59 : decode cX8_day 59 = .ok (.ifCond .eq 12, 3) := by decide +kernel
theorem dX8_day_62 : decode cX8_day 62 = .ok (.aload_n 0, 1) := by decide +kernel
theorem dX8_day_63 : decode cX8_day 63 = .ok (.iload_n 2, 1) := by decide +kernel
theorem dX8_day_64 : decode cX8_day 64 = .ok (.iload_n 3, 1) := by decide +kernel
theorem dX8_day_65 : decode cX8_day 65 = .ok (.invokevirtual 213, 3) := by decide +kernel
theorem dX8_day_68 : decode cX8_day 68 = .ok (.iinc 1 1, 3) := by decide +kernel
theorem dX8_day_71 : decode cX8_day 71 = .ok (.aload_n 0, 1) := by decide +kernel
theorem dX8_day_72 : decode cX8_day 72 = .ok (.iload_n 2, 1) := by decide +kernel
theorem dX8_day_73 : decode cX8_day 73 = .ok (.invokevirtual 207, 3) := by decide +kernel
theorem dX8_day_76 : decode cX8_day 76 = .ok (.istore_n 3, 1) := by decide +kernel
theorem dX8_day_77 : decode cX8_day 77 = .ok (.goto (-37), 3) := by decide +kernel
theorem dX8_day_80 : decode cX8_day 80 = .ok (.iinc 2 1, 3) := by decide +kernel
theorem dX8_day_83 : decode cX8_day 83 = .ok (.goto (-64), 3) := by decide +kernel
theorem dX8_day_86 : decode cX8_day 86 = .ok (.aload_n 0, 1) := by decide +kernel
theorem dX8_day_87 : decode cX8_day 87 = .ok (.dup, 1) := by decide +kernel
theorem dX8_day_88 : decode cX8_day 88 = .ok (.getfield 204, 3) := by decide +kernel
theorem dX8_day_91 : decode cX8_day 91 = .ok (.iconst 1, 1) := by decide +kernel
theorem dX8_day_92 : decode cX8_day 92 = .ok (.iadd, 1) := by decide +kernel
theorem dX8_day_93 : decode cX8_day 93 = .ok (.putfield 204, 3) := by decide +kernel
theorem dX8_day_96 : decode cX8_day 96 = .ok (.aload_n 0, 1) := by decide +kernel
theorem dX8_day_97 : decode cX8_day 97 = .ok (.iload_n 1, 1) := by decide +kernel
theorem dX8_day_98 : decode cX8_day 98 = .ok (.invokevirtual 114, 3) := by decide +kernel
theorem dX8_day_101 : decode cX8_day 101 = .ok (.ireturn, 1) := by decide +kernel
theorem dX8_print_0 : decode cX8_print 0 = .ok (.aload_n 0, 1) := by decide +kernel
theorem dX8_print_1 : decode cX8_print 1 = .ok (.getfield 217, 3) := by decide +kernel
theorem dX8_print_4 : decode cX8_print 4 = .ok (.bipush 10, 2) := by decide +kernel
theorem dX8_print_6 : decode cX8_print 6 = .ok (.if_icmp .ne 9, 3) := by decide +kernel
theorem dX8_print_9 : decode cX8_print 9 = .ok (.aload_n 0, 1) := by decide +kernel
theorem dX8_print_10 : decode cX8_print 10 = .ok (.iconst 1, 1) := by decide +kernel
theorem dX8_print_11 : decode cX8_print 11 = .ok (.invokevirtual 110, 3) := by decide +kernel
theorem dX8_print_14 : decode cX8_print 14 = .ok (.ireturn, 1) := by decide +kernel
theorem dX8_print_15 : decode cX8_print 15 = .ok (.iconst 0, 1) := by decide +kernel
theorem dX8_print_16 : decode cX8_print 16 = .ok (.istore_n 1, 1) := by decide +kernel
theorem dX8_print_17 : decode cX8_print 17 = .ok (.iload_n 1, 1) := by decide +kernel
theorem dX8_print_18 : decode cX8_print 18 = .ok (.aload_n 0, 1) := by decide +kernel
theorem dX8_print_19 : decode cX8_print 19 = .ok (.getfield 98, 3) := by decide +kernel
theorem dX8_print_22 : decode cX8_print 22 = .ok (.if_icmp .ge 37, 3) := by decide +kernel
theorem dX8_print_25 : decode cX8_print 25 = .ok (.aload_n 0, 1) := by decide +kernel
theorem dX8_print_26 : decode cX8_print 26 = .ok (.getfield 79, 3) := by decide +kernel
theorem dX8_print_29 : decode cX8_print 29 = .ok (.aload_n 0, 1) := by decide +kernel
theorem dX8_print_30 : decode cX8_print 30 = .ok (.getfield 217, 3) := by decide +kernel
theorem dX8_print_33 : decode cX8_print 33 = .ok (.bipush 24, 2) := by decide +kernel
theorem dX8_print_35 : decode cX8_print 35 = .ok (.imul, 1) := by decide +kernel
theorem dX8_print_36 : decode cX8_print 36 = .ok (.iload_n 1, 1) := by decide +kernel
theorem dX8_print_37 : decode cX8_print 37 = .ok (.iadd, 1) := by decide +kernel
theorem dX8_print_38 : decode cX8_print 38 = .ok (.aload_n 0, 1) := by decide +kernel
theorem dX8_print_39 : decode cX8_print 39 = .ok (.getfield 33, 3) := by decide +kernel
theorem dX8_print_42 : decode cX8_print 42 = .ok (.iload_n 1, 1) := by decide +kernel
theorem dX8_print_43 : decode cX8_print 43 = .ok (.baload, 1) := by decide +kernel
theorem dX8_print_44 : decode cX8_print 44 = .ok (.ifCond .ne 7, 3) := by decide +kernel
theorem dX8_print_47 : decode cX8_print 47 = .ok (.iconst 1, 1) := by decide +kernel
theorem dX8_print_48 : decode cX8_print 48 = .ok (.goto 4, 3) := by decide +kernel
theorem dX8_print_51 : decode cX8_print 51 = .ok (.iconst 0, 1) := by decide +kernel
theorem dX8_print_52 : decode cX8_print 52 = .ok (.bastore, 1) := by decide +kernel
theorem dX8_print_53 : decode cX8_print 53 = .ok (.iinc 1 1, 3) := by decide +kernel
theorem dX8_print_56 : decode cX8_print 56 = .ok (.goto (-39), 3) := by decide +kernel
theorem dX8_print_59 : decode cX8_print 59 = .ok (.aload_n 0, 1) := by decide +kernel
theorem dX8_print_60 : decode cX8_print 60 = .ok (.getfield 82, 3) := by decide +kernel
theorem dX8_print_63 : decode cX8_print 63 = .ok (.aload_n 0, 1) := by decide +kernel
theorem dX8_print_64 : decode cX8_print 64 = .ok (.getfield 217, 3) := by decide +kernel
theorem dX8_print_67 : decode cX8_print 67 = .ok (.aload_n 0, 1) := by decide +kernel
theorem dX8_print_68 : decode cX8_print 68 = .ok (.getfield 204, 3) := by decide +kernel
theorem dX8_print_71 : decode cX8_print 71 = .ok (.iastore, 1) := by decide +kernel
theorem dX8_print_72 : decode cX8_print 72 = .ok (.aload_n 0, 1) := by decide +kernel
theorem dX8_print_73 : decode cX8_print 73 = .ok (.dup, 1) := by decide +kernel
theorem dX8_print_74 : decode cX8_print 74 = .ok (.getfield 217, 3) := by decide +kernel
theorem dX8_print_77 : decode cX8_print 77 = .ok (.iconst 1, 1) := by decide +kernel
theorem dX8_print_78 : decode cX8_print 78 = .ok (.iadd, 1) := by decide +kernel
theorem dX8_print_79 : decode cX8_print 79 = .ok (.putfield 217, 3) := by decide +kernel
theorem dX8_print_82 : decode cX8_print 82 = .ok (.aload_n 0, 1) := by decide +kernel
theorem dX8_print_83 : decode cX8_print 83 = .ok (.aload_n 0, 1) := by decide +kernel
theorem dX8_print_84 : decode cX8_print 84 = .ok (.getfield 217, 3) := by decide +kernel
theorem dX8_print_87 : decode cX8_print 87 = .ok (.iconst 1, 1) := by decide +kernel
theorem dX8_print_88 : decode cX8_print 88 = .ok (.isub, 1) := by decide +kernel
theorem dX8_print_89 : decode cX8_print 89 = .ok (.invokevirtual 114, 3) := by decide +kernel
theorem dX8_print_92 : decode cX8_print 92 = .ok (.ireturn, 1) := by decide +kernel
theorem dX8_isMap_0 : decode cX8_isMap 0 = .ok (.aload_n 0, 1) := by decide +kernel
theorem dX8_isMap_1 : decode cX8_isMap 1 = .ok (.iload_n 1, 1) := by decide +kernel
theorem dX8_isMap_2 : decode cX8_isMap 2 = .ok (.iconst 0, 1) := by decide +kernel
theorem dX8_isMap_3 : decode cX8_isMap 3 = .ok (.aload_n 0, 1) := by decide +kernel
theorem dX8_isMap_4 : decode cX8_isMap 4 = .ok (.getfield 217, 3) := by decide +kernel
theorem dX8_isMap_7 : decode cX8_isMap 7 = .ok (.iconst 1, 1) := by decide +kernel
theorem dX8_isMap_8 : decode cX8_isMap 8 = .ok (.isub, 1) := by decide +kernel
theorem dX8_isMap_9 : decode cX8_isMap 9 = .ok (.invokevirtual 94, 3) := by decide +kernel
theorem dX8_isMap_12 : decode cX8_isMap 12 = .ok (.ireturn, 1) := by decide +kernel
theorem dX8_shows_0 : decode cX8_shows 0 = .ok (.aload_n 0, 1) := by decide +kernel
theorem dX8_shows_1 : decode cX8_shows 1 = .ok (.aload_n 0, 1) := by decide +kernel
theorem dX8_shows_2 : decode cX8_shows 2 = .ok (.iload_n 1, 1) := by decide +kernel
theorem dX8_shows_3 : decode cX8_shows 3 = .ok (.invokevirtual 220, 3) := by decide +kernel
theorem dX8_shows_6 : decode cX8_shows 6 = .ok (.ifCond .eq 15, 3) := by decide +kernel
theorem dX8_shows_9 : decode cX8_shows 9 = .ok (.aload_n 0, 1) := by decide +kernel
theorem dX8_shows_10 : decode cX8_shows 10 = .ok (.iload_n 2, 1) := by decide +kernel
theorem dX8_shows_11 : decode cX8_shows 11 = .ok (.invokevirtual 121, 3) := by decide +kernel
theorem dX8_shows_14 : decode cX8_shows 14 = .ok (.ifCond .eq 7, 3) := by decide +kernel
theorem dX8_shows_17 : decode cX8_shows 17 = .ok (.iconst 0, 1) := by decide +kernel
theorem dX8_shows_18 : decode cX8_shows 18 = .ok (.goto 4, 3) := by decide +kernel
theorem dX8_shows_21 : decode cX8_shows 21 = .ok (.iconst 1, 1) := by decide +kernel
theorem dX8_shows_22 : decode cX8_shows 22 = .ok (.putfield 88, 3) := by decide +kernel
theorem dX8_shows_25 : decode cX8_shows 25 = .ok (.aload_n 0, 1) := by decide +kernel
theorem dX8_shows_26 : decode cX8_shows 26 = .ok (.getfield 88, 3) := by decide +kernel
theorem dX8_shows_29 : decode cX8_shows 29 = .ok (.ifCond .ne 21, 3) := by decide +kernel
theorem dX8_shows_32 : decode cX8_shows 32 = .ok (.aload_n 0, 1) := by decide +kernel
theorem dX8_shows_33 : decode cX8_shows 33 = .ok (.getfield 79, 3) := by decide +kernel
theorem dX8_shows_36 : decode cX8_shows 36 = .ok (.iload_n 1, 1) := by decide +kernel
theorem dX8_shows_37 : decode cX8_shows 37 = .ok (.bipush 24, 2) := by decide +kernel
theorem dX8_shows_39 : decode cX8_shows 39 = .ok (.imul, 1) := by decide +kernel
theorem dX8_shows_40 : decode cX8_shows 40 = .ok (.iload_n 2, 1) := by decide +kernel
theorem dX8_shows_41 : decode cX8_shows 41 = .ok (.iadd, 1) := by decide +kernel
theorem dX8_shows_42 : decode cX8_shows 42 = .ok (.baload, 1) := by decide +kernel
theorem dX8_shows_43 : decode cX8_shows 43 = .ok (.ifCond .eq 7, 3) := by decide +kernel
theorem dX8_shows_46 : decode cX8_shows 46 = .ok (.iconst 1, 1) := by decide +kernel
theorem dX8_shows_47 : decode cX8_shows 47 = .ok (.goto 4, 3) := by decide +kernel
theorem dX8_shows_50 : decode cX8_shows 50 = .ok (.iconst 0, 1) := by decide +kernel
theorem dX8_shows_51 : decode cX8_shows 51 = .ok (.ireturn, 1) := by decide +kernel
theorem dX8_age_0 : decode cX8_age 0 = .ok (.aload_n 0, 1) := by decide +kernel
theorem dX8_age_1 : decode cX8_age 1 = .ok (.iload_n 1, 1) := by decide +kernel
theorem dX8_age_2 : decode cX8_age 2 = .ok (.invokevirtual 220, 3) := by decide +kernel
theorem dX8_age_5 : decode cX8_age 5 = .ok (.ifCond .eq 21, 3) := by decide +kernel
theorem dX8_age_8 : decode cX8_age 8 = .ok (.aload_n 0, 1) := by decide +kernel
theorem dX8_age_9 : decode cX8_age 9 = .ok (.aload_n 0, 1) := by decide +kernel
theorem dX8_age_10 : decode cX8_age 10 = .ok (.getfield 204, 3) := by decide +kernel
theorem dX8_age_13 : decode cX8_age 13 = .ok (.aload_n 0, 1) := by decide +kernel
theorem dX8_age_14 : decode cX8_age 14 = .ok (.getfield 82, 3) := by decide +kernel
theorem dX8_age_17 : decode cX8_age 17 = .ok (.iload_n 1, 1) := by decide +kernel
theorem dX8_age_18 : decode cX8_age 18 = .ok (.iaload, 1) := by decide +kernel
theorem dX8_age_19 : decode cX8_age 19 = .ok (.isub, 1) := by decide +kernel
theorem dX8_age_20 : decode cX8_age 20 = .ok (.invokevirtual 114, 3) := by decide +kernel
theorem dX8_age_23 : decode cX8_age 23 = .ok (.goto 8, 3) := by decide +kernel
theorem dX8_age_26 : decode cX8_age 26 = .ok (.aload_n 0, 1) := by decide +kernel
theorem dX8_age_27 : decode cX8_age 27 = .ok (.iconst 1, 1) := by decide +kernel
theorem dX8_age_28 : decode cX8_age 28 = .ok (.invokevirtual 110, 3) := by decide +kernel
theorem dX8_age_31 : decode cX8_age 31 = .ok (.ireturn, 1) := by decide +kernel
theorem dX8_knownShare_0 : decode cX8_knownShare 0 = .ok (.aload_n 0, 1) := by decide +kernel
theorem dX8_knownShare_1 : decode cX8_knownShare 1 = .ok (.aload_n 0, 1) := by decide +kernel
theorem dX8_knownShare_2 : decode cX8_knownShare 2 = .ok (.getfield 98, 3) := by decide +kernel
theorem dX8_knownShare_5 : decode cX8_knownShare 5 = .ok (.ifCond .ne 7, 3) := by decide +kernel
theorem dX8_knownShare_8 : decode cX8_knownShare 8 = .ok (.iconst 1, 1) := by decide +kernel
theorem dX8_knownShare_9 : decode cX8_knownShare 9 = .ok (.goto 4, 3) := by decide +kernel
theorem dX8_knownShare_12 : decode cX8_knownShare 12 = .ok (.iconst 0, 1) := by decide +kernel
theorem dX8_knownShare_13 : decode cX8_knownShare 13 = .ok (.putfield 88, 3) := by decide +kernel
theorem dX8_knownShare_16 : decode cX8_knownShare 16 = .ok (.aload_n 0, 1) := by decide +kernel
theorem dX8_knownShare_17 : decode cX8_knownShare 17 = .ok (.getfield 88, 3) := by decide +kernel
theorem dX8_knownShare_20 : decode cX8_knownShare 20 = .ok (.ifCond .le 5, 3) := by decide +kernel
theorem dX8_knownShare_23 : decode cX8_knownShare 23 = .ok (.fconst 0, 1) := by decide +kernel
theorem dX8_knownShare_24 : decode cX8_knownShare 24 = .ok (.freturn, 1) := by decide +kernel
theorem dX8_knownShare_25 : decode cX8_knownShare 25 = .ok (.iconst 0, 1) := by decide +kernel
theorem dX8_knownShare_26 : decode cX8_knownShare 26 = .ok (.istore_n 1, 1) := by decide +kernel
theorem dX8_knownShare_27 : decode cX8_knownShare 27 = .ok (.iconst 0, 1) := by decide +kernel
theorem dX8_knownShare_28 : decode cX8_knownShare 28 = .ok (.istore_n 2, 1) := by decide +kernel
theorem dX8_knownShare_29 : decode cX8_knownShare 29 = .ok (.iload_n 2, 1) := by decide +kernel
theorem dX8_knownShare_30 : decode cX8_knownShare 30 = .ok (.aload_n 0, 1) := by decide +kernel
theorem dX8_knownShare_31 : decode cX8_knownShare 31 = .ok (.getfield 98, 3) := by decide +kernel
theorem dX8_knownShare_34 : decode cX8_knownShare 34 = .ok (.if_icmp .ge 32, 3) := by decide +kernel
theorem dX8_knownShare_37 : decode cX8_knownShare 37 = .ok (.iload_n 1, 1) := by decide +kernel
theorem dX8_knownShare_38 : decode cX8_knownShare 38 = .ok (.aload_n 0, 1) := by decide +kernel
theorem dX8_knownShare_39 : decode cX8_knownShare 39 = .ok (.getfield 30, 3) := by decide +kernel
theorem dX8_knownShare_42 : decode cX8_knownShare 42 = .ok (.iload_n 2, 1) := by decide +kernel
theorem dX8_knownShare_43 : decode cX8_knownShare 43 = .ok (.baload, 1) := by decide +kernel
theorem dX8_knownShare_44 : decode cX8_knownShare 44 = .ok (.aload_n 0, 1) := by decide +kernel
theorem dX8_knownShare_45 : decode cX8_knownShare 45 = .ok (.getfield 33, 3) := by decide +kernel
theorem dX8_knownShare_48 : decode cX8_knownShare 48 = .ok (.iload_n 2, 1) := by decide +kernel
theorem dX8_knownShare_49 : decode cX8_knownShare 49 = .ok (.baload, 1) := by decide +kernel
theorem dX8_knownShare_50 : decode cX8_knownShare 50 = .ok (.if_icmp .ne 7, 3) := by decide +kernel
theorem dX8_knownShare_53 : decode cX8_knownShare 53 = .ok (.iconst 1, 1) := by decide +kernel
theorem dX8_knownShare_54 : decode cX8_knownShare 54 = .ok (.goto 4, 3) := by decide +kernel
theorem dX8_knownShare_57 : decode cX8_knownShare 57 = .ok (.iconst 0, 1) := by decide +kernel
theorem dX8_knownShare_58 : decode cX8_knownShare 58 = .ok (.iadd, 1) := by decide +kernel
theorem dX8_knownShare_59 : decode cX8_knownShare 59 = .ok (.istore_n 1, 1) := by decide +kernel
theorem dX8_knownShare_60 : decode cX8_knownShare 60 = .ok (.iinc 2 1, 3) := by decide +kernel
theorem dX8_knownShare_63 : decode cX8_knownShare 63 = .ok (.goto (-34), 3) := by decide +kernel
theorem dX8_knownShare_66 : decode cX8_knownShare 66 = .ok (.iload_n 1, 1) := by decide +kernel
theorem dX8_knownShare_67 : decode cX8_knownShare 67 = .ok (.i2f, 1) := by decide +kernel
theorem dX8_knownShare_68 : decode cX8_knownShare 68 = .ok (.aload_n 0, 1) := by decide +kernel
theorem dX8_knownShare_69 : decode cX8_knownShare 69 = .ok (.getfield 98, 3) := by decide +kernel
theorem dX8_knownShare_72 : decode cX8_knownShare 72 = .ok (.i2f, 1) := by decide +kernel
theorem dX8_knownShare_73 : decode cX8_knownShare 73 = .ok (.fdiv, 1) := by decide +kernel
theorem dX8_knownShare_74 : decode cX8_knownShare 74 = .ok (.freturn, 1) := by decide +kernel
theorem dX8_meanDanger_0 : decode cX8_meanDanger 0 = .ok (.aload_n 0, 1) := by decide +kernel
theorem dX8_meanDanger_1 : decode cX8_meanDanger 1 = .ok (.aload_n 0, 1) := by decide +kernel
theorem dX8_meanDanger_2 : decode cX8_meanDanger 2 = .ok (.getfield 101, 3) := by decide +kernel
theorem dX8_meanDanger_5 : decode cX8_meanDanger 5 = .ok (.ifCond .ne 7, 3) := by decide +kernel
theorem dX8_meanDanger_8 : decode cX8_meanDanger 8 = .ok (.iconst 1, 1) := by decide +kernel
theorem dX8_meanDanger_9 : decode cX8_meanDanger 9 = .ok (.goto 4, 3) := by decide +kernel
theorem dX8_meanDanger_12 : decode cX8_meanDanger 12 = .ok (.iconst 0, 1) := by decide +kernel
theorem dX8_meanDanger_13 : decode cX8_meanDanger 13 = .ok (.putfield 88, 3) := by decide +kernel
theorem dX8_meanDanger_16 : decode cX8_meanDanger 16 = .ok (.aload_n 0, 1) := by decide +kernel
theorem dX8_meanDanger_17 : decode cX8_meanDanger 17 = .ok (.getfield 88, 3) := by decide +kernel
theorem dX8_meanDanger_20 : decode cX8_meanDanger 20 = .ok (.ifCond .le 5, 3) := by decide +kernel
theorem dX8_meanDanger_23 : decode cX8_meanDanger 23 = .ok (.dconst 0, 1) := by decide +kernel
theorem dX8_meanDanger_24 : decode cX8_meanDanger 24 = .ok (.dreturn, 1) := by decide +kernel
theorem dX8_meanDanger_25 : decode cX8_meanDanger 25 = .ok (.iconst 0, 1) := by decide +kernel
theorem dX8_meanDanger_26 : decode cX8_meanDanger 26 = .ok (.istore_n 1, 1) := by decide +kernel
theorem dX8_meanDanger_27 : decode cX8_meanDanger 27 = .ok (.iconst 0, 1) := by decide +kernel
theorem dX8_meanDanger_28 : decode cX8_meanDanger 28 = .ok (.istore_n 2, 1) := by decide +kernel
theorem dX8_meanDanger_29 : decode cX8_meanDanger 29 = .ok (.iload_n 2, 1) := by decide +kernel
theorem dX8_meanDanger_30 : decode cX8_meanDanger 30 = .ok (.aload_n 0, 1) := by decide +kernel
theorem dX8_meanDanger_31 : decode cX8_meanDanger 31 = .ok (.getfield 101, 3) := by decide +kernel
theorem dX8_meanDanger_34 : decode cX8_meanDanger 34 = .ok (.if_icmp .ge 18, 3) := by decide +kernel
theorem dX8_meanDanger_37 : decode cX8_meanDanger 37 = .ok (.iload_n 1, 1) := by decide +kernel
theorem dX8_meanDanger_38 : decode cX8_meanDanger 38 = .ok (.aload_n 0, 1) := by decide +kernel
theorem dX8_meanDanger_39 : decode cX8_meanDanger 39 = .ok (.iload_n 2, 1) := by decide +kernel
theorem dX8_meanDanger_40 : decode cX8_meanDanger 40 = .ok (.iconst 0, 1) := by decide +kernel
theorem dX8_meanDanger_41 : decode cX8_meanDanger 41 = .ok (.invokevirtual 161, 3) := by decide +kernel
theorem dX8_meanDanger_44 : decode cX8_meanDanger 44 = .ok (.iadd, 1) := by decide +kernel
theorem dX8_meanDanger_45 : decode cX8_meanDanger 45 = .ok (.istore_n 1, 1) := by decide +kernel
theorem dX8_meanDanger_46 : decode cX8_meanDanger 46 = .ok (.iinc 2 1, 3) := by decide +kernel
theorem dX8_meanDanger_49 : decode cX8_meanDanger 49 = .ok (.goto (-20), 3) := by decide +kernel
theorem dX8_meanDanger_52 : decode cX8_meanDanger 52 = .ok (.iload_n 1, 1) := by decide +kernel
theorem dX8_meanDanger_53 : decode cX8_meanDanger 53 = .ok (.i2d, 1) := by decide +kernel
theorem dX8_meanDanger_54 : decode cX8_meanDanger 54 = .ok (.aload_n 0, 1) := by decide +kernel
theorem dX8_meanDanger_55 : decode cX8_meanDanger 55 = .ok (.getfield 101, 3) := by decide +kernel
theorem dX8_meanDanger_58 : decode cX8_meanDanger 58 = .ok (.i2d, 1) := by decide +kernel
theorem dX8_meanDanger_59 : decode cX8_meanDanger 59 = .ok (.ddiv, 1) := by decide +kernel
theorem dX8_meanDanger_60 : decode cX8_meanDanger 60 = .ok (.dreturn, 1) := by decide +kernel
theorem dX8_isSound_0 : decode cX8_isSound 0 = .ok (.aload_n 0, 1) := by decide +kernel
theorem dX8_isSound_1 : decode cX8_isSound 1 = .ok (.iconst 0, 1) := by decide +kernel
theorem dX8_isSound_2 : decode cX8_isSound 2 = .ok (.putfield 88, 3) := by decide +kernel
theorem dX8_isSound_5 : decode cX8_isSound 5 = .ok (.iconst 1, 1) := by decide +kernel
theorem dX8_isSound_6 : decode cX8_isSound 6 = .ok (.ireturn, 1) := by decide +kernel
end
section
theorem dL_addFork_0 : decode cL_addFork 0 = .ok (.aload_n 2, 1) := by decide +kernel
theorem dL_addFork_1 : decode cL_addFork 1 = .ok (.iconst 0, 1) := by decide +kernel
theorem dL_addFork_2 : decode cL_addFork 2 = .ok (.aload_n 0, 1) := by decide +kernel
theorem dL_addFork_3 : decode cL_addFork 3 = .ok (.iload_n 1, 1) := by decide +kernel
theorem dL_addFork_4 : decode cL_addFork 4 = .ok (.invokevirtual 7, 3) := by decide +kernel
theorem dL_addFork_7 : decode cL_addFork 7 = .ok (.i2l, 1) := by decide +kernel
theorem dL_addFork_8 : decode cL_addFork 8 = .ok (.lastore, 1) := by decide +kernel
theorem dL_addFork_9 : decode cL_addFork 9 = .ok (.goto 6, 3) := by decide +kernel
theorem dL_addFork_12 : decode cL_addFork 12 = .ok (.astore_n 3, 1) := by decide +kernel
theorem dL_addFork_13 : decode cL_addFork 13 = .ok (.iconst 1, 1) := by decide +kernel
theorem dL_addFork_14 : decode cL_addFork 14 = .ok (.ireturn, 1) := by decide +kernel
theorem dL_addFork_15 : decode cL_addFork 15 = .ok (.iconst 0, 1) := by decide +kernel
theorem dL_addFork_16 : decode cL_addFork 16 = .ok (.ireturn, 1) := by decide +kernel
theorem dL_addTrail_0 : decode cL_addTrail 0 = .ok (.aload 5, 2) := by decide +kernel
theorem dL_addTrail_2 : decode cL_addTrail 2 = .ok (.iconst 0, 1) := by decide +kernel
theorem dL_addTrail_3 : decode cL_addTrail 3 = .ok (.aload_n 0, 1) := by decide +kernel
theorem dL_addTrail_4 : decode cL_addTrail 4 = .ok (.iload_n 1, 1) := by decide +kernel
theorem dL_addTrail_5 : decode cL_addTrail 5 = .ok (.iload_n 2, 1) := by decide +kernel
theorem dL_addTrail_6 : decode cL_addTrail 6 = .ok (.iload_n 3, 1) := by decide +kernel
theorem dL_addTrail_7 : decode cL_addTrail 7 = .ok (.iload 4, 2) := by decide +kernel
theorem dL_addTrail_9 : decode cL_addTrail 9 = .ok (.invokevirtual 15, 3) := by decide +kernel
theorem dL_addTrail_12 : decode cL_addTrail 12 = .ok (.i2l, 1) := by decide +kernel
theorem dL_addTrail_13 : decode cL_addTrail 13 = .ok (.lastore, 1) := by decide +kernel
theorem dL_addTrail_14 : decode cL_addTrail 14 = .ok (.goto 15, 3) := by decide +kernel
theorem dL_addTrail_17 : decode cL_addTrail 17 = .ok (.astore 6, 2) := by decide +kernel
theorem dL_addTrail_19 : decode cL_addTrail 19 = .ok (.iconst 1, 1) := by decide +kernel
theorem dL_addTrail_20 : decode cL_addTrail 20 = .ok (.ireturn, 1) := by decide +kernel
theorem dL_addTrail_21 : decode cL_addTrail 21 = .ok (.astore 6, 2) := by decide +kernel
theorem dL_addTrail_23 : decode cL_addTrail 23 = .ok (.iconst 2, 1) := by decide +kernel
theorem dL_addTrail_24 : decode cL_addTrail 24 = .ok (.ireturn, 1) := by decide +kernel
theorem dL_addTrail_25 : decode cL_addTrail 25 = .ok (.astore 6, 2) := by decide +kernel
theorem dL_addTrail_27 : decode cL_addTrail 27 = .ok (.iconst 3, 1) := by decide +kernel
theorem dL_addTrail_28 : decode cL_addTrail 28 = .ok (.ireturn, 1) := by decide +kernel
theorem dL_addTrail_29 : decode cL_addTrail 29 = .ok (.iconst 0, 1) := by decide +kernel
theorem dL_addTrail_30 : decode cL_addTrail 30 = .ok (.ireturn, 1) := by decide +kernel
theorem dL_washOut_0 : decode cL_washOut 0 = .ok (.aload_n 2, 1) := by decide +kernel
theorem dL_washOut_1 : decode cL_washOut 1 = .ok (.iconst 0, 1) := by decide +kernel
theorem dL_washOut_2 : decode cL_washOut 2 = .ok (.aload_n 0, 1) := by decide +kernel
theorem dL_washOut_3 : decode cL_washOut 3 = .ok (.iload_n 1, 1) := by decide +kernel
theorem dL_washOut_4 : decode cL_washOut 4 = .ok (.invokevirtual 23, 3) := by decide +kernel
theorem dL_washOut_7 : decode cL_washOut 7 = .ok (.ifCond .eq 7, 3) := by decide +kernel
theorem dL_washOut_10 : decode cL_washOut 10 = .ok (.lconst 1, 1) := by decide +kernel
theorem dL_washOut_11 : decode cL_washOut 11 = .ok (.goto 4, 3) := by decide +kernel
theorem dL_washOut_14 : decode cL_washOut 14 = .ok (.lconst 0, 1) := by decide +kernel
theorem dL_washOut_15 : decode cL_washOut 15 = .ok (.lastore, 1) := by decide +kernel
theorem dL_washOut_16 : decode cL_washOut 16 = .ok (.goto 6, 3) := by decide +kernel
theorem dL_washOut_19 : decode cL_washOut 19 = .ok (.astore_n 3, 1) := by decide +kernel
theorem dL_washOut_20 : decode cL_washOut 20 = .ok (.iconst 1, 1) := by decide +kernel
theorem dL_washOut_21 : decode cL_washOut 21 = .ok (.ireturn, 1) := by decide +kernel
theorem dL_washOut_22 : decode cL_washOut 22 = .ok (.iconst 0, 1) := by decide +kernel
theorem dL_washOut_23 : decode cL_washOut 23 = .ok (.ireturn, 1) := by decide +kernel
theorem dL_isGone_0 : decode cL_isGone 0 = .ok (.aload_n 3, 1) := by decide +kernel
theorem dL_isGone_1 : decode cL_isGone 1 = .ok (.iconst 0, 1) := by decide +kernel
theorem dL_isGone_2 : decode cL_isGone 2 = .ok (.aload_n 0, 1) := by decide +kernel
theorem dL_isGone_3 : decode cL_isGone 3 = .ok (.iload_n 1, 1) := by decide +kernel
theorem dL_isGone_4 : decode cL_isGone 4 = .ok (.iload_n 2, 1) := by decide +kernel
theorem dL_isGone_5 : decode cL_isGone 5 = .ok (.invokevirtual 27, 3) := by decide +kernel
theorem dL_isGone_8 : decode cL_isGone 8 = .ok (.ifCond .eq 7, 3) := by decide +kernel
theorem dL_isGone_11 : decode cL_isGone 11 = .ok (.lconst 1, 1) := by decide +kernel
theorem dL_isGone_12 : decode cL_isGone 12 = .ok (.goto 4, 3) := by decide +kernel
theorem dL_isGone_15 : decode cL_isGone 15 = .ok (.lconst 0, 1) := by decide +kernel
theorem dL_isGone_16 : decode cL_isGone 16 = .ok (.lastore, 1) := by decide +kernel
theorem dL_isGone_17 : decode cL_isGone 17 = .ok (.goto 7, 3) := by decide +kernel
theorem dL_isGone_20 : decode cL_isGone 20 = .ok (.astore 4, 2) := by decide +kernel
theorem dL_isGone_22 : decode cL_isGone 22 = .ok (.iconst 1, 1) := by decide +kernel
theorem dL_isGone_23 : decode cL_isGone 23 = .ok (.ireturn, 1) := by decide +kernel
theorem dL_isGone_24 : decode cL_isGone 24 = .ok (.iconst 0, 1) := by decide +kernel
theorem dL_isGone_25 : decode cL_isGone 25 = .ok (.ireturn, 1) := by decide +kernel
theorem dL_minutes_0 : decode cL_minutes 0 = .ok (.aload 4, 2) := by decide +kernel
theorem dL_minutes_2 : decode cL_minutes 2 = .ok (.iconst 0, 1) := by decide +kernel
theorem dL_minutes_3 : decode cL_minutes 3 = .ok (.aload_n 0, 1) := by decide +kernel
theorem dL_minutes_4 : decode cL_minutes 4 = .ok (.iload_n 1, 1) := by decide +kernel
theorem dL_minutes_5 : decode cL_minutes 5 = .ok (.iload_n 2, 1) := by decide +kernel
theorem dL_minutes_6 : decode cL_minutes 6 = .ok (.iload_n 3, 1) := by decide +kernel
theorem dL_minutes_7 : decode cL_minutes 7 = .ok (.invokevirtual 31, 3) := by decide +kernel
theorem dL_minutes_10 : decode cL_minutes 10 = .ok (.i2l, 1) := by decide +kernel
theorem dL_minutes_11 : decode cL_minutes 11 = .ok (.lastore, 1) := by decide +kernel
theorem dL_minutes_12 : decode cL_minutes 12 = .ok (.goto 11, 3) := by decide +kernel
theorem dL_minutes_15 : decode cL_minutes 15 = .ok (.astore 5, 2) := by decide +kernel
theorem dL_minutes_17 : decode cL_minutes 17 = .ok (.iconst 1, 1) := by decide +kernel
theorem dL_minutes_18 : decode cL_minutes 18 = .ok (.ireturn, 1) := by decide +kernel
theorem dL_minutes_19 : decode cL_minutes 19 = .ok (.astore 5, 2) := by decide +kernel
theorem dL_minutes_21 : decode cL_minutes 21 = .ok (.iconst 2, 1) := by decide +kernel
theorem dL_minutes_22 : decode cL_minutes 22 = .ok (.ireturn, 1) := by decide +kernel
theorem dL_minutes_23 : decode cL_minutes 23 = .ok (.iconst 0, 1) := by decide +kernel
theorem dL_minutes_24 : decode cL_minutes 24 = .ok (.ireturn, 1) := by decide +kernel
theorem dL_firstTrail_0 : decode cL_firstTrail 0 = .ok (.aload_n 3, 1) := by decide +kernel
theorem dL_firstTrail_1 : decode cL_firstTrail 1 = .ok (.iconst 0, 1) := by decide +kernel
theorem dL_firstTrail_2 : decode cL_firstTrail 2 = .ok (.aload_n 0, 1) := by decide +kernel
theorem dL_firstTrail_3 : decode cL_firstTrail 3 = .ok (.iload_n 1, 1) := by decide +kernel
theorem dL_firstTrail_4 : decode cL_firstTrail 4 = .ok (.iload_n 2, 1) := by decide +kernel
theorem dL_firstTrail_5 : decode cL_firstTrail 5 = .ok (.invokevirtual 37, 3) := by decide +kernel
theorem dL_firstTrail_8 : decode cL_firstTrail 8 = .ok (.i2l, 1) := by decide +kernel
theorem dL_firstTrail_9 : decode cL_firstTrail 9 = .ok (.lastore, 1) := by decide +kernel
theorem dL_firstTrail_10 : decode cL_firstTrail 10 = .ok (.goto 11, 3) := by decide +kernel
theorem dL_firstTrail_13 : decode cL_firstTrail 13 = .ok (.astore 4, 2) := by decide +kernel
theorem dL_firstTrail_15 : decode cL_firstTrail 15 = .ok (.iconst 1, 1) := by decide +kernel
theorem dL_firstTrail_16 : decode cL_firstTrail 16 = .ok (.ireturn, 1) := by decide +kernel
theorem dL_firstTrail_17 : decode cL_firstTrail 17 = .ok (.astore 4, 2) := by decide +kernel
theorem dL_firstTrail_19 : decode cL_firstTrail 19 = .ok (.iconst 2, 1) := by decide +kernel
theorem dL_firstTrail_20 : decode cL_firstTrail 20 = .ok (.ireturn, 1) := by decide +kernel
theorem dL_firstTrail_21 : decode cL_firstTrail 21 = .ok (.iconst 0, 1) := by decide +kernel
theorem dL_firstTrail_22 : decode cL_firstTrail 22 = .ok (.ireturn, 1) := by decide +kernel
theorem dL_addWood_0 : decode cL_addWood 0 = .ok (.aload_n 2, 1) := by decide +kernel
theorem dL_addWood_1 : decode cL_addWood 1 = .ok (.iconst 0, 1) := by decide +kernel
theorem dL_addWood_2 : decode cL_addWood 2 = .ok (.aload_n 0, 1) := by decide +kernel
theorem dL_addWood_3 : decode cL_addWood 3 = .ok (.iload_n 1, 1) := by decide +kernel
theorem dL_addWood_4 : decode cL_addWood 4 = .ok (.invokevirtual 41, 3) := by decide +kernel
theorem dL_addWood_7 : decode cL_addWood 7 = .ok (.i2l, 1) := by decide +kernel
theorem dL_addWood_8 : decode cL_addWood 8 = .ok (.lastore, 1) := by decide +kernel
theorem dL_addWood_9 : decode cL_addWood 9 = .ok (.goto 6, 3) := by decide +kernel
theorem dL_addWood_12 : decode cL_addWood 12 = .ok (.astore_n 3, 1) := by decide +kernel
theorem dL_addWood_13 : decode cL_addWood 13 = .ok (.iconst 1, 1) := by decide +kernel
theorem dL_addWood_14 : decode cL_addWood 14 = .ok (.ireturn, 1) := by decide +kernel
theorem dL_addWood_15 : decode cL_addWood 15 = .ok (.iconst 0, 1) := by decide +kernel
theorem dL_addWood_16 : decode cL_addWood 16 = .ok (.ireturn, 1) := by decide +kernel
theorem dL_cut_0 : decode cL_cut 0 = .ok (.aload_n 3, 1) := by decide +kernel
theorem dL_cut_1 : decode cL_cut 1 = .ok (.iconst 0, 1) := by decide +kernel
theorem dL_cut_2 : decode cL_cut 2 = .ok (.aload_n 0, 1) := by decide +kernel
theorem dL_cut_3 : decode cL_cut 3 = .ok (.iload_n 1, 1) := by decide +kernel
theorem dL_cut_4 : decode cL_cut 4 = .ok (.iload_n 2, 1) := by decide +kernel
theorem dL_cut_5 : decode cL_cut 5 = .ok (.invokevirtual 45, 3) := by decide +kernel
theorem dL_cut_8 : decode cL_cut 8 = .ok (.i2l, 1) := by decide +kernel
theorem dL_cut_9 : decode cL_cut 9 = .ok (.lastore, 1) := by decide +kernel
theorem dL_cut_10 : decode cL_cut 10 = .ok (.goto 23, 3) := by decide +kernel
theorem dL_cut_13 : decode cL_cut 13 = .ok (.astore 4, 2) := by decide +kernel
theorem dL_cut_15 : decode cL_cut 15 = .ok (.iconst 1, 1) := by decide +kernel
theorem dL_cut_16 : decode cL_cut 16 = .ok (.ireturn, 1) := by decide +kernel
theorem dL_cut_17 : decode cL_cut 17 = .ok (.astore 4, 2) := by decide +kernel
theorem dL_cut_19 : decode cL_cut 19 = .ok (.iconst 2, 1) := by decide +kernel
theorem dL_cut_20 : decode cL_cut 20 = .ok (.ireturn, 1) := by decide +kernel
theorem dL_cut_21 : decode cL_cut 21 = .ok (.astore 4, 2) := by decide +kernel
theorem dL_cut_23 : decode cL_cut 23 = .ok (.iconst 3, 1) := by decide +kernel
theorem dL_cut_24 : decode cL_cut 24 = .ok (.ireturn, 1) := by decide +kernel
theorem dL_cut_25 : decode cL_cut 25 = .ok (.astore 4, 2) := by decide +kernel
theorem dL_cut_27 : decode cL_cut 27 = .ok (.iconst 4, 1) := by decide +kernel
theorem dL_cut_28 : decode cL_cut 28 = .ok (.ireturn, 1) := by decide +kernel
theorem dL_cut_29 : decode cL_cut 29 = .ok (.astore 4, 2) := by decide +kernel
theorem dL_cut_31 : decode cL_cut 31 = .ok (.iconst 5, 1) := by decide +kernel
theorem dL_cut_32 : decode cL_cut 32 = .ok (.ireturn, 1) := by decide +kernel
theorem dL_cut_33 : decode cL_cut 33 = .ok (.iconst 0, 1) := by decide +kernel
theorem dL_cut_34 : decode cL_cut 34 = .ok (.ireturn, 1) := by decide +kernel
theorem dL_trailOf_0 : decode cL_trailOf 0 = .ok (.aload_n 2, 1) := by decide +kernel
theorem dL_trailOf_1 : decode cL_trailOf 1 = .ok (.iconst 0, 1) := by decide +kernel
theorem dL_trailOf_2 : decode cL_trailOf 2 = .ok (.aload_n 0, 1) := by decide +kernel
theorem dL_trailOf_3 : decode cL_trailOf 3 = .ok (.iload_n 1, 1) := by decide +kernel
theorem dL_trailOf_4 : decode cL_trailOf 4 = .ok (.invokevirtual 50, 3) := by decide +kernel
theorem dL_trailOf_7 : decode cL_trailOf 7 = .ok (.i2l, 1) := by decide +kernel
theorem dL_trailOf_8 : decode cL_trailOf 8 = .ok (.lastore, 1) := by decide +kernel
theorem dL_trailOf_9 : decode cL_trailOf 9 = .ok (.goto 6, 3) := by decide +kernel
theorem dL_trailOf_12 : decode cL_trailOf 12 = .ok (.astore_n 3, 1) := by decide +kernel
theorem dL_trailOf_13 : decode cL_trailOf 13 = .ok (.iconst 1, 1) := by decide +kernel
theorem dL_trailOf_14 : decode cL_trailOf 14 = .ok (.ireturn, 1) := by decide +kernel
theorem dL_trailOf_15 : decode cL_trailOf 15 = .ok (.iconst 0, 1) := by decide +kernel
theorem dL_trailOf_16 : decode cL_trailOf 16 = .ok (.ireturn, 1) := by decide +kernel
theorem dL_told_0 : decode cL_told 0 = .ok (.aload_n 2, 1) := by decide +kernel
theorem dL_told_1 : decode cL_told 1 = .ok (.iconst 0, 1) := by decide +kernel
theorem dL_told_2 : decode cL_told 2 = .ok (.aload_n 0, 1) := by decide +kernel
theorem dL_told_3 : decode cL_told 3 = .ok (.iload_n 1, 1) := by decide +kernel
theorem dL_told_4 : decode cL_told 4 = .ok (.invokevirtual 53, 3) := by decide +kernel
theorem dL_told_7 : decode cL_told 7 = .ok (.i2l, 1) := by decide +kernel
theorem dL_told_8 : decode cL_told 8 = .ok (.lastore, 1) := by decide +kernel
theorem dL_told_9 : decode cL_told 9 = .ok (.goto 6, 3) := by decide +kernel
theorem dL_told_12 : decode cL_told 12 = .ok (.astore_n 3, 1) := by decide +kernel
theorem dL_told_13 : decode cL_told 13 = .ok (.iconst 1, 1) := by decide +kernel
theorem dL_told_14 : decode cL_told 14 = .ok (.ireturn, 1) := by decide +kernel
theorem dL_told_15 : decode cL_told 15 = .ok (.iconst 0, 1) := by decide +kernel
theorem dL_told_16 : decode cL_told 16 = .ok (.ireturn, 1) := by decide +kernel
theorem dL_isCovered_0 : decode cL_isCovered 0 = .ok (.aload_n 2, 1) := by decide +kernel
theorem dL_isCovered_1 : decode cL_isCovered 1 = .ok (.iconst 0, 1) := by decide +kernel
theorem dL_isCovered_2 : decode cL_isCovered 2 = .ok (.aload_n 0, 1) := by decide +kernel
theorem dL_isCovered_3 : decode cL_isCovered 3 = .ok (.iload_n 1, 1) := by decide +kernel
theorem dL_isCovered_4 : decode cL_isCovered 4 = .ok (.invokevirtual 56, 3) := by decide +kernel
theorem dL_isCovered_7 : decode cL_isCovered 7 = .ok (.ifCond .eq 7, 3) := by decide +kernel
theorem dL_isCovered_10 : decode cL_isCovered 10 = .ok (.lconst 1, 1) := by decide +kernel
theorem dL_isCovered_11 : decode cL_isCovered 11 = .ok (.goto 4, 3) := by decide +kernel
theorem dL_isCovered_14 : decode cL_isCovered 14 = .ok (.lconst 0, 1) := by decide +kernel
theorem dL_isCovered_15 : decode cL_isCovered 15 = .ok (.lastore, 1) := by decide +kernel
theorem dL_isCovered_16 : decode cL_isCovered 16 = .ok (.goto 6, 3) := by decide +kernel
theorem dL_isCovered_19 : decode cL_isCovered 19 = .ok (.astore_n 3, 1) := by decide +kernel
theorem dL_isCovered_20 : decode cL_isCovered 20 = .ok (.iconst 1, 1) := by decide +kernel
theorem dL_isCovered_21 : decode cL_isCovered 21 = .ok (.ireturn, 1) := by decide +kernel
theorem dL_isCovered_22 : decode cL_isCovered 22 = .ok (.iconst 0, 1) := by decide +kernel
theorem dL_isCovered_23 : decode cL_isCovered 23 = .ok (.ireturn, 1) := by decide +kernel
theorem dL_danger_0 : decode cL_danger 0 = .ok (.aload_n 3, 1) := by decide +kernel
theorem dL_danger_1 : decode cL_danger 1 = .ok (.iconst 0, 1) := by decide +kernel
theorem dL_danger_2 : decode cL_danger 2 = .ok (.aload_n 0, 1) := by decide +kernel
theorem dL_danger_3 : decode cL_danger 3 = .ok (.iload_n 1, 1) := by decide +kernel
theorem dL_danger_4 : decode cL_danger 4 = .ok (.iload_n 2, 1) := by decide +kernel
theorem dL_danger_5 : decode cL_danger 5 = .ok (.invokevirtual 59, 3) := by decide +kernel
theorem dL_danger_8 : decode cL_danger 8 = .ok (.i2l, 1) := by decide +kernel
theorem dL_danger_9 : decode cL_danger 9 = .ok (.lastore, 1) := by decide +kernel
theorem dL_danger_10 : decode cL_danger 10 = .ok (.goto 7, 3) := by decide +kernel
theorem dL_danger_13 : decode cL_danger 13 = .ok (.astore 4, 2) := by decide +kernel
theorem dL_danger_15 : decode cL_danger 15 = .ok (.iconst 1, 1) := by decide +kernel
theorem dL_danger_16 : decode cL_danger 16 = .ok (.ireturn, 1) := by decide +kernel
theorem dL_danger_17 : decode cL_danger 17 = .ok (.iconst 0, 1) := by decide +kernel
theorem dL_danger_18 : decode cL_danger 18 = .ok (.ireturn, 1) := by decide +kernel
theorem dL_report_0 : decode cL_report 0 = .ok (.aload 4, 2) := by decide +kernel
theorem dL_report_2 : decode cL_report 2 = .ok (.iconst 0, 1) := by decide +kernel
theorem dL_report_3 : decode cL_report 3 = .ok (.aload_n 0, 1) := by decide +kernel
theorem dL_report_4 : decode cL_report 4 = .ok (.iload_n 1, 1) := by decide +kernel
theorem dL_report_5 : decode cL_report 5 = .ok (.iload_n 2, 1) := by decide +kernel
theorem dL_report_6 : decode cL_report 6 = .ok (.iload_n 3, 1) := by decide +kernel
theorem dL_report_7 : decode cL_report 7 = .ok (.invokevirtual 63, 3) := by decide +kernel
theorem dL_report_10 : decode cL_report 10 = .ok (.ifCond .eq 7, 3) := by decide +kernel
theorem dL_report_13 : decode cL_report 13 = .ok (.lconst 1, 1) := by decide +kernel
theorem dL_report_14 : decode cL_report 14 = .ok (.goto 4, 3) := by decide +kernel
theorem dL_report_17 : decode cL_report 17 = .ok (.lconst 0, 1) := by decide +kernel
theorem dL_report_18 : decode cL_report 18 = .ok (.lastore, 1) := by decide +kernel
theorem dL_report_19 : decode cL_report 19 = .ok (.goto 11, 3) := by decide +kernel
theorem dL_report_22 : decode cL_report 22 = .ok (.astore 5, 2) := by decide +kernel
theorem dL_report_24 : decode cL_report 24 = .ok (.iconst 1, 1) := by decide +kernel
theorem dL_report_25 : decode cL_report 25 = .ok (.ireturn, 1) := by decide +kernel
theorem dL_report_26 : decode cL_report 26 = .ok (.astore 5, 2) := by decide +kernel
theorem dL_report_28 : decode cL_report 28 = .ok (.iconst 2, 1) := by decide +kernel
theorem dL_report_29 : decode cL_report 29 = .ok (.ireturn, 1) := by decide +kernel
theorem dL_report_30 : decode cL_report 30 = .ok (.iconst 0, 1) := by decide +kernel
theorem dL_report_31 : decode cL_report 31 = .ok (.ireturn, 1) := by decide +kernel
theorem dL_trust_0 : decode cL_trust 0 = .ok (.aload_n 2, 1) := by decide +kernel
theorem dL_trust_1 : decode cL_trust 1 = .ok (.iconst 0, 1) := by decide +kernel
theorem dL_trust_2 : decode cL_trust 2 = .ok (.aload_n 0, 1) := by decide +kernel
theorem dL_trust_3 : decode cL_trust 3 = .ok (.iload_n 1, 1) := by decide +kernel
theorem dL_trust_4 : decode cL_trust 4 = .ok (.invokevirtual 67, 3) := by decide +kernel
theorem dL_trust_7 : decode cL_trust 7 = .ok (.i2l, 1) := by decide +kernel
theorem dL_trust_8 : decode cL_trust 8 = .ok (.lastore, 1) := by decide +kernel
theorem dL_trust_9 : decode cL_trust 9 = .ok (.goto 6, 3) := by decide +kernel
theorem dL_trust_12 : decode cL_trust 12 = .ok (.astore_n 3, 1) := by decide +kernel
theorem dL_trust_13 : decode cL_trust 13 = .ok (.iconst 1, 1) := by decide +kernel
theorem dL_trust_14 : decode cL_trust 14 = .ok (.ireturn, 1) := by decide +kernel
theorem dL_trust_15 : decode cL_trust 15 = .ok (.iconst 0, 1) := by decide +kernel
theorem dL_trust_16 : decode cL_trust 16 = .ok (.ireturn, 1) := by decide +kernel
theorem dL_reports_0 : decode cL_reports 0 = .ok (.aload_n 2, 1) := by decide +kernel
theorem dL_reports_1 : decode cL_reports 1 = .ok (.iconst 0, 1) := by decide +kernel
theorem dL_reports_2 : decode cL_reports 2 = .ok (.aload_n 0, 1) := by decide +kernel
theorem dL_reports_3 : decode cL_reports 3 = .ok (.iload_n 1, 1) := by decide +kernel
theorem dL_reports_4 : decode cL_reports 4 = .ok (.invokevirtual 70, 3) := by decide +kernel
theorem dL_reports_7 : decode cL_reports 7 = .ok (.i2l, 1) := by decide +kernel
theorem dL_reports_8 : decode cL_reports 8 = .ok (.lastore, 1) := by decide +kernel
theorem dL_reports_9 : decode cL_reports 9 = .ok (.goto 6, 3) := by decide +kernel
theorem dL_reports_12 : decode cL_reports 12 = .ok (.astore_n 3, 1) := by decide +kernel
theorem dL_reports_13 : decode cL_reports 13 = .ok (.iconst 1, 1) := by decide +kernel
theorem dL_reports_14 : decode cL_reports 14 = .ok (.ireturn, 1) := by decide +kernel
theorem dL_reports_15 : decode cL_reports 15 = .ok (.iconst 0, 1) := by decide +kernel
theorem dL_reports_16 : decode cL_reports 16 = .ok (.ireturn, 1) := by decide +kernel
theorem dL_addTask_0 : decode cL_addTask 0 = .ok (.aload 4, 2) := by decide +kernel
theorem dL_addTask_2 : decode cL_addTask 2 = .ok (.iconst 0, 1) := by decide +kernel
theorem dL_addTask_3 : decode cL_addTask 3 = .ok (.aload_n 0, 1) := by decide +kernel
theorem dL_addTask_4 : decode cL_addTask 4 = .ok (.iload_n 1, 1) := by decide +kernel
theorem dL_addTask_5 : decode cL_addTask 5 = .ok (.iload_n 2, 1) := by decide +kernel
theorem dL_addTask_6 : decode cL_addTask 6 = .ok (.iload_n 3, 1) := by decide +kernel
theorem dL_addTask_7 : decode cL_addTask 7 = .ok (.invokevirtual 73, 3) := by decide +kernel
theorem dL_addTask_10 : decode cL_addTask 10 = .ok (.i2l, 1) := by decide +kernel
theorem dL_addTask_11 : decode cL_addTask 11 = .ok (.lastore, 1) := by decide +kernel
theorem dL_addTask_12 : decode cL_addTask 12 = .ok (.goto 15, 3) := by decide +kernel
theorem dL_addTask_15 : decode cL_addTask 15 = .ok (.astore 5, 2) := by decide +kernel
theorem dL_addTask_17 : decode cL_addTask 17 = .ok (.iconst 1, 1) := by decide +kernel
theorem dL_addTask_18 : decode cL_addTask 18 = .ok (.ireturn, 1) := by decide +kernel
theorem dL_addTask_19 : decode cL_addTask 19 = .ok (.astore 5, 2) := by decide +kernel
theorem dL_addTask_21 : decode cL_addTask 21 = .ok (.iconst 2, 1) := by decide +kernel
theorem dL_addTask_22 : decode cL_addTask 22 = .ok (.ireturn, 1) := by decide +kernel
theorem dL_addTask_23 : decode cL_addTask 23 = .ok (.astore 5, 2) := by decide +kernel
theorem dL_addTask_25 : decode cL_addTask 25 = .ok (.iconst 3, 1) := by decide +kernel
theorem dL_addTask_26 : decode cL_addTask 26 = .ok (.ireturn, 1) := by decide +kernel
theorem dL_addTask_27 : decode cL_addTask 27 = .ok (.iconst 0, 1) := by decide +kernel
theorem dL_addTask_28 : decode cL_addTask 28 = .ok (.ireturn, 1) := by decide +kernel
theorem dL_kindOf_0 : decode cL_kindOf 0 = .ok (.aload_n 2, 1) := by decide +kernel
theorem dL_kindOf_1 : decode cL_kindOf 1 = .ok (.iconst 0, 1) := by decide +kernel
theorem dL_kindOf_2 : decode cL_kindOf 2 = .ok (.aload_n 0, 1) := by decide +kernel
theorem dL_kindOf_3 : decode cL_kindOf 3 = .ok (.iload_n 1, 1) := by decide +kernel
theorem dL_kindOf_4 : decode cL_kindOf 4 = .ok (.invokevirtual 77, 3) := by decide +kernel
theorem dL_kindOf_7 : decode cL_kindOf 7 = .ok (.i2l, 1) := by decide +kernel
theorem dL_kindOf_8 : decode cL_kindOf 8 = .ok (.lastore, 1) := by decide +kernel
theorem dL_kindOf_9 : decode cL_kindOf 9 = .ok (.goto 6, 3) := by decide +kernel
theorem dL_kindOf_12 : decode cL_kindOf 12 = .ok (.astore_n 3, 1) := by decide +kernel
theorem dL_kindOf_13 : decode cL_kindOf 13 = .ok (.iconst 1, 1) := by decide +kernel
theorem dL_kindOf_14 : decode cL_kindOf 14 = .ok (.ireturn, 1) := by decide +kernel
theorem dL_kindOf_15 : decode cL_kindOf 15 = .ok (.iconst 0, 1) := by decide +kernel
theorem dL_kindOf_16 : decode cL_kindOf 16 = .ok (.ireturn, 1) := by decide +kernel
theorem dL_numberOf_0 : decode cL_numberOf 0 = .ok (.aload_n 2, 1) := by decide +kernel
theorem dL_numberOf_1 : decode cL_numberOf 1 = .ok (.iconst 0, 1) := by decide +kernel
theorem dL_numberOf_2 : decode cL_numberOf 2 = .ok (.aload_n 0, 1) := by decide +kernel
theorem dL_numberOf_3 : decode cL_numberOf 3 = .ok (.iload_n 1, 1) := by decide +kernel
theorem dL_numberOf_4 : decode cL_numberOf 4 = .ok (.invokevirtual 81, 3) := by decide +kernel
theorem dL_numberOf_7 : decode cL_numberOf 7 = .ok (.i2l, 1) := by decide +kernel
theorem dL_numberOf_8 : decode cL_numberOf 8 = .ok (.lastore, 1) := by decide +kernel
theorem dL_numberOf_9 : decode cL_numberOf 9 = .ok (.goto 6, 3) := by decide +kernel
theorem dL_numberOf_12 : decode cL_numberOf 12 = .ok (.astore_n 3, 1) := by decide +kernel
theorem dL_numberOf_13 : decode cL_numberOf 13 = .ok (.iconst 1, 1) := by decide +kernel
theorem dL_numberOf_14 : decode cL_numberOf 14 = .ok (.ireturn, 1) := by decide +kernel
theorem dL_numberOf_15 : decode cL_numberOf 15 = .ok (.iconst 0, 1) := by decide +kernel
theorem dL_numberOf_16 : decode cL_numberOf 16 = .ok (.ireturn, 1) := by decide +kernel
theorem dL_doneBy_0 : decode cL_doneBy 0 = .ok (.aload_n 2, 1) := by decide +kernel
theorem dL_doneBy_1 : decode cL_doneBy 1 = .ok (.iconst 0, 1) := by decide +kernel
theorem dL_doneBy_2 : decode cL_doneBy 2 = .ok (.aload_n 0, 1) := by decide +kernel
theorem dL_doneBy_3 : decode cL_doneBy 3 = .ok (.iload_n 1, 1) := by decide +kernel
theorem dL_doneBy_4 : decode cL_doneBy 4 = .ok (.invokevirtual 84, 3) := by decide +kernel
theorem dL_doneBy_7 : decode cL_doneBy 7 = .ok (.i2l, 1) := by decide +kernel
theorem dL_doneBy_8 : decode cL_doneBy 8 = .ok (.lastore, 1) := by decide +kernel
theorem dL_doneBy_9 : decode cL_doneBy 9 = .ok (.goto 9, 3) := by decide +kernel
theorem dL_doneBy_12 : decode cL_doneBy 12 = .ok (.astore_n 3, 1) := by decide +kernel
theorem dL_doneBy_13 : decode cL_doneBy 13 = .ok (.iconst 1, 1) := by decide +kernel
theorem dL_doneBy_14 : decode cL_doneBy 14 = .ok (.ireturn, 1) := by decide +kernel
theorem dL_doneBy_15 : decode cL_doneBy 15 = .ok (.astore_n 3, 1) := by decide +kernel
theorem dL_doneBy_16 : decode cL_doneBy 16 = .ok (.iconst 2, 1) := by decide +kernel
theorem dL_doneBy_17 : decode cL_doneBy 17 = .ok (.ireturn, 1) := by decide +kernel
theorem dL_doneBy_18 : decode cL_doneBy 18 = .ok (.iconst 0, 1) := by decide +kernel
theorem dL_doneBy_19 : decode cL_doneBy 19 = .ok (.ireturn, 1) := by decide +kernel
theorem dL_addRanger_0 : decode cL_addRanger 0 = .ok (.aload_n 3, 1) := by decide +kernel
theorem dL_addRanger_1 : decode cL_addRanger 1 = .ok (.iconst 0, 1) := by decide +kernel
theorem dL_addRanger_2 : decode cL_addRanger 2 = .ok (.aload_n 0, 1) := by decide +kernel
theorem dL_addRanger_3 : decode cL_addRanger 3 = .ok (.iload_n 1, 1) := by decide +kernel
theorem dL_addRanger_4 : decode cL_addRanger 4 = .ok (.iload_n 2, 1) := by decide +kernel
theorem dL_addRanger_5 : decode cL_addRanger 5 = .ok (.invokevirtual 87, 3) := by decide +kernel
theorem dL_addRanger_8 : decode cL_addRanger 8 = .ok (.i2l, 1) := by decide +kernel
theorem dL_addRanger_9 : decode cL_addRanger 9 = .ok (.lastore, 1) := by decide +kernel
theorem dL_addRanger_10 : decode cL_addRanger 10 = .ok (.goto 15, 3) := by decide +kernel
theorem dL_addRanger_13 : decode cL_addRanger 13 = .ok (.astore 4, 2) := by decide +kernel
theorem dL_addRanger_15 : decode cL_addRanger 15 = .ok (.iconst 1, 1) := by decide +kernel
theorem dL_addRanger_16 : decode cL_addRanger 16 = .ok (.ireturn, 1) := by decide +kernel
theorem dL_addRanger_17 : decode cL_addRanger 17 = .ok (.astore 4, 2) := by decide +kernel
theorem dL_addRanger_19 : decode cL_addRanger 19 = .ok (.iconst 2, 1) := by decide +kernel
theorem dL_addRanger_20 : decode cL_addRanger 20 = .ok (.ireturn, 1) := by decide +kernel
theorem dL_addRanger_21 : decode cL_addRanger 21 = .ok (.astore 4, 2) := by decide +kernel
theorem dL_addRanger_23 : decode cL_addRanger 23 = .ok (.iconst 3, 1) := by decide +kernel
theorem dL_addRanger_24 : decode cL_addRanger 24 = .ok (.ireturn, 1) := by decide +kernel
theorem dL_addRanger_25 : decode cL_addRanger 25 = .ok (.iconst 0, 1) := by decide +kernel
theorem dL_addRanger_26 : decode cL_addRanger 26 = .ok (.ireturn, 1) := by decide +kernel
theorem dL_forkOf_0 : decode cL_forkOf 0 = .ok (.aload_n 2, 1) := by decide +kernel
theorem dL_forkOf_1 : decode cL_forkOf 1 = .ok (.iconst 0, 1) := by decide +kernel
theorem dL_forkOf_2 : decode cL_forkOf 2 = .ok (.aload_n 0, 1) := by decide +kernel
theorem dL_forkOf_3 : decode cL_forkOf 3 = .ok (.iload_n 1, 1) := by decide +kernel
theorem dL_forkOf_4 : decode cL_forkOf 4 = .ok (.invokevirtual 90, 3) := by decide +kernel
theorem dL_forkOf_7 : decode cL_forkOf 7 = .ok (.i2l, 1) := by decide +kernel
theorem dL_forkOf_8 : decode cL_forkOf 8 = .ok (.lastore, 1) := by decide +kernel
theorem dL_forkOf_9 : decode cL_forkOf 9 = .ok (.goto 6, 3) := by decide +kernel
theorem dL_forkOf_12 : decode cL_forkOf 12 = .ok (.astore_n 3, 1) := by decide +kernel
theorem dL_forkOf_13 : decode cL_forkOf 13 = .ok (.iconst 1, 1) := by decide +kernel
theorem dL_forkOf_14 : decode cL_forkOf 14 = .ok (.ireturn, 1) := by decide +kernel
theorem dL_forkOf_15 : decode cL_forkOf 15 = .ok (.iconst 0, 1) := by decide +kernel
theorem dL_forkOf_16 : decode cL_forkOf 16 = .ok (.ireturn, 1) := by decide +kernel
theorem dL_worked_0 : decode cL_worked 0 = .ok (.aload_n 2, 1) := by decide +kernel
theorem dL_worked_1 : decode cL_worked 1 = .ok (.iconst 0, 1) := by decide +kernel
theorem dL_worked_2 : decode cL_worked 2 = .ok (.aload_n 0, 1) := by decide +kernel
theorem dL_worked_3 : decode cL_worked 3 = .ok (.iload_n 1, 1) := by decide +kernel
theorem dL_worked_4 : decode cL_worked 4 = .ok (.invokevirtual 93, 3) := by decide +kernel
theorem dL_worked_7 : decode cL_worked 7 = .ok (.i2l, 1) := by decide +kernel
theorem dL_worked_8 : decode cL_worked 8 = .ok (.lastore, 1) := by decide +kernel
theorem dL_worked_9 : decode cL_worked 9 = .ok (.goto 6, 3) := by decide +kernel
theorem dL_worked_12 : decode cL_worked 12 = .ok (.astore_n 3, 1) := by decide +kernel
theorem dL_worked_13 : decode cL_worked 13 = .ok (.iconst 1, 1) := by decide +kernel
theorem dL_worked_14 : decode cL_worked 14 = .ok (.ireturn, 1) := by decide +kernel
theorem dL_worked_15 : decode cL_worked 15 = .ok (.iconst 0, 1) := by decide +kernel
theorem dL_worked_16 : decode cL_worked 16 = .ok (.ireturn, 1) := by decide +kernel
theorem dL_day_0 : decode cL_day 0 = .ok (.aload_n 1, 1) := by decide +kernel
theorem dL_day_1 : decode cL_day 1 = .ok (.iconst 0, 1) := by decide +kernel
theorem dL_day_2 : decode cL_day 2 = .ok (.aload_n 0, 1) := by decide +kernel
theorem dL_day_3 : decode cL_day 3 = .ok (.invokevirtual 96, 3) := by decide +kernel
theorem dL_day_6 : decode cL_day 6 = .ok (.i2l, 1) := by decide +kernel
theorem dL_day_7 : decode cL_day 7 = .ok (.lastore, 1) := by decide +kernel
theorem dL_day_8 : decode cL_day 8 = .ok (.goto 6, 3) := by decide +kernel
theorem dL_day_11 : decode cL_day 11 = .ok (.astore_n 2, 1) := by decide +kernel
theorem dL_day_12 : decode cL_day 12 = .ok (.iconst 1, 1) := by decide +kernel
theorem dL_day_13 : decode cL_day 13 = .ok (.ireturn, 1) := by decide +kernel
theorem dL_day_14 : decode cL_day 14 = .ok (.iconst 0, 1) := by decide +kernel
theorem dL_day_15 : decode cL_day 15 = .ok (.ireturn, 1) := by decide +kernel
theorem dL_print_0 : decode cL_print 0 = .ok (.aload_n 1, 1) := by decide +kernel
theorem dL_print_1 : decode cL_print 1 = .ok (.iconst 0, 1) := by decide +kernel
theorem dL_print_2 : decode cL_print 2 = .ok (.aload_n 0, 1) := by decide +kernel
theorem dL_print_3 : decode cL_print 3 = .ok (.invokevirtual 100, 3) := by decide +kernel
theorem dL_print_6 : decode cL_print 6 = .ok (.i2l, 1) := by decide +kernel
theorem dL_print_7 : decode cL_print 7 = .ok (.lastore, 1) := by decide +kernel
theorem dL_print_8 : decode cL_print 8 = .ok (.goto 6, 3) := by decide +kernel
theorem dL_print_11 : decode cL_print 11 = .ok (.astore_n 2, 1) := by decide +kernel
theorem dL_print_12 : decode cL_print 12 = .ok (.iconst 1, 1) := by decide +kernel
theorem dL_print_13 : decode cL_print 13 = .ok (.ireturn, 1) := by decide +kernel
theorem dL_print_14 : decode cL_print 14 = .ok (.iconst 0, 1) := by decide +kernel
theorem dL_print_15 : decode cL_print 15 = .ok (.ireturn, 1) := by decide +kernel
theorem dL_shows_0 : decode cL_shows 0 = .ok (.aload_n 3, 1) := by decide +kernel
theorem dL_shows_1 : decode cL_shows 1 = .ok (.iconst 0, 1) := by decide +kernel
theorem dL_shows_2 : decode cL_shows 2 = .ok (.aload_n 0, 1) := by decide +kernel
theorem dL_shows_3 : decode cL_shows 3 = .ok (.iload_n 1, 1) := by decide +kernel
theorem dL_shows_4 : decode cL_shows 4 = .ok (.iload_n 2, 1) := by decide +kernel
theorem dL_shows_5 : decode cL_shows 5 = .ok (.invokevirtual 103, 3) := by decide +kernel
theorem dL_shows_8 : decode cL_shows 8 = .ok (.ifCond .eq 7, 3) := by decide +kernel
theorem dL_shows_11 : decode cL_shows 11 = .ok (.lconst 1, 1) := by decide +kernel
theorem dL_shows_12 : decode cL_shows 12 = .ok (.goto 4, 3) := by decide +kernel
theorem dL_shows_15 : decode cL_shows 15 = .ok (.lconst 0, 1) := by decide +kernel
theorem dL_shows_16 : decode cL_shows 16 = .ok (.lastore, 1) := by decide +kernel
theorem dL_shows_17 : decode cL_shows 17 = .ok (.goto 7, 3) := by decide +kernel
theorem dL_shows_20 : decode cL_shows 20 = .ok (.astore 4, 2) := by decide +kernel
theorem dL_shows_22 : decode cL_shows 22 = .ok (.iconst 1, 1) := by decide +kernel
theorem dL_shows_23 : decode cL_shows 23 = .ok (.ireturn, 1) := by decide +kernel
theorem dL_shows_24 : decode cL_shows 24 = .ok (.iconst 0, 1) := by decide +kernel
theorem dL_shows_25 : decode cL_shows 25 = .ok (.ireturn, 1) := by decide +kernel
theorem dL_age_0 : decode cL_age 0 = .ok (.aload_n 2, 1) := by decide +kernel
theorem dL_age_1 : decode cL_age 1 = .ok (.iconst 0, 1) := by decide +kernel
theorem dL_age_2 : decode cL_age 2 = .ok (.aload_n 0, 1) := by decide +kernel
theorem dL_age_3 : decode cL_age 3 = .ok (.iload_n 1, 1) := by decide +kernel
theorem dL_age_4 : decode cL_age 4 = .ok (.invokevirtual 107, 3) := by decide +kernel
theorem dL_age_7 : decode cL_age 7 = .ok (.i2l, 1) := by decide +kernel
theorem dL_age_8 : decode cL_age 8 = .ok (.lastore, 1) := by decide +kernel
theorem dL_age_9 : decode cL_age 9 = .ok (.goto 6, 3) := by decide +kernel
theorem dL_age_12 : decode cL_age 12 = .ok (.astore_n 3, 1) := by decide +kernel
theorem dL_age_13 : decode cL_age 13 = .ok (.iconst 1, 1) := by decide +kernel
theorem dL_age_14 : decode cL_age 14 = .ok (.ireturn, 1) := by decide +kernel
theorem dL_age_15 : decode cL_age 15 = .ok (.iconst 0, 1) := by decide +kernel
theorem dL_age_16 : decode cL_age 16 = .ok (.ireturn, 1) := by decide +kernel
theorem dL_knownShare_0 : decode cL_knownShare 0 = .ok (.aload_n 1, 1) := by decide +kernel
theorem dL_knownShare_1 : decode cL_knownShare 1 = .ok (.iconst 0, 1) := by decide +kernel
theorem dL_knownShare_2 : decode cL_knownShare 2 = .ok (.aload_n 0, 1) := by decide +kernel
theorem dL_knownShare_3 : decode cL_knownShare 3 = .ok (.invokevirtual 110, 3) := by decide +kernel
theorem dL_knownShare_6 : decode cL_knownShare 6 = .ok (.f2d, 1) := by decide +kernel
theorem dL_knownShare_7 : decode cL_knownShare 7 = .ok (.dastore, 1) := by decide +kernel
theorem dL_knownShare_8 : decode cL_knownShare 8 = .ok (.goto 6, 3) := by decide +kernel
theorem dL_knownShare_11 : decode cL_knownShare 11 = .ok (.astore_n 2, 1) := by decide +kernel
theorem dL_knownShare_12 : decode cL_knownShare 12 = .ok (.iconst 1, 1) := by decide +kernel
theorem dL_knownShare_13 : decode cL_knownShare 13 = .ok (.ireturn, 1) := by decide +kernel
theorem dL_knownShare_14 : decode cL_knownShare 14 = .ok (.iconst 0, 1) := by decide +kernel
theorem dL_knownShare_15 : decode cL_knownShare 15 = .ok (.ireturn, 1) := by decide +kernel
theorem dL_meanDanger_0 : decode cL_meanDanger 0 = .ok (.aload_n 1, 1) := by decide +kernel
theorem dL_meanDanger_1 : decode cL_meanDanger 1 = .ok (.iconst 0, 1) := by decide +kernel
theorem dL_meanDanger_2 : decode cL_meanDanger 2 = .ok (.aload_n 0, 1) := by decide +kernel
theorem dL_meanDanger_3 : decode cL_meanDanger 3 = .ok (.invokevirtual 116, 3) := by decide +kernel
theorem dL_meanDanger_6 : decode cL_meanDanger 6 = .ok (.dastore, 1) := by decide +kernel
theorem dL_meanDanger_7 : decode cL_meanDanger 7 = .ok (.goto 6, 3) := by decide +kernel
theorem dL_meanDanger_10 : decode cL_meanDanger 10 = .ok (.astore_n 2, 1) := by decide +kernel
theorem dL_meanDanger_11 : decode cL_meanDanger 11 = .ok (.iconst 1, 1) := by decide +kernel
theorem dL_meanDanger_12 : decode cL_meanDanger 12 = .ok (.ireturn, 1) := by decide +kernel
theorem dL_meanDanger_13 : decode cL_meanDanger 13 = .ok (.iconst 0, 1) := by decide +kernel
theorem dL_meanDanger_14 : decode cL_meanDanger 14 = .ok (.ireturn, 1) := by decide +kernel
theorem dL_law_0 : decode cL_law 0 = .ok (.new 8, 3) := by decide +kernel
theorem dL_law_3 : decode cL_law 3 = .ok (.dup, 1) := by decide +kernel
theorem dL_law_4 : decode cL_law 4 = .ok (.invokespecial 120, 3) := by decide +kernel
theorem dL_law_7 : decode cL_law 7 = .ok (.astore_n 1, 1) := by decide +kernel
theorem dL_law_8 : decode cL_law 8 = .ok (.new 121, 3) := by decide +kernel
theorem dL_law_11 : decode cL_law 11 = .ok (.dup, 1) := by decide +kernel
theorem dL_law_12 : decode cL_law 12 = .ok (.invokespecial 123, 3) := by decide +kernel
theorem dL_law_15 : decode cL_law 15 = .ok (.astore_n 2, 1) := by decide +kernel
theorem dL_law_16 : decode cL_law 16 = .ok (.iconst 1, 1) := by decide +kernel
theorem dL_law_17 : decode cL_law 17 = .ok (.newarray .long, 2) := by decide +kernel
theorem dL_law_19 : decode cL_law 19 = .ok (.astore_n 3, 1) := by decide +kernel
theorem dL_law_20 : decode cL_law 20 = .ok (.iconst 1, 1) := by decide +kernel
theorem dL_law_21 : decode cL_law 21 = .ok (.newarray .double, 2) := by decide +kernel
theorem dL_law_23 : decode cL_law 23 = .ok (.astore 4, 2) := by decide +kernel
theorem dL_law_25 : decode cL_law 25 = .ok (.iconst 0, 1) := by decide +kernel
theorem dL_law_26 : decode cL_law 26 = .ok (.istore 5, 2) := by decide +kernel
theorem dL_law_28 : decode cL_law 28 = .ok (.iload 5, 2) := by decide +kernel
theorem dL_law_30 : decode cL_law 30 = .ok (.aload_n 0, 1) := by decide +kernel
theorem dL_law_31 : decode cL_law 31 = .ok (.arraylength, 1) := by decide +kernel
theorem dL_law_32 : decode cL_law 32 = .ok (.iconst 5, 1) := by decide +kernel
theorem dL_law_33 : decode cL_law 33 = .ok (.isub, 1) := by decide +kernel
theorem dL_law_34 : decode cL_law 34 = .ok (.if_icmp .gt 2100, 3) := by decide +kernel
theorem dL_law_37 : decode cL_law 37 = .ok (.aload_n 0, 1) := by decide +kernel
theorem dL_law_38 : decode cL_law 38 = .ok (.iload 5, 2) := by decide +kernel
theorem dL_law_40 : decode cL_law 40 = .ok (.iaload, 1) := by decide +kernel
theorem dL_law_41 : decode cL_law 41 = .ok (.bipush 31, 2) := by decide +kernel
theorem dL_law_43 : decode cL_law 43 = .ok (.iand, 1) := by decide +kernel
theorem dL_law_44 : decode cL_law 44 = .ok (.tableswitch 2084 0 31 #[144, 216, 308, 371, 462, 558, 626, 682, 750, 806, 862, 925, 1009, 1050, 1153, 1209, 1265, 1347, 1360, 1416, 1472, 1528, 1541, 1609, 1665, 1721, 1765, 1809, 1884, 1940, 2006, 2071], 144) := by decide +kernel
theorem dL_law_188 : decode cL_law 188 = .ok (.aload_n 1, 1) := by decide +kernel
theorem dL_law_189 : decode cL_law 189 = .ok (.aload_n 0, 1) := by decide +kernel
theorem dL_law_190 : decode cL_law 190 = .ok (.iload 5, 2) := by decide +kernel
theorem dL_law_192 : decode cL_law 192 = .ok (.iconst 1, 1) := by decide +kernel
theorem dL_law_193 : decode cL_law 193 = .ok (.iadd, 1) := by decide +kernel
theorem dL_law_194 : decode cL_law 194 = .ok (.iaload, 1) := by decide +kernel
theorem dL_law_195 : decode cL_law 195 = .ok (.ifCond .eq 7, 3) := by decide +kernel
theorem dL_law_198 : decode cL_law 198 = .ok (.iconst 1, 1) := by decide +kernel
theorem dL_law_199 : decode cL_law 199 = .ok (.goto 4, 3) := by decide +kernel
theorem dL_law_202 : decode cL_law 202 = .ok (.iconst 0, 1) := by decide +kernel
theorem dL_law_203 : decode cL_law 203 = .ok (.aload_n 3, 1) := by decide +kernel
theorem dL_law_204 : decode cL_law 204 = .ok (.invokestatic 124, 3) := by decide +kernel
theorem dL_law_207 : decode cL_law 207 = .ok (.istore 6, 2) := by decide +kernel
theorem dL_law_209 : decode cL_law 209 = .ok (.aload_n 2, 1) := by decide +kernel
theorem dL_law_210 : decode cL_law 210 = .ok (.aload_n 0, 1) := by decide +kernel
theorem dL_law_211 : decode cL_law 211 = .ok (.iload 5, 2) := by decide +kernel
theorem dL_law_213 : decode cL_law 213 = .ok (.iconst 1, 1) := by decide +kernel
theorem dL_law_214 : decode cL_law 214 = .ok (.iadd, 1) := by decide +kernel
theorem dL_law_215 : decode cL_law 215 = .ok (.iaload, 1) := by decide +kernel
theorem dL_law_216 : decode cL_law 216 = .ok (.ifCond .eq 7, 3) := by decide +kernel
theorem dL_law_219 : decode cL_law 219 = .ok (.iconst 1, 1) := by decide +kernel
theorem dL_law_220 : decode cL_law 220 = .ok (.goto 4, 3) := by decide +kernel
theorem dL_law_223 : decode cL_law 223 = .ok (.iconst 0, 1) := by decide +kernel
theorem dL_law_224 : decode cL_law 224 = .ok (.invokevirtual 129, 3) := by decide +kernel
theorem dL_law_227 : decode cL_law 227 = .ok (.istore 7, 2) := by decide +kernel
theorem dL_law_229 : decode cL_law 229 = .ok (.aload_n 2, 1) := by decide +kernel
theorem dL_law_230 : decode cL_law 230 = .ok (.invokevirtual 130, 3) := by decide +kernel
theorem dL_law_233 : decode cL_law 233 = .ok (.iload 6, 2) := by decide +kernel
theorem dL_law_235 : decode cL_law 235 = .ok (.if_icmp .eq 5, 3) := by decide +kernel
theorem dL_law_238 : decode cL_law 238 = .ok (.iconst 0, 1) := by decide +kernel
theorem dL_law_239 : decode cL_law 239 = .ok (.ireturn, 1) := by decide +kernel
theorem dL_law_240 : decode cL_law 240 = .ok (.iload 6, 2) := by decide +kernel
theorem dL_law_242 : decode cL_law 242 = .ok (.ifCond .ne 15, 3) := by decide +kernel
theorem dL_law_245 : decode cL_law 245 = .ok (.aload_n 3, 1) := by decide +kernel
theorem dL_law_246 : decode cL_law 246 = .ok (.iconst 0, 1) := by decide +kernel
theorem dL_law_247 : decode cL_law 247 = .ok (.laload, 1) := by decide +kernel
theorem dL_law_248 : decode cL_law 248 = .ok (.iload 7, 2) := by decide +kernel
theorem dL_law_250 : decode cL_law 250 = .ok (.i2l, 1) := by decide +kernel
theorem dL_law_251 : decode cL_law 251 = .ok (.lcmp, 1) := by decide +kernel
theorem dL_law_252 : decode cL_law 252 = .ok (.ifCond .eq 5, 3) := by decide +kernel
theorem dL_law_255 : decode cL_law 255 = .ok (.iconst 0, 1) := by decide +kernel
theorem dL_law_256 : decode cL_law 256 = .ok (.ireturn, 1) := by decide +kernel
theorem dL_law_257 : decode cL_law 257 = .ok (.goto 1871, 3) := by decide +kernel
theorem dL_law_260 : decode cL_law 260 = .ok (.aload_n 1, 1) := by decide +kernel
theorem dL_law_261 : decode cL_law 261 = .ok (.aload_n 0, 1) := by decide +kernel
theorem dL_law_262 : decode cL_law 262 = .ok (.iload 5, 2) := by decide +kernel
theorem dL_law_264 : decode cL_law 264 = .ok (.iconst 1, 1) := by decide +kernel
theorem dL_law_265 : decode cL_law 265 = .ok (.iadd, 1) := by decide +kernel
theorem dL_law_266 : decode cL_law 266 = .ok (.iaload, 1) := by decide +kernel
theorem dL_law_267 : decode cL_law 267 = .ok (.aload_n 0, 1) := by decide +kernel
theorem dL_law_268 : decode cL_law 268 = .ok (.iload 5, 2) := by decide +kernel
theorem dL_law_270 : decode cL_law 270 = .ok (.iconst 2, 1) := by decide +kernel
theorem dL_law_271 : decode cL_law 271 = .ok (.iadd, 1) := by decide +kernel
theorem dL_law_272 : decode cL_law 272 = .ok (.iaload, 1) := by decide +kernel
theorem dL_law_273 : decode cL_law 273 = .ok (.aload_n 0, 1) := by decide +kernel
theorem dL_law_274 : decode cL_law 274 = .ok (.iload 5, 2) := by decide +kernel
theorem dL_law_276 : decode cL_law 276 = .ok (.iconst 3, 1) := by decide +kernel
theorem dL_law_277 : decode cL_law 277 = .ok (.iadd, 1) := by decide +kernel
theorem dL_law_278 : decode cL_law 278 = .ok (.iaload, 1) := by decide +kernel
theorem dL_law_279 : decode cL_law 279 = .ok (.aload_n 0, 1) := by decide +kernel
theorem dL_law_280 : decode cL_law 280 = .ok (.iload 5, 2) := by decide +kernel
theorem dL_law_282 : decode cL_law 282 = .ok (.iconst 4, 1) := by decide +kernel
theorem dL_law_283 : decode cL_law 283 = .ok (.iadd, 1) := by decide +kernel
theorem dL_law_284 : decode cL_law 284 = .ok (.iaload, 1) := by decide +kernel
theorem dL_law_285 : decode cL_law 285 = .ok (.aload_n 3, 1) := by decide +kernel
theorem dL_law_286 : decode cL_law 286 = .ok (.invokestatic 133, 3) := by decide +kernel
theorem dL_law_289 : decode cL_law 289 = .ok (.istore 6, 2) := by decide +kernel
theorem dL_law_291 : decode cL_law 291 = .ok (.aload_n 2, 1) := by decide +kernel
theorem dL_law_292 : decode cL_law 292 = .ok (.aload_n 0, 1) := by decide +kernel
theorem dL_law_293 : decode cL_law 293 = .ok (.iload 5, 2) := by decide +kernel
theorem dL_law_295 : decode cL_law 295 = .ok (.iconst 1, 1) := by decide +kernel
theorem dL_law_296 : decode cL_law 296 = .ok (.iadd, 1) := by decide +kernel
theorem dL_law_297 : decode cL_law 297 = .ok (.iaload, 1) := by decide +kernel
theorem dL_law_298 : decode cL_law 298 = .ok (.aload_n 0, 1) := by decide +kernel
theorem dL_law_299 : decode cL_law 299 = .ok (.iload 5, 2) := by decide +kernel
theorem dL_law_301 : decode cL_law 301 = .ok (.iconst 2, 1) := by decide +kernel
theorem dL_law_302 : decode cL_law 302 = .ok (.iadd, 1) := by decide +kernel
theorem dL_law_303 : decode cL_law 303 = .ok (.iaload, 1) := by decide +kernel
theorem dL_law_304 : decode cL_law 304 = .ok (.aload_n 0, 1) := by decide +kernel
theorem dL_law_305 : decode cL_law 305 = .ok (.iload 5, 2) := by decide +kernel
theorem dL_law_307 : decode cL_law 307 = .ok (.iconst 3, 1) := by decide +kernel
theorem dL_law_308 : decode cL_law 308 = .ok (.iadd, 1) := by decide +kernel
theorem dL_law_309 : decode cL_law 309 = .ok (.iaload, 1) := by decide +kernel
theorem dL_law_310 : decode cL_law 310 = .ok (.aload_n 0, 1) := by decide +kernel
theorem dL_law_311 : decode cL_law 311 = .ok (.iload 5, 2) := by decide +kernel
theorem dL_law_313 : decode cL_law 313 = .ok (.iconst 4, 1) := by decide +kernel
theorem dL_law_314 : decode cL_law 314 = .ok (.iadd, 1) := by decide +kernel
theorem dL_law_315 : decode cL_law 315 = .ok (.iaload, 1) := by decide +kernel
theorem dL_law_316 : decode cL_law 316 = .ok (.invokevirtual 136, 3) := by decide +kernel
theorem dL_law_319 : decode cL_law 319 = .ok (.istore 7, 2) := by decide +kernel
theorem dL_law_321 : decode cL_law 321 = .ok (.aload_n 2, 1) := by decide +kernel
theorem dL_law_322 : decode cL_law 322 = .ok (.invokevirtual 130, 3) := by decide +kernel
theorem dL_law_325 : decode cL_law 325 = .ok (.iload 6, 2) := by decide +kernel
theorem dL_law_327 : decode cL_law 327 = .ok (.if_icmp .eq 5, 3) := by decide +kernel
theorem dL_law_330 : decode cL_law 330 = .ok (.iconst 0, 1) := by decide +kernel
theorem dL_law_331 : decode cL_law 331 = .ok (.ireturn, 1) := by decide +kernel
theorem dL_law_332 : decode cL_law 332 = .ok (.iload 6, 2) := by decide +kernel
theorem dL_law_334 : decode cL_law 334 = .ok (.ifCond .ne 15, 3) := by decide +kernel
theorem dL_law_337 : decode cL_law 337 = .ok (.aload_n 3, 1) := by decide +kernel
theorem dL_law_338 : decode cL_law 338 = .ok (.iconst 0, 1) := by decide +kernel
theorem dL_law_339 : decode cL_law 339 = .ok (.laload, 1) := by decide +kernel
theorem dL_law_340 : decode cL_law 340 = .ok (.iload 7, 2) := by decide +kernel
theorem dL_law_342 : decode cL_law 342 = .ok (.i2l, 1) := by decide +kernel
theorem dL_law_343 : decode cL_law 343 = .ok (.lcmp, 1) := by decide +kernel
theorem dL_law_344 : decode cL_law 344 = .ok (.ifCond .eq 5, 3) := by decide +kernel
theorem dL_law_347 : decode cL_law 347 = .ok (.iconst 0, 1) := by decide +kernel
theorem dL_law_348 : decode cL_law 348 = .ok (.ireturn, 1) := by decide +kernel
theorem dL_law_349 : decode cL_law 349 = .ok (.goto 1779, 3) := by decide +kernel
theorem dL_law_352 : decode cL_law 352 = .ok (.aload_n 1, 1) := by decide +kernel
theorem dL_law_353 : decode cL_law 353 = .ok (.aload_n 0, 1) := by decide +kernel
theorem dL_law_354 : decode cL_law 354 = .ok (.iload 5, 2) := by decide +kernel
theorem dL_law_356 : decode cL_law 356 = .ok (.iconst 1, 1) := by decide +kernel
theorem dL_law_357 : decode cL_law 357 = .ok (.iadd, 1) := by decide +kernel
theorem dL_law_358 : decode cL_law 358 = .ok (.iaload, 1) := by decide +kernel
theorem dL_law_359 : decode cL_law 359 = .ok (.aload_n 3, 1) := by decide +kernel
theorem dL_law_360 : decode cL_law 360 = .ok (.invokestatic 137, 3) := by decide +kernel
theorem dL_law_363 : decode cL_law 363 = .ok (.istore 6, 2) := by decide +kernel
theorem dL_law_365 : decode cL_law 365 = .ok (.aload_n 2, 1) := by decide +kernel
theorem dL_law_366 : decode cL_law 366 = .ok (.aload_n 0, 1) := by decide +kernel
theorem dL_law_367 : decode cL_law 367 = .ok (.iload 5, 2) := by decide +kernel
theorem dL_law_369 : decode cL_law 369 = .ok (.iconst 1, 1) := by decide +kernel
theorem dL_law_370 : decode cL_law 370 = .ok (.iadd, 1) := by decide +kernel
theorem dL_law_371 : decode cL_law 371 = .ok (.iaload, 1) := by decide +kernel
theorem dL_law_372 : decode cL_law 372 = .ok (.invokevirtual 140, 3) := by decide +kernel
theorem dL_law_375 : decode cL_law 375 = .ok (.istore 7, 2) := by decide +kernel
theorem dL_law_377 : decode cL_law 377 = .ok (.aload_n 2, 1) := by decide +kernel
theorem dL_law_378 : decode cL_law 378 = .ok (.invokevirtual 130, 3) := by decide +kernel
theorem dL_law_381 : decode cL_law 381 = .ok (.iload 6, 2) := by decide +kernel
theorem dL_law_383 : decode cL_law 383 = .ok (.if_icmp .eq 5, 3) := by decide +kernel
theorem dL_law_386 : decode cL_law 386 = .ok (.iconst 0, 1) := by decide +kernel
theorem dL_law_387 : decode cL_law 387 = .ok (.ireturn, 1) := by decide +kernel
theorem dL_law_388 : decode cL_law 388 = .ok (.iload 6, 2) := by decide +kernel
theorem dL_law_390 : decode cL_law 390 = .ok (.ifCond .ne 22, 3) := by decide +kernel
theorem dL_law_393 : decode cL_law 393 = .ok (.aload_n 3, 1) := by decide +kernel
theorem dL_law_394 : decode cL_law 394 = .ok (.iconst 0, 1) := by decide +kernel
theorem dL_law_395 : decode cL_law 395 = .ok (.laload, 1) := by decide +kernel
theorem dL_law_396 : decode cL_law 396 = .ok (.iload 7, 2) := by decide +kernel
theorem dL_law_398 : decode cL_law 398 = .ok (.ifCond .eq 7, 3) := by decide +kernel
theorem dL_law_401 : decode cL_law 401 = .ok (.lconst 1, 1) := by decide +kernel
theorem dL_law_402 : decode cL_law 402 = .ok (.goto 4, 3) := by decide +kernel
theorem dL_law_405 : decode cL_law 405 = .ok (.lconst 0, 1) := by decide +kernel
theorem dL_law_406 : decode cL_law 406 = .ok (.lcmp, 1) := by decide +kernel
theorem dL_law_407 : decode cL_law 407 = .ok (.ifCond .eq 5, 3) := by decide +kernel
theorem dL_law_410 : decode cL_law 410 = .ok (.iconst 0, 1) := by decide +kernel
theorem dL_law_411 : decode cL_law 411 = .ok (.ireturn, 1) := by decide +kernel
theorem dL_law_412 : decode cL_law 412 = .ok (.goto 1716, 3) := by decide +kernel
theorem dL_law_415 : decode cL_law 415 = .ok (.aload_n 1, 1) := by decide +kernel
theorem dL_law_416 : decode cL_law 416 = .ok (.aload_n 0, 1) := by decide +kernel
theorem dL_law_417 : decode cL_law 417 = .ok (.iload 5, 2) := by decide +kernel
theorem dL_law_419 : decode cL_law 419 = .ok (.iconst 1, 1) := by decide +kernel
theorem dL_law_420 : decode cL_law 420 = .ok (.iadd, 1) := by decide +kernel
theorem dL_law_421 : decode cL_law 421 = .ok (.iaload, 1) := by decide +kernel
theorem dL_law_422 : decode cL_law 422 = .ok (.aload_n 0, 1) := by decide +kernel
theorem dL_law_423 : decode cL_law 423 = .ok (.iload 5, 2) := by decide +kernel
theorem dL_law_425 : decode cL_law 425 = .ok (.iconst 2, 1) := by decide +kernel
theorem dL_law_426 : decode cL_law 426 = .ok (.iadd, 1) := by decide +kernel
theorem dL_law_427 : decode cL_law 427 = .ok (.iaload, 1) := by decide +kernel
theorem dL_law_428 : decode cL_law 428 = .ok (.ifCond .eq 7, 3) := by decide +kernel
theorem dL_law_431 : decode cL_law 431 = .ok (.iconst 1, 1) := by decide +kernel
theorem dL_law_432 : decode cL_law 432 = .ok (.goto 4, 3) := by decide +kernel
theorem dL_law_435 : decode cL_law 435 = .ok (.iconst 0, 1) := by decide +kernel
theorem dL_law_436 : decode cL_law 436 = .ok (.aload_n 3, 1) := by decide +kernel
theorem dL_law_437 : decode cL_law 437 = .ok (.invokestatic 141, 3) := by decide +kernel
theorem dL_law_440 : decode cL_law 440 = .ok (.istore 6, 2) := by decide +kernel
theorem dL_law_442 : decode cL_law 442 = .ok (.aload_n 2, 1) := by decide +kernel
theorem dL_law_443 : decode cL_law 443 = .ok (.aload_n 0, 1) := by decide +kernel
theorem dL_law_444 : decode cL_law 444 = .ok (.iload 5, 2) := by decide +kernel
theorem dL_law_446 : decode cL_law 446 = .ok (.iconst 1, 1) := by decide +kernel
theorem dL_law_447 : decode cL_law 447 = .ok (.iadd, 1) := by decide +kernel
theorem dL_law_448 : decode cL_law 448 = .ok (.iaload, 1) := by decide +kernel
theorem dL_law_449 : decode cL_law 449 = .ok (.aload_n 0, 1) := by decide +kernel
theorem dL_law_450 : decode cL_law 450 = .ok (.iload 5, 2) := by decide +kernel
theorem dL_law_452 : decode cL_law 452 = .ok (.iconst 2, 1) := by decide +kernel
theorem dL_law_453 : decode cL_law 453 = .ok (.iadd, 1) := by decide +kernel
theorem dL_law_454 : decode cL_law 454 = .ok (.iaload, 1) := by decide +kernel
theorem dL_law_455 : decode cL_law 455 = .ok (.ifCond .eq 7, 3) := by decide +kernel
theorem dL_law_458 : decode cL_law 458 = .ok (.iconst 1, 1) := by decide +kernel
theorem dL_law_459 : decode cL_law 459 = .ok (.goto 4, 3) := by decide +kernel
theorem dL_law_462 : decode cL_law 462 = .ok (.iconst 0, 1) := by decide +kernel
theorem dL_law_463 : decode cL_law 463 = .ok (.invokevirtual 144, 3) := by decide +kernel
theorem dL_law_466 : decode cL_law 466 = .ok (.istore 7, 2) := by decide +kernel
theorem dL_law_468 : decode cL_law 468 = .ok (.aload_n 2, 1) := by decide +kernel
theorem dL_law_469 : decode cL_law 469 = .ok (.invokevirtual 130, 3) := by decide +kernel
theorem dL_law_472 : decode cL_law 472 = .ok (.iload 6, 2) := by decide +kernel
theorem dL_law_474 : decode cL_law 474 = .ok (.if_icmp .eq 5, 3) := by decide +kernel
theorem dL_law_477 : decode cL_law 477 = .ok (.iconst 0, 1) := by decide +kernel
theorem dL_law_478 : decode cL_law 478 = .ok (.ireturn, 1) := by decide +kernel
theorem dL_law_479 : decode cL_law 479 = .ok (.iload 6, 2) := by decide +kernel
theorem dL_law_481 : decode cL_law 481 = .ok (.ifCond .ne 22, 3) := by decide +kernel
theorem dL_law_484 : decode cL_law 484 = .ok (.aload_n 3, 1) := by decide +kernel
theorem dL_law_485 : decode cL_law 485 = .ok (.iconst 0, 1) := by decide +kernel
theorem dL_law_486 : decode cL_law 486 = .ok (.laload, 1) := by decide +kernel
theorem dL_law_487 : decode cL_law 487 = .ok (.iload 7, 2) := by decide +kernel
theorem dL_law_489 : decode cL_law 489 = .ok (.ifCond .eq 7, 3) := by decide +kernel
theorem dL_law_492 : decode cL_law 492 = .ok (.lconst 1, 1) := by decide +kernel
theorem dL_law_493 : decode cL_law 493 = .ok (.goto 4, 3) := by decide +kernel
theorem dL_law_496 : decode cL_law 496 = .ok (.lconst 0, 1) := by decide +kernel
theorem dL_law_497 : decode cL_law 497 = .ok (.lcmp, 1) := by decide +kernel
theorem dL_law_498 : decode cL_law 498 = .ok (.ifCond .eq 5, 3) := by decide +kernel
theorem dL_law_501 : decode cL_law 501 = .ok (.iconst 0, 1) := by decide +kernel
theorem dL_law_502 : decode cL_law 502 = .ok (.ireturn, 1) := by decide +kernel
theorem dL_law_503 : decode cL_law 503 = .ok (.goto 1625, 3) := by decide +kernel
theorem dL_law_506 : decode cL_law 506 = .ok (.aload_n 1, 1) := by decide +kernel
theorem dL_law_507 : decode cL_law 507 = .ok (.aload_n 0, 1) := by decide +kernel
theorem dL_law_508 : decode cL_law 508 = .ok (.iload 5, 2) := by decide +kernel
theorem dL_law_510 : decode cL_law 510 = .ok (.iconst 1, 1) := by decide +kernel
theorem dL_law_511 : decode cL_law 511 = .ok (.iadd, 1) := by decide +kernel
theorem dL_law_512 : decode cL_law 512 = .ok (.iaload, 1) := by decide +kernel
theorem dL_law_513 : decode cL_law 513 = .ok (.aload_n 0, 1) := by decide +kernel
theorem dL_law_514 : decode cL_law 514 = .ok (.iload 5, 2) := by decide +kernel
theorem dL_law_516 : decode cL_law 516 = .ok (.iconst 2, 1) := by decide +kernel
theorem dL_law_517 : decode cL_law 517 = .ok (.iadd, 1) := by decide +kernel
theorem dL_law_518 : decode cL_law 518 = .ok (.iaload, 1) := by decide +kernel
theorem dL_law_519 : decode cL_law 519 = .ok (.aload_n 0, 1) := by decide +kernel
theorem dL_law_520 : decode cL_law 520 = .ok (.iload 5, 2) := by decide +kernel
theorem dL_law_522 : decode cL_law 522 = .ok (.iconst 3, 1) := by decide +kernel
theorem dL_law_523 : decode cL_law 523 = .ok (.iadd, 1) := by decide +kernel
theorem dL_law_524 : decode cL_law 524 = .ok (.iaload, 1) := by decide +kernel
theorem dL_law_525 : decode cL_law 525 = .ok (.ifCond .eq 7, 3) := by decide +kernel
theorem dL_law_528 : decode cL_law 528 = .ok (.iconst 1, 1) := by decide +kernel
theorem dL_law_529 : decode cL_law 529 = .ok (.goto 4, 3) := by decide +kernel
theorem dL_law_532 : decode cL_law 532 = .ok (.iconst 0, 1) := by decide +kernel
theorem dL_law_533 : decode cL_law 533 = .ok (.aload_n 3, 1) := by decide +kernel
theorem dL_law_534 : decode cL_law 534 = .ok (.invokestatic 145, 3) := by decide +kernel
theorem dL_law_537 : decode cL_law 537 = .ok (.istore 6, 2) := by decide +kernel
theorem dL_law_539 : decode cL_law 539 = .ok (.aload_n 2, 1) := by decide +kernel
theorem dL_law_540 : decode cL_law 540 = .ok (.aload_n 0, 1) := by decide +kernel
theorem dL_law_541 : decode cL_law 541 = .ok (.iload 5, 2) := by decide +kernel
theorem dL_law_543 : decode cL_law 543 = .ok (.iconst 1, 1) := by decide +kernel
theorem dL_law_544 : decode cL_law 544 = .ok (.iadd, 1) := by decide +kernel
theorem dL_law_545 : decode cL_law 545 = .ok (.iaload, 1) := by decide +kernel
theorem dL_law_546 : decode cL_law 546 = .ok (.aload_n 0, 1) := by decide +kernel
theorem dL_law_547 : decode cL_law 547 = .ok (.iload 5, 2) := by decide +kernel
theorem dL_law_549 : decode cL_law 549 = .ok (.iconst 2, 1) := by decide +kernel
theorem dL_law_550 : decode cL_law 550 = .ok (.iadd, 1) := by decide +kernel
theorem dL_law_551 : decode cL_law 551 = .ok (.iaload, 1) := by decide +kernel
theorem dL_law_552 : decode cL_law 552 = .ok (.aload_n 0, 1) := by decide +kernel
theorem dL_law_553 : decode cL_law 553 = .ok (.iload 5, 2) := by decide +kernel
theorem dL_law_555 : decode cL_law 555 = .ok (.iconst 3, 1) := by decide +kernel
theorem dL_law_556 : decode cL_law 556 = .ok (.iadd, 1) := by decide +kernel
theorem dL_law_557 : decode cL_law 557 = .ok (.iaload, 1) := by decide +kernel
theorem dL_law_558 : decode cL_law 558 = .ok (.ifCond .eq 7, 3) := by decide +kernel
theorem dL_law_561 : decode cL_law 561 = .ok (.iconst 1, 1) := by decide +kernel
theorem dL_law_562 : decode cL_law 562 = .ok (.goto 4, 3) := by decide +kernel
theorem dL_law_565 : decode cL_law 565 = .ok (.iconst 0, 1) := by decide +kernel
theorem dL_law_566 : decode cL_law 566 = .ok (.invokevirtual 148, 3) := by decide +kernel
theorem dL_law_569 : decode cL_law 569 = .ok (.istore 7, 2) := by decide +kernel
theorem dL_law_571 : decode cL_law 571 = .ok (.aload_n 2, 1) := by decide +kernel
theorem dL_law_572 : decode cL_law 572 = .ok (.invokevirtual 130, 3) := by decide +kernel
theorem dL_law_575 : decode cL_law 575 = .ok (.iload 6, 2) := by decide +kernel
theorem dL_law_577 : decode cL_law 577 = .ok (.if_icmp .eq 5, 3) := by decide +kernel
theorem dL_law_580 : decode cL_law 580 = .ok (.iconst 0, 1) := by decide +kernel
theorem dL_law_581 : decode cL_law 581 = .ok (.ireturn, 1) := by decide +kernel
theorem dL_law_582 : decode cL_law 582 = .ok (.iload 6, 2) := by decide +kernel
theorem dL_law_584 : decode cL_law 584 = .ok (.ifCond .ne 15, 3) := by decide +kernel
theorem dL_law_587 : decode cL_law 587 = .ok (.aload_n 3, 1) := by decide +kernel
theorem dL_law_588 : decode cL_law 588 = .ok (.iconst 0, 1) := by decide +kernel
theorem dL_law_589 : decode cL_law 589 = .ok (.laload, 1) := by decide +kernel
theorem dL_law_590 : decode cL_law 590 = .ok (.iload 7, 2) := by decide +kernel
theorem dL_law_592 : decode cL_law 592 = .ok (.i2l, 1) := by decide +kernel
theorem dL_law_593 : decode cL_law 593 = .ok (.lcmp, 1) := by decide +kernel
theorem dL_law_594 : decode cL_law 594 = .ok (.ifCond .eq 5, 3) := by decide +kernel
theorem dL_law_597 : decode cL_law 597 = .ok (.iconst 0, 1) := by decide +kernel
theorem dL_law_598 : decode cL_law 598 = .ok (.ireturn, 1) := by decide +kernel
theorem dL_law_599 : decode cL_law 599 = .ok (.goto 1529, 3) := by decide +kernel
theorem dL_law_602 : decode cL_law 602 = .ok (.aload_n 1, 1) := by decide +kernel
theorem dL_law_603 : decode cL_law 603 = .ok (.aload_n 0, 1) := by decide +kernel
theorem dL_law_604 : decode cL_law 604 = .ok (.iload 5, 2) := by decide +kernel
theorem dL_law_606 : decode cL_law 606 = .ok (.iconst 1, 1) := by decide +kernel
theorem dL_law_607 : decode cL_law 607 = .ok (.iadd, 1) := by decide +kernel
theorem dL_law_608 : decode cL_law 608 = .ok (.iaload, 1) := by decide +kernel
theorem dL_law_609 : decode cL_law 609 = .ok (.aload_n 0, 1) := by decide +kernel
theorem dL_law_610 : decode cL_law 610 = .ok (.iload 5, 2) := by decide +kernel
theorem dL_law_612 : decode cL_law 612 = .ok (.iconst 2, 1) := by decide +kernel
theorem dL_law_613 : decode cL_law 613 = .ok (.iadd, 1) := by decide +kernel
theorem dL_law_614 : decode cL_law 614 = .ok (.iaload, 1) := by decide +kernel
theorem dL_law_615 : decode cL_law 615 = .ok (.aload_n 3, 1) := by decide +kernel
theorem dL_law_616 : decode cL_law 616 = .ok (.invokestatic 149, 3) := by decide +kernel
theorem dL_law_619 : decode cL_law 619 = .ok (.istore 6, 2) := by decide +kernel
theorem dL_law_621 : decode cL_law 621 = .ok (.aload_n 2, 1) := by decide +kernel
theorem dL_law_622 : decode cL_law 622 = .ok (.aload_n 0, 1) := by decide +kernel
theorem dL_law_623 : decode cL_law 623 = .ok (.iload 5, 2) := by decide +kernel
theorem dL_law_625 : decode cL_law 625 = .ok (.iconst 1, 1) := by decide +kernel
theorem dL_law_626 : decode cL_law 626 = .ok (.iadd, 1) := by decide +kernel
theorem dL_law_627 : decode cL_law 627 = .ok (.iaload, 1) := by decide +kernel
theorem dL_law_628 : decode cL_law 628 = .ok (.aload_n 0, 1) := by decide +kernel
theorem dL_law_629 : decode cL_law 629 = .ok (.iload 5, 2) := by decide +kernel
theorem dL_law_631 : decode cL_law 631 = .ok (.iconst 2, 1) := by decide +kernel
theorem dL_law_632 : decode cL_law 632 = .ok (.iadd, 1) := by decide +kernel
theorem dL_law_633 : decode cL_law 633 = .ok (.iaload, 1) := by decide +kernel
theorem dL_law_634 : decode cL_law 634 = .ok (.invokevirtual 152, 3) := by decide +kernel
theorem dL_law_637 : decode cL_law 637 = .ok (.istore 7, 2) := by decide +kernel
theorem dL_law_639 : decode cL_law 639 = .ok (.aload_n 2, 1) := by decide +kernel
theorem dL_law_640 : decode cL_law 640 = .ok (.invokevirtual 130, 3) := by decide +kernel
theorem dL_law_643 : decode cL_law 643 = .ok (.iload 6, 2) := by decide +kernel
theorem dL_law_645 : decode cL_law 645 = .ok (.if_icmp .eq 5, 3) := by decide +kernel
theorem dL_law_648 : decode cL_law 648 = .ok (.iconst 0, 1) := by decide +kernel
theorem dL_law_649 : decode cL_law 649 = .ok (.ireturn, 1) := by decide +kernel
theorem dL_law_650 : decode cL_law 650 = .ok (.iload 6, 2) := by decide +kernel
theorem dL_law_652 : decode cL_law 652 = .ok (.ifCond .ne 15, 3) := by decide +kernel
theorem dL_law_655 : decode cL_law 655 = .ok (.aload_n 3, 1) := by decide +kernel
theorem dL_law_656 : decode cL_law 656 = .ok (.iconst 0, 1) := by decide +kernel
theorem dL_law_657 : decode cL_law 657 = .ok (.laload, 1) := by decide +kernel
theorem dL_law_658 : decode cL_law 658 = .ok (.iload 7, 2) := by decide +kernel
theorem dL_law_660 : decode cL_law 660 = .ok (.i2l, 1) := by decide +kernel
theorem dL_law_661 : decode cL_law 661 = .ok (.lcmp, 1) := by decide +kernel
theorem dL_law_662 : decode cL_law 662 = .ok (.ifCond .eq 5, 3) := by decide +kernel
theorem dL_law_665 : decode cL_law 665 = .ok (.iconst 0, 1) := by decide +kernel
theorem dL_law_666 : decode cL_law 666 = .ok (.ireturn, 1) := by decide +kernel
theorem dL_law_667 : decode cL_law 667 = .ok (.goto 1461, 3) := by decide +kernel
theorem dL_law_670 : decode cL_law 670 = .ok (.aload_n 1, 1) := by decide +kernel
theorem dL_law_671 : decode cL_law 671 = .ok (.aload_n 0, 1) := by decide +kernel
theorem dL_law_672 : decode cL_law 672 = .ok (.iload 5, 2) := by decide +kernel
theorem dL_law_674 : decode cL_law 674 = .ok (.iconst 1, 1) := by decide +kernel
theorem dL_law_675 : decode cL_law 675 = .ok (.iadd, 1) := by decide +kernel
theorem dL_law_676 : decode cL_law 676 = .ok (.iaload, 1) := by decide +kernel
theorem dL_law_677 : decode cL_law 677 = .ok (.aload_n 3, 1) := by decide +kernel
theorem dL_law_678 : decode cL_law 678 = .ok (.invokestatic 153, 3) := by decide +kernel
theorem dL_law_681 : decode cL_law 681 = .ok (.istore 6, 2) := by decide +kernel
theorem dL_law_683 : decode cL_law 683 = .ok (.aload_n 2, 1) := by decide +kernel
theorem dL_law_684 : decode cL_law 684 = .ok (.aload_n 0, 1) := by decide +kernel
theorem dL_law_685 : decode cL_law 685 = .ok (.iload 5, 2) := by decide +kernel
theorem dL_law_687 : decode cL_law 687 = .ok (.iconst 1, 1) := by decide +kernel
theorem dL_law_688 : decode cL_law 688 = .ok (.iadd, 1) := by decide +kernel
theorem dL_law_689 : decode cL_law 689 = .ok (.iaload, 1) := by decide +kernel
theorem dL_law_690 : decode cL_law 690 = .ok (.invokevirtual 155, 3) := by decide +kernel
theorem dL_law_693 : decode cL_law 693 = .ok (.istore 7, 2) := by decide +kernel
theorem dL_law_695 : decode cL_law 695 = .ok (.aload_n 2, 1) := by decide +kernel
theorem dL_law_696 : decode cL_law 696 = .ok (.invokevirtual 130, 3) := by decide +kernel
theorem dL_law_699 : decode cL_law 699 = .ok (.iload 6, 2) := by decide +kernel
theorem dL_law_701 : decode cL_law 701 = .ok (.if_icmp .eq 5, 3) := by decide +kernel
theorem dL_law_704 : decode cL_law 704 = .ok (.iconst 0, 1) := by decide +kernel
theorem dL_law_705 : decode cL_law 705 = .ok (.ireturn, 1) := by decide +kernel
theorem dL_law_706 : decode cL_law 706 = .ok (.iload 6, 2) := by decide +kernel
theorem dL_law_708 : decode cL_law 708 = .ok (.ifCond .ne 15, 3) := by decide +kernel
theorem dL_law_711 : decode cL_law 711 = .ok (.aload_n 3, 1) := by decide +kernel
theorem dL_law_712 : decode cL_law 712 = .ok (.iconst 0, 1) := by decide +kernel
theorem dL_law_713 : decode cL_law 713 = .ok (.laload, 1) := by decide +kernel
theorem dL_law_714 : decode cL_law 714 = .ok (.iload 7, 2) := by decide +kernel
theorem dL_law_716 : decode cL_law 716 = .ok (.i2l, 1) := by decide +kernel
theorem dL_law_717 : decode cL_law 717 = .ok (.lcmp, 1) := by decide +kernel
theorem dL_law_718 : decode cL_law 718 = .ok (.ifCond .eq 5, 3) := by decide +kernel
theorem dL_law_721 : decode cL_law 721 = .ok (.iconst 0, 1) := by decide +kernel
theorem dL_law_722 : decode cL_law 722 = .ok (.ireturn, 1) := by decide +kernel
theorem dL_law_723 : decode cL_law 723 = .ok (.goto 1405, 3) := by decide +kernel
theorem dL_law_726 : decode cL_law 726 = .ok (.aload_n 1, 1) := by decide +kernel
theorem dL_law_727 : decode cL_law 727 = .ok (.aload_n 0, 1) := by decide +kernel
theorem dL_law_728 : decode cL_law 728 = .ok (.iload 5, 2) := by decide +kernel
theorem dL_law_730 : decode cL_law 730 = .ok (.iconst 1, 1) := by decide +kernel
theorem dL_law_731 : decode cL_law 731 = .ok (.iadd, 1) := by decide +kernel
theorem dL_law_732 : decode cL_law 732 = .ok (.iaload, 1) := by decide +kernel
theorem dL_law_733 : decode cL_law 733 = .ok (.aload_n 0, 1) := by decide +kernel
theorem dL_law_734 : decode cL_law 734 = .ok (.iload 5, 2) := by decide +kernel
theorem dL_law_736 : decode cL_law 736 = .ok (.iconst 2, 1) := by decide +kernel
theorem dL_law_737 : decode cL_law 737 = .ok (.iadd, 1) := by decide +kernel
theorem dL_law_738 : decode cL_law 738 = .ok (.iaload, 1) := by decide +kernel
theorem dL_law_739 : decode cL_law 739 = .ok (.aload_n 3, 1) := by decide +kernel
theorem dL_law_740 : decode cL_law 740 = .ok (.invokestatic 156, 3) := by decide +kernel
theorem dL_law_743 : decode cL_law 743 = .ok (.istore 6, 2) := by decide +kernel
theorem dL_law_745 : decode cL_law 745 = .ok (.aload_n 2, 1) := by decide +kernel
theorem dL_law_746 : decode cL_law 746 = .ok (.aload_n 0, 1) := by decide +kernel
theorem dL_law_747 : decode cL_law 747 = .ok (.iload 5, 2) := by decide +kernel
theorem dL_law_749 : decode cL_law 749 = .ok (.iconst 1, 1) := by decide +kernel
theorem dL_law_750 : decode cL_law 750 = .ok (.iadd, 1) := by decide +kernel
theorem dL_law_751 : decode cL_law 751 = .ok (.iaload, 1) := by decide +kernel
theorem dL_law_752 : decode cL_law 752 = .ok (.aload_n 0, 1) := by decide +kernel
theorem dL_law_753 : decode cL_law 753 = .ok (.iload 5, 2) := by decide +kernel
theorem dL_law_755 : decode cL_law 755 = .ok (.iconst 2, 1) := by decide +kernel
theorem dL_law_756 : decode cL_law 756 = .ok (.iadd, 1) := by decide +kernel
theorem dL_law_757 : decode cL_law 757 = .ok (.iaload, 1) := by decide +kernel
theorem dL_law_758 : decode cL_law 758 = .ok (.invokevirtual 158, 3) := by decide +kernel
theorem dL_law_761 : decode cL_law 761 = .ok (.istore 7, 2) := by decide +kernel
theorem dL_law_763 : decode cL_law 763 = .ok (.aload_n 2, 1) := by decide +kernel
theorem dL_law_764 : decode cL_law 764 = .ok (.invokevirtual 130, 3) := by decide +kernel
theorem dL_law_767 : decode cL_law 767 = .ok (.iload 6, 2) := by decide +kernel
theorem dL_law_769 : decode cL_law 769 = .ok (.if_icmp .eq 5, 3) := by decide +kernel
theorem dL_law_772 : decode cL_law 772 = .ok (.iconst 0, 1) := by decide +kernel
theorem dL_law_773 : decode cL_law 773 = .ok (.ireturn, 1) := by decide +kernel
theorem dL_law_774 : decode cL_law 774 = .ok (.iload 6, 2) := by decide +kernel
theorem dL_law_776 : decode cL_law 776 = .ok (.ifCond .ne 15, 3) := by decide +kernel
theorem dL_law_779 : decode cL_law 779 = .ok (.aload_n 3, 1) := by decide +kernel
theorem dL_law_780 : decode cL_law 780 = .ok (.iconst 0, 1) := by decide +kernel
theorem dL_law_781 : decode cL_law 781 = .ok (.laload, 1) := by decide +kernel
theorem dL_law_782 : decode cL_law 782 = .ok (.iload 7, 2) := by decide +kernel
theorem dL_law_784 : decode cL_law 784 = .ok (.i2l, 1) := by decide +kernel
theorem dL_law_785 : decode cL_law 785 = .ok (.lcmp, 1) := by decide +kernel
theorem dL_law_786 : decode cL_law 786 = .ok (.ifCond .eq 5, 3) := by decide +kernel
theorem dL_law_789 : decode cL_law 789 = .ok (.iconst 0, 1) := by decide +kernel
theorem dL_law_790 : decode cL_law 790 = .ok (.ireturn, 1) := by decide +kernel
theorem dL_law_791 : decode cL_law 791 = .ok (.goto 1337, 3) := by decide +kernel
theorem dL_law_794 : decode cL_law 794 = .ok (.aload_n 1, 1) := by decide +kernel
theorem dL_law_795 : decode cL_law 795 = .ok (.aload_n 0, 1) := by decide +kernel
theorem dL_law_796 : decode cL_law 796 = .ok (.iload 5, 2) := by decide +kernel
theorem dL_law_798 : decode cL_law 798 = .ok (.iconst 1, 1) := by decide +kernel
theorem dL_law_799 : decode cL_law 799 = .ok (.iadd, 1) := by decide +kernel
theorem dL_law_800 : decode cL_law 800 = .ok (.iaload, 1) := by decide +kernel
theorem dL_law_801 : decode cL_law 801 = .ok (.aload_n 3, 1) := by decide +kernel
theorem dL_law_802 : decode cL_law 802 = .ok (.invokestatic 159, 3) := by decide +kernel
theorem dL_law_805 : decode cL_law 805 = .ok (.istore 6, 2) := by decide +kernel
theorem dL_law_807 : decode cL_law 807 = .ok (.aload_n 2, 1) := by decide +kernel
theorem dL_law_808 : decode cL_law 808 = .ok (.aload_n 0, 1) := by decide +kernel
theorem dL_law_809 : decode cL_law 809 = .ok (.iload 5, 2) := by decide +kernel
theorem dL_law_811 : decode cL_law 811 = .ok (.iconst 1, 1) := by decide +kernel
theorem dL_law_812 : decode cL_law 812 = .ok (.iadd, 1) := by decide +kernel
theorem dL_law_813 : decode cL_law 813 = .ok (.iaload, 1) := by decide +kernel
theorem dL_law_814 : decode cL_law 814 = .ok (.invokevirtual 161, 3) := by decide +kernel
theorem dL_law_817 : decode cL_law 817 = .ok (.istore 7, 2) := by decide +kernel
theorem dL_law_819 : decode cL_law 819 = .ok (.aload_n 2, 1) := by decide +kernel
theorem dL_law_820 : decode cL_law 820 = .ok (.invokevirtual 130, 3) := by decide +kernel
theorem dL_law_823 : decode cL_law 823 = .ok (.iload 6, 2) := by decide +kernel
theorem dL_law_825 : decode cL_law 825 = .ok (.if_icmp .eq 5, 3) := by decide +kernel
theorem dL_law_828 : decode cL_law 828 = .ok (.iconst 0, 1) := by decide +kernel
theorem dL_law_829 : decode cL_law 829 = .ok (.ireturn, 1) := by decide +kernel
theorem dL_law_830 : decode cL_law 830 = .ok (.iload 6, 2) := by decide +kernel
theorem dL_law_832 : decode cL_law 832 = .ok (.ifCond .ne 15, 3) := by decide +kernel
theorem dL_law_835 : decode cL_law 835 = .ok (.aload_n 3, 1) := by decide +kernel
theorem dL_law_836 : decode cL_law 836 = .ok (.iconst 0, 1) := by decide +kernel
theorem dL_law_837 : decode cL_law 837 = .ok (.laload, 1) := by decide +kernel
theorem dL_law_838 : decode cL_law 838 = .ok (.iload 7, 2) := by decide +kernel
theorem dL_law_840 : decode cL_law 840 = .ok (.i2l, 1) := by decide +kernel
theorem dL_law_841 : decode cL_law 841 = .ok (.lcmp, 1) := by decide +kernel
theorem dL_law_842 : decode cL_law 842 = .ok (.ifCond .eq 5, 3) := by decide +kernel
theorem dL_law_845 : decode cL_law 845 = .ok (.iconst 0, 1) := by decide +kernel
theorem dL_law_846 : decode cL_law 846 = .ok (.ireturn, 1) := by decide +kernel
theorem dL_law_847 : decode cL_law 847 = .ok (.goto 1281, 3) := by decide +kernel
theorem dL_law_850 : decode cL_law 850 = .ok (.aload_n 1, 1) := by decide +kernel
theorem dL_law_851 : decode cL_law 851 = .ok (.aload_n 0, 1) := by decide +kernel
theorem dL_law_852 : decode cL_law 852 = .ok (.iload 5, 2) := by decide +kernel
theorem dL_law_854 : decode cL_law 854 = .ok (.iconst 1, 1) := by decide +kernel
theorem dL_law_855 : decode cL_law 855 = .ok (.iadd, 1) := by decide +kernel
theorem dL_law_856 : decode cL_law 856 = .ok (.iaload, 1) := by decide +kernel
theorem dL_law_857 : decode cL_law 857 = .ok (.aload_n 3, 1) := by decide +kernel
theorem dL_law_858 : decode cL_law 858 = .ok (.invokestatic 162, 3) := by decide +kernel
theorem dL_law_861 : decode cL_law 861 = .ok (.istore 6, 2) := by decide +kernel
theorem dL_law_863 : decode cL_law 863 = .ok (.aload_n 2, 1) := by decide +kernel
theorem dL_law_864 : decode cL_law 864 = .ok (.aload_n 0, 1) := by decide +kernel
theorem dL_law_865 : decode cL_law 865 = .ok (.iload 5, 2) := by decide +kernel
theorem dL_law_867 : decode cL_law 867 = .ok (.iconst 1, 1) := by decide +kernel
theorem dL_law_868 : decode cL_law 868 = .ok (.iadd, 1) := by decide +kernel
theorem dL_law_869 : decode cL_law 869 = .ok (.iaload, 1) := by decide +kernel
theorem dL_law_870 : decode cL_law 870 = .ok (.invokevirtual 164, 3) := by decide +kernel
theorem dL_law_873 : decode cL_law 873 = .ok (.istore 7, 2) := by decide +kernel
theorem dL_law_875 : decode cL_law 875 = .ok (.aload_n 2, 1) := by decide +kernel
theorem dL_law_876 : decode cL_law 876 = .ok (.invokevirtual 130, 3) := by decide +kernel
theorem dL_law_879 : decode cL_law 879 = .ok (.iload 6, 2) := by decide +kernel
theorem dL_law_881 : decode cL_law 881 = .ok (.if_icmp .eq 5, 3) := by decide +kernel
theorem dL_law_884 : decode cL_law 884 = .ok (.iconst 0, 1) := by decide +kernel
theorem dL_law_885 : decode cL_law 885 = .ok (.ireturn, 1) := by decide +kernel
theorem dL_law_886 : decode cL_law 886 = .ok (.iload 6, 2) := by decide +kernel
theorem dL_law_888 : decode cL_law 888 = .ok (.ifCond .ne 15, 3) := by decide +kernel
theorem dL_law_891 : decode cL_law 891 = .ok (.aload_n 3, 1) := by decide +kernel
theorem dL_law_892 : decode cL_law 892 = .ok (.iconst 0, 1) := by decide +kernel
theorem dL_law_893 : decode cL_law 893 = .ok (.laload, 1) := by decide +kernel
theorem dL_law_894 : decode cL_law 894 = .ok (.iload 7, 2) := by decide +kernel
theorem dL_law_896 : decode cL_law 896 = .ok (.i2l, 1) := by decide +kernel
theorem dL_law_897 : decode cL_law 897 = .ok (.lcmp, 1) := by decide +kernel
theorem dL_law_898 : decode cL_law 898 = .ok (.ifCond .eq 5, 3) := by decide +kernel
theorem dL_law_901 : decode cL_law 901 = .ok (.iconst 0, 1) := by decide +kernel
theorem dL_law_902 : decode cL_law 902 = .ok (.ireturn, 1) := by decide +kernel
theorem dL_law_903 : decode cL_law 903 = .ok (.goto 1225, 3) := by decide +kernel
theorem dL_law_906 : decode cL_law 906 = .ok (.aload_n 1, 1) := by decide +kernel
theorem dL_law_907 : decode cL_law 907 = .ok (.aload_n 0, 1) := by decide +kernel
theorem dL_law_908 : decode cL_law 908 = .ok (.iload 5, 2) := by decide +kernel
theorem dL_law_910 : decode cL_law 910 = .ok (.iconst 1, 1) := by decide +kernel
theorem dL_law_911 : decode cL_law 911 = .ok (.iadd, 1) := by decide +kernel
theorem dL_law_912 : decode cL_law 912 = .ok (.iaload, 1) := by decide +kernel
theorem dL_law_913 : decode cL_law 913 = .ok (.aload_n 3, 1) := by decide +kernel
theorem dL_law_914 : decode cL_law 914 = .ok (.invokestatic 165, 3) := by decide +kernel
theorem dL_law_917 : decode cL_law 917 = .ok (.istore 6, 2) := by decide +kernel
theorem dL_law_919 : decode cL_law 919 = .ok (.aload_n 2, 1) := by decide +kernel
theorem dL_law_920 : decode cL_law 920 = .ok (.aload_n 0, 1) := by decide +kernel
theorem dL_law_921 : decode cL_law 921 = .ok (.iload 5, 2) := by decide +kernel
theorem dL_law_923 : decode cL_law 923 = .ok (.iconst 1, 1) := by decide +kernel
theorem dL_law_924 : decode cL_law 924 = .ok (.iadd, 1) := by decide +kernel
theorem dL_law_925 : decode cL_law 925 = .ok (.iaload, 1) := by decide +kernel
theorem dL_law_926 : decode cL_law 926 = .ok (.invokevirtual 167, 3) := by decide +kernel
theorem dL_law_929 : decode cL_law 929 = .ok (.istore 7, 2) := by decide +kernel
theorem dL_law_931 : decode cL_law 931 = .ok (.aload_n 2, 1) := by decide +kernel
theorem dL_law_932 : decode cL_law 932 = .ok (.invokevirtual 130, 3) := by decide +kernel
theorem dL_law_935 : decode cL_law 935 = .ok (.iload 6, 2) := by decide +kernel
theorem dL_law_937 : decode cL_law 937 = .ok (.if_icmp .eq 5, 3) := by decide +kernel
theorem dL_law_940 : decode cL_law 940 = .ok (.iconst 0, 1) := by decide +kernel
theorem dL_law_941 : decode cL_law 941 = .ok (.ireturn, 1) := by decide +kernel
theorem dL_law_942 : decode cL_law 942 = .ok (.iload 6, 2) := by decide +kernel
theorem dL_law_944 : decode cL_law 944 = .ok (.ifCond .ne 22, 3) := by decide +kernel
theorem dL_law_947 : decode cL_law 947 = .ok (.aload_n 3, 1) := by decide +kernel
theorem dL_law_948 : decode cL_law 948 = .ok (.iconst 0, 1) := by decide +kernel
theorem dL_law_949 : decode cL_law 949 = .ok (.laload, 1) := by decide +kernel
theorem dL_law_950 : decode cL_law 950 = .ok (.iload 7, 2) := by decide +kernel
theorem dL_law_952 : decode cL_law 952 = .ok (.ifCond .eq 7, 3) := by decide +kernel
theorem dL_law_955 : decode cL_law 955 = .ok (.lconst 1, 1) := by decide +kernel
theorem dL_law_956 : decode cL_law 956 = .ok (.goto 4, 3) := by decide +kernel
theorem dL_law_959 : decode cL_law 959 = .ok (.lconst 0, 1) := by decide +kernel
theorem dL_law_960 : decode cL_law 960 = .ok (.lcmp, 1) := by decide +kernel
theorem dL_law_961 : decode cL_law 961 = .ok (.ifCond .eq 5, 3) := by decide +kernel
theorem dL_law_964 : decode cL_law 964 = .ok (.iconst 0, 1) := by decide +kernel
theorem dL_law_965 : decode cL_law 965 = .ok (.ireturn, 1) := by decide +kernel
theorem dL_law_966 : decode cL_law 966 = .ok (.goto 1162, 3) := by decide +kernel
theorem dL_law_969 : decode cL_law 969 = .ok (.aload_n 1, 1) := by decide +kernel
theorem dL_law_970 : decode cL_law 970 = .ok (.aload_n 0, 1) := by decide +kernel
theorem dL_law_971 : decode cL_law 971 = .ok (.iload 5, 2) := by decide +kernel
theorem dL_law_973 : decode cL_law 973 = .ok (.iconst 1, 1) := by decide +kernel
theorem dL_law_974 : decode cL_law 974 = .ok (.iadd, 1) := by decide +kernel
theorem dL_law_975 : decode cL_law 975 = .ok (.iaload, 1) := by decide +kernel
theorem dL_law_976 : decode cL_law 976 = .ok (.aload_n 0, 1) := by decide +kernel
theorem dL_law_977 : decode cL_law 977 = .ok (.iload 5, 2) := by decide +kernel
theorem dL_law_979 : decode cL_law 979 = .ok (.iconst 2, 1) := by decide +kernel
theorem dL_law_980 : decode cL_law 980 = .ok (.iadd, 1) := by decide +kernel
theorem dL_law_981 : decode cL_law 981 = .ok (.iaload, 1) := by decide +kernel
theorem dL_law_982 : decode cL_law 982 = .ok (.ifCond .eq 7, 3) := by decide +kernel
theorem dL_law_985 : decode cL_law 985 = .ok (.iconst 1, 1) := by decide +kernel
theorem dL_law_986 : decode cL_law 986 = .ok (.goto 4, 3) := by decide +kernel
theorem dL_law_989 : decode cL_law 989 = .ok (.iconst 0, 1) := by decide +kernel
theorem dL_law_990 : decode cL_law 990 = .ok (.aload_n 3, 1) := by decide +kernel
theorem dL_law_991 : decode cL_law 991 = .ok (.invokestatic 168, 3) := by decide +kernel
theorem dL_law_994 : decode cL_law 994 = .ok (.istore 6, 2) := by decide +kernel
theorem dL_law_996 : decode cL_law 996 = .ok (.aload_n 2, 1) := by decide +kernel
theorem dL_law_997 : decode cL_law 997 = .ok (.aload_n 0, 1) := by decide +kernel
theorem dL_law_998 : decode cL_law 998 = .ok (.iload 5, 2) := by decide +kernel
theorem dL_law_1000 : decode cL_law 1000 = .ok (.iconst 1, 1) := by decide +kernel
theorem dL_law_1001 : decode cL_law 1001 = .ok (.iadd, 1) := by decide +kernel
theorem dL_law_1002 : decode cL_law 1002 = .ok (.iaload, 1) := by decide +kernel
theorem dL_law_1003 : decode cL_law 1003 = .ok (.aload_n 0, 1) := by decide +kernel
theorem dL_law_1004 : decode cL_law 1004 = .ok (.iload 5, 2) := by decide +kernel
theorem dL_law_1006 : decode cL_law 1006 = .ok (.iconst 2, 1) := by decide +kernel
theorem dL_law_1007 : decode cL_law 1007 = .ok (.iadd, 1) := by decide +kernel
theorem dL_law_1008 : decode cL_law 1008 = .ok (.iaload, 1) := by decide +kernel
theorem dL_law_1009 : decode cL_law 1009 = .ok (.ifCond .eq 7, 3) := by decide +kernel
theorem dL_law_1012 : decode cL_law 1012 = .ok (.iconst 1, 1) := by decide +kernel
theorem dL_law_1013 : decode cL_law 1013 = .ok (.goto 4, 3) := by decide +kernel
theorem dL_law_1016 : decode cL_law 1016 = .ok (.iconst 0, 1) := by decide +kernel
theorem dL_law_1017 : decode cL_law 1017 = .ok (.invokevirtual 170, 3) := by decide +kernel
theorem dL_law_1020 : decode cL_law 1020 = .ok (.istore 7, 2) := by decide +kernel
theorem dL_law_1022 : decode cL_law 1022 = .ok (.aload_n 2, 1) := by decide +kernel
theorem dL_law_1023 : decode cL_law 1023 = .ok (.invokevirtual 130, 3) := by decide +kernel
theorem dL_law_1026 : decode cL_law 1026 = .ok (.iload 6, 2) := by decide +kernel
theorem dL_law_1028 : decode cL_law 1028 = .ok (.if_icmp .eq 5, 3) := by decide +kernel
theorem dL_law_1031 : decode cL_law 1031 = .ok (.iconst 0, 1) := by decide +kernel
theorem dL_law_1032 : decode cL_law 1032 = .ok (.ireturn, 1) := by decide +kernel
theorem dL_law_1033 : decode cL_law 1033 = .ok (.iload 6, 2) := by decide +kernel
theorem dL_law_1035 : decode cL_law 1035 = .ok (.ifCond .ne 15, 3) := by decide +kernel
theorem dL_law_1038 : decode cL_law 1038 = .ok (.aload_n 3, 1) := by decide +kernel
theorem dL_law_1039 : decode cL_law 1039 = .ok (.iconst 0, 1) := by decide +kernel
theorem dL_law_1040 : decode cL_law 1040 = .ok (.laload, 1) := by decide +kernel
theorem dL_law_1041 : decode cL_law 1041 = .ok (.iload 7, 2) := by decide +kernel
theorem dL_law_1043 : decode cL_law 1043 = .ok (.i2l, 1) := by decide +kernel
theorem dL_law_1044 : decode cL_law 1044 = .ok (.lcmp, 1) := by decide +kernel
theorem dL_law_1045 : decode cL_law 1045 = .ok (.ifCond .eq 5, 3) := by decide +kernel
theorem dL_law_1048 : decode cL_law 1048 = .ok (.iconst 0, 1) := by decide +kernel
theorem dL_law_1049 : decode cL_law 1049 = .ok (.ireturn, 1) := by decide +kernel
theorem dL_law_1050 : decode cL_law 1050 = .ok (.goto 1078, 3) := by decide +kernel
theorem dL_law_1053 : decode cL_law 1053 = .ok (.aload_n 1, 1) := by decide +kernel
theorem dL_law_1054 : decode cL_law 1054 = .ok (.aload_n 0, 1) := by decide +kernel
theorem dL_law_1055 : decode cL_law 1055 = .ok (.iload 5, 2) := by decide +kernel
theorem dL_law_1057 : decode cL_law 1057 = .ok (.iconst 1, 1) := by decide +kernel
theorem dL_law_1058 : decode cL_law 1058 = .ok (.iadd, 1) := by decide +kernel
theorem dL_law_1059 : decode cL_law 1059 = .ok (.iaload, 1) := by decide +kernel
theorem dL_law_1060 : decode cL_law 1060 = .ok (.ifCond .eq 7, 3) := by decide +kernel
theorem dL_law_1063 : decode cL_law 1063 = .ok (.iconst 1, 1) := by decide +kernel
theorem dL_law_1064 : decode cL_law 1064 = .ok (.goto 4, 3) := by decide +kernel
theorem dL_law_1067 : decode cL_law 1067 = .ok (.iconst 0, 1) := by decide +kernel
theorem dL_law_1068 : decode cL_law 1068 = .ok (.invokevirtual 171, 3) := by decide +kernel
theorem dL_law_1071 : decode cL_law 1071 = .ok (.aload_n 2, 1) := by decide +kernel
theorem dL_law_1072 : decode cL_law 1072 = .ok (.aload_n 0, 1) := by decide +kernel
theorem dL_law_1073 : decode cL_law 1073 = .ok (.iload 5, 2) := by decide +kernel
theorem dL_law_1075 : decode cL_law 1075 = .ok (.iconst 1, 1) := by decide +kernel
theorem dL_law_1076 : decode cL_law 1076 = .ok (.iadd, 1) := by decide +kernel
theorem dL_law_1077 : decode cL_law 1077 = .ok (.iaload, 1) := by decide +kernel
theorem dL_law_1078 : decode cL_law 1078 = .ok (.ifCond .eq 7, 3) := by decide +kernel
theorem dL_law_1081 : decode cL_law 1081 = .ok (.iconst 1, 1) := by decide +kernel
theorem dL_law_1082 : decode cL_law 1082 = .ok (.goto 4, 3) := by decide +kernel
theorem dL_law_1085 : decode cL_law 1085 = .ok (.iconst 0, 1) := by decide +kernel
theorem dL_law_1086 : decode cL_law 1086 = .ok (.invokevirtual 174, 3) := by decide +kernel
theorem dL_law_1089 : decode cL_law 1089 = .ok (.if_icmp .eq 1039, 3) := by decide +kernel
theorem dL_law_1092 : decode cL_law 1092 = .ok (.iconst 0, 1) := by decide +kernel
theorem dL_law_1093 : decode cL_law 1093 = .ok (.ireturn, 1) := by decide +kernel
theorem dL_law_1094 : decode cL_law 1094 = .ok (.aload_n 1, 1) := by decide +kernel
theorem dL_law_1095 : decode cL_law 1095 = .ok (.aload_n 0, 1) := by decide +kernel
theorem dL_law_1096 : decode cL_law 1096 = .ok (.iload 5, 2) := by decide +kernel
theorem dL_law_1098 : decode cL_law 1098 = .ok (.iconst 1, 1) := by decide +kernel
theorem dL_law_1099 : decode cL_law 1099 = .ok (.iadd, 1) := by decide +kernel
theorem dL_law_1100 : decode cL_law 1100 = .ok (.iaload, 1) := by decide +kernel
theorem dL_law_1101 : decode cL_law 1101 = .ok (.aload_n 0, 1) := by decide +kernel
theorem dL_law_1102 : decode cL_law 1102 = .ok (.iload 5, 2) := by decide +kernel
theorem dL_law_1104 : decode cL_law 1104 = .ok (.iconst 2, 1) := by decide +kernel
theorem dL_law_1105 : decode cL_law 1105 = .ok (.iadd, 1) := by decide +kernel
theorem dL_law_1106 : decode cL_law 1106 = .ok (.iaload, 1) := by decide +kernel
theorem dL_law_1107 : decode cL_law 1107 = .ok (.aload_n 0, 1) := by decide +kernel
theorem dL_law_1108 : decode cL_law 1108 = .ok (.iload 5, 2) := by decide +kernel
theorem dL_law_1110 : decode cL_law 1110 = .ok (.iconst 3, 1) := by decide +kernel
theorem dL_law_1111 : decode cL_law 1111 = .ok (.iadd, 1) := by decide +kernel
theorem dL_law_1112 : decode cL_law 1112 = .ok (.iaload, 1) := by decide +kernel
theorem dL_law_1113 : decode cL_law 1113 = .ok (.ifCond .eq 7, 3) := by decide +kernel
theorem dL_law_1116 : decode cL_law 1116 = .ok (.iconst 1, 1) := by decide +kernel
theorem dL_law_1117 : decode cL_law 1117 = .ok (.goto 4, 3) := by decide +kernel
theorem dL_law_1120 : decode cL_law 1120 = .ok (.iconst 0, 1) := by decide +kernel
theorem dL_law_1121 : decode cL_law 1121 = .ok (.aload_n 3, 1) := by decide +kernel
theorem dL_law_1122 : decode cL_law 1122 = .ok (.invokestatic 175, 3) := by decide +kernel
theorem dL_law_1125 : decode cL_law 1125 = .ok (.istore 6, 2) := by decide +kernel
theorem dL_law_1127 : decode cL_law 1127 = .ok (.aload_n 2, 1) := by decide +kernel
theorem dL_law_1128 : decode cL_law 1128 = .ok (.aload_n 0, 1) := by decide +kernel
theorem dL_law_1129 : decode cL_law 1129 = .ok (.iload 5, 2) := by decide +kernel
theorem dL_law_1131 : decode cL_law 1131 = .ok (.iconst 1, 1) := by decide +kernel
theorem dL_law_1132 : decode cL_law 1132 = .ok (.iadd, 1) := by decide +kernel
theorem dL_law_1133 : decode cL_law 1133 = .ok (.iaload, 1) := by decide +kernel
theorem dL_law_1134 : decode cL_law 1134 = .ok (.aload_n 0, 1) := by decide +kernel
theorem dL_law_1135 : decode cL_law 1135 = .ok (.iload 5, 2) := by decide +kernel
theorem dL_law_1137 : decode cL_law 1137 = .ok (.iconst 2, 1) := by decide +kernel
theorem dL_law_1138 : decode cL_law 1138 = .ok (.iadd, 1) := by decide +kernel
theorem dL_law_1139 : decode cL_law 1139 = .ok (.iaload, 1) := by decide +kernel
theorem dL_law_1140 : decode cL_law 1140 = .ok (.aload_n 0, 1) := by decide +kernel
theorem dL_law_1141 : decode cL_law 1141 = .ok (.iload 5, 2) := by decide +kernel
theorem dL_law_1143 : decode cL_law 1143 = .ok (.iconst 3, 1) := by decide +kernel
theorem dL_law_1144 : decode cL_law 1144 = .ok (.iadd, 1) := by decide +kernel
theorem dL_law_1145 : decode cL_law 1145 = .ok (.iaload, 1) := by decide +kernel
theorem dL_law_1146 : decode cL_law 1146 = .ok (.ifCond .eq 7, 3) := by decide +kernel
theorem dL_law_1149 : decode cL_law 1149 = .ok (.iconst 1, 1) := by decide +kernel
theorem dL_law_1150 : decode cL_law 1150 = .ok (.goto 4, 3) := by decide +kernel
theorem dL_law_1153 : decode cL_law 1153 = .ok (.iconst 0, 1) := by decide +kernel
theorem dL_law_1154 : decode cL_law 1154 = .ok (.invokevirtual 177, 3) := by decide +kernel
theorem dL_law_1157 : decode cL_law 1157 = .ok (.istore 7, 2) := by decide +kernel
theorem dL_law_1159 : decode cL_law 1159 = .ok (.aload_n 2, 1) := by decide +kernel
theorem dL_law_1160 : decode cL_law 1160 = .ok (.invokevirtual 130, 3) := by decide +kernel
theorem dL_law_1163 : decode cL_law 1163 = .ok (.iload 6, 2) := by decide +kernel
theorem dL_law_1165 : decode cL_law 1165 = .ok (.if_icmp .eq 5, 3) := by decide +kernel
theorem dL_law_1168 : decode cL_law 1168 = .ok (.iconst 0, 1) := by decide +kernel
theorem dL_law_1169 : decode cL_law 1169 = .ok (.ireturn, 1) := by decide +kernel
theorem dL_law_1170 : decode cL_law 1170 = .ok (.iload 6, 2) := by decide +kernel
theorem dL_law_1172 : decode cL_law 1172 = .ok (.ifCond .ne 22, 3) := by decide +kernel
theorem dL_law_1175 : decode cL_law 1175 = .ok (.aload_n 3, 1) := by decide +kernel
theorem dL_law_1176 : decode cL_law 1176 = .ok (.iconst 0, 1) := by decide +kernel
theorem dL_law_1177 : decode cL_law 1177 = .ok (.laload, 1) := by decide +kernel
theorem dL_law_1178 : decode cL_law 1178 = .ok (.iload 7, 2) := by decide +kernel
theorem dL_law_1180 : decode cL_law 1180 = .ok (.ifCond .eq 7, 3) := by decide +kernel
theorem dL_law_1183 : decode cL_law 1183 = .ok (.lconst 1, 1) := by decide +kernel
theorem dL_law_1184 : decode cL_law 1184 = .ok (.goto 4, 3) := by decide +kernel
theorem dL_law_1187 : decode cL_law 1187 = .ok (.lconst 0, 1) := by decide +kernel
theorem dL_law_1188 : decode cL_law 1188 = .ok (.lcmp, 1) := by decide +kernel
theorem dL_law_1189 : decode cL_law 1189 = .ok (.ifCond .eq 5, 3) := by decide +kernel
theorem dL_law_1192 : decode cL_law 1192 = .ok (.iconst 0, 1) := by decide +kernel
theorem dL_law_1193 : decode cL_law 1193 = .ok (.ireturn, 1) := by decide +kernel
theorem dL_law_1194 : decode cL_law 1194 = .ok (.goto 934, 3) := by decide +kernel
theorem dL_law_1197 : decode cL_law 1197 = .ok (.aload_n 1, 1) := by decide +kernel
theorem dL_law_1198 : decode cL_law 1198 = .ok (.aload_n 0, 1) := by decide +kernel
theorem dL_law_1199 : decode cL_law 1199 = .ok (.iload 5, 2) := by decide +kernel
theorem dL_law_1201 : decode cL_law 1201 = .ok (.iconst 1, 1) := by decide +kernel
theorem dL_law_1202 : decode cL_law 1202 = .ok (.iadd, 1) := by decide +kernel
theorem dL_law_1203 : decode cL_law 1203 = .ok (.iaload, 1) := by decide +kernel
theorem dL_law_1204 : decode cL_law 1204 = .ok (.aload_n 3, 1) := by decide +kernel
theorem dL_law_1205 : decode cL_law 1205 = .ok (.invokestatic 178, 3) := by decide +kernel
theorem dL_law_1208 : decode cL_law 1208 = .ok (.istore 6, 2) := by decide +kernel
theorem dL_law_1210 : decode cL_law 1210 = .ok (.aload_n 2, 1) := by decide +kernel
theorem dL_law_1211 : decode cL_law 1211 = .ok (.aload_n 0, 1) := by decide +kernel
theorem dL_law_1212 : decode cL_law 1212 = .ok (.iload 5, 2) := by decide +kernel
theorem dL_law_1214 : decode cL_law 1214 = .ok (.iconst 1, 1) := by decide +kernel
theorem dL_law_1215 : decode cL_law 1215 = .ok (.iadd, 1) := by decide +kernel
theorem dL_law_1216 : decode cL_law 1216 = .ok (.iaload, 1) := by decide +kernel
theorem dL_law_1217 : decode cL_law 1217 = .ok (.invokevirtual 180, 3) := by decide +kernel
theorem dL_law_1220 : decode cL_law 1220 = .ok (.istore 7, 2) := by decide +kernel
theorem dL_law_1222 : decode cL_law 1222 = .ok (.aload_n 2, 1) := by decide +kernel
theorem dL_law_1223 : decode cL_law 1223 = .ok (.invokevirtual 130, 3) := by decide +kernel
theorem dL_law_1226 : decode cL_law 1226 = .ok (.iload 6, 2) := by decide +kernel
theorem dL_law_1228 : decode cL_law 1228 = .ok (.if_icmp .eq 5, 3) := by decide +kernel
theorem dL_law_1231 : decode cL_law 1231 = .ok (.iconst 0, 1) := by decide +kernel
theorem dL_law_1232 : decode cL_law 1232 = .ok (.ireturn, 1) := by decide +kernel
theorem dL_law_1233 : decode cL_law 1233 = .ok (.iload 6, 2) := by decide +kernel
theorem dL_law_1235 : decode cL_law 1235 = .ok (.ifCond .ne 15, 3) := by decide +kernel
theorem dL_law_1238 : decode cL_law 1238 = .ok (.aload_n 3, 1) := by decide +kernel
theorem dL_law_1239 : decode cL_law 1239 = .ok (.iconst 0, 1) := by decide +kernel
theorem dL_law_1240 : decode cL_law 1240 = .ok (.laload, 1) := by decide +kernel
theorem dL_law_1241 : decode cL_law 1241 = .ok (.iload 7, 2) := by decide +kernel
theorem dL_law_1243 : decode cL_law 1243 = .ok (.i2l, 1) := by decide +kernel
theorem dL_law_1244 : decode cL_law 1244 = .ok (.lcmp, 1) := by decide +kernel
theorem dL_law_1245 : decode cL_law 1245 = .ok (.ifCond .eq 5, 3) := by decide +kernel
theorem dL_law_1248 : decode cL_law 1248 = .ok (.iconst 0, 1) := by decide +kernel
theorem dL_law_1249 : decode cL_law 1249 = .ok (.ireturn, 1) := by decide +kernel
theorem dL_law_1250 : decode cL_law 1250 = .ok (.goto 878, 3) := by decide +kernel
theorem dL_law_1253 : decode cL_law 1253 = .ok (.aload_n 1, 1) := by decide +kernel
theorem dL_law_1254 : decode cL_law 1254 = .ok (.aload_n 0, 1) := by decide +kernel
theorem dL_law_1255 : decode cL_law 1255 = .ok (.iload 5, 2) := by decide +kernel
theorem dL_law_1257 : decode cL_law 1257 = .ok (.iconst 1, 1) := by decide +kernel
theorem dL_law_1258 : decode cL_law 1258 = .ok (.iadd, 1) := by decide +kernel
theorem dL_law_1259 : decode cL_law 1259 = .ok (.iaload, 1) := by decide +kernel
theorem dL_law_1260 : decode cL_law 1260 = .ok (.aload_n 3, 1) := by decide +kernel
theorem dL_law_1261 : decode cL_law 1261 = .ok (.invokestatic 181, 3) := by decide +kernel
theorem dL_law_1264 : decode cL_law 1264 = .ok (.istore 6, 2) := by decide +kernel
theorem dL_law_1266 : decode cL_law 1266 = .ok (.aload_n 2, 1) := by decide +kernel
theorem dL_law_1267 : decode cL_law 1267 = .ok (.aload_n 0, 1) := by decide +kernel
theorem dL_law_1268 : decode cL_law 1268 = .ok (.iload 5, 2) := by decide +kernel
theorem dL_law_1270 : decode cL_law 1270 = .ok (.iconst 1, 1) := by decide +kernel
theorem dL_law_1271 : decode cL_law 1271 = .ok (.iadd, 1) := by decide +kernel
theorem dL_law_1272 : decode cL_law 1272 = .ok (.iaload, 1) := by decide +kernel
theorem dL_law_1273 : decode cL_law 1273 = .ok (.invokevirtual 183, 3) := by decide +kernel
theorem dL_law_1276 : decode cL_law 1276 = .ok (.istore 7, 2) := by decide +kernel
theorem dL_law_1278 : decode cL_law 1278 = .ok (.aload_n 2, 1) := by decide +kernel
theorem dL_law_1279 : decode cL_law 1279 = .ok (.invokevirtual 130, 3) := by decide +kernel
theorem dL_law_1282 : decode cL_law 1282 = .ok (.iload 6, 2) := by decide +kernel
theorem dL_law_1284 : decode cL_law 1284 = .ok (.if_icmp .eq 5, 3) := by decide +kernel
theorem dL_law_1287 : decode cL_law 1287 = .ok (.iconst 0, 1) := by decide +kernel
theorem dL_law_1288 : decode cL_law 1288 = .ok (.ireturn, 1) := by decide +kernel
theorem dL_law_1289 : decode cL_law 1289 = .ok (.iload 6, 2) := by decide +kernel
theorem dL_law_1291 : decode cL_law 1291 = .ok (.ifCond .ne 15, 3) := by decide +kernel
theorem dL_law_1294 : decode cL_law 1294 = .ok (.aload_n 3, 1) := by decide +kernel
theorem dL_law_1295 : decode cL_law 1295 = .ok (.iconst 0, 1) := by decide +kernel
theorem dL_law_1296 : decode cL_law 1296 = .ok (.laload, 1) := by decide +kernel
theorem dL_law_1297 : decode cL_law 1297 = .ok (.iload 7, 2) := by decide +kernel
theorem dL_law_1299 : decode cL_law 1299 = .ok (.i2l, 1) := by decide +kernel
theorem dL_law_1300 : decode cL_law 1300 = .ok (.lcmp, 1) := by decide +kernel
theorem dL_law_1301 : decode cL_law 1301 = .ok (.ifCond .eq 5, 3) := by decide +kernel
theorem dL_law_1304 : decode cL_law 1304 = .ok (.iconst 0, 1) := by decide +kernel
theorem dL_law_1305 : decode cL_law 1305 = .ok (.ireturn, 1) := by decide +kernel
theorem dL_law_1306 : decode cL_law 1306 = .ok (.goto 822, 3) := by decide +kernel
theorem dL_law_1309 : decode cL_law 1309 = .ok (.aload_n 1, 1) := by decide +kernel
theorem dL_law_1310 : decode cL_law 1310 = .ok (.aload_n 0, 1) := by decide +kernel
theorem dL_law_1311 : decode cL_law 1311 = .ok (.iload 5, 2) := by decide +kernel
theorem dL_law_1313 : decode cL_law 1313 = .ok (.iconst 1, 1) := by decide +kernel
theorem dL_law_1314 : decode cL_law 1314 = .ok (.iadd, 1) := by decide +kernel
theorem dL_law_1315 : decode cL_law 1315 = .ok (.iaload, 1) := by decide +kernel
theorem dL_law_1316 : decode cL_law 1316 = .ok (.i2c, 1) := by decide +kernel
theorem dL_law_1317 : decode cL_law 1317 = .ok (.aload_n 0, 1) := by decide +kernel
theorem dL_law_1318 : decode cL_law 1318 = .ok (.iload 5, 2) := by decide +kernel
theorem dL_law_1320 : decode cL_law 1320 = .ok (.iconst 2, 1) := by decide +kernel
theorem dL_law_1321 : decode cL_law 1321 = .ok (.iadd, 1) := by decide +kernel
theorem dL_law_1322 : decode cL_law 1322 = .ok (.iaload, 1) := by decide +kernel
theorem dL_law_1323 : decode cL_law 1323 = .ok (.aload_n 0, 1) := by decide +kernel
theorem dL_law_1324 : decode cL_law 1324 = .ok (.iload 5, 2) := by decide +kernel
theorem dL_law_1326 : decode cL_law 1326 = .ok (.iconst 3, 1) := by decide +kernel
theorem dL_law_1327 : decode cL_law 1327 = .ok (.iadd, 1) := by decide +kernel
theorem dL_law_1328 : decode cL_law 1328 = .ok (.iaload, 1) := by decide +kernel
theorem dL_law_1329 : decode cL_law 1329 = .ok (.aload_n 3, 1) := by decide +kernel
theorem dL_law_1330 : decode cL_law 1330 = .ok (.invokestatic 184, 3) := by decide +kernel
theorem dL_law_1333 : decode cL_law 1333 = .ok (.istore 6, 2) := by decide +kernel
theorem dL_law_1335 : decode cL_law 1335 = .ok (.aload_n 2, 1) := by decide +kernel
theorem dL_law_1336 : decode cL_law 1336 = .ok (.aload_n 0, 1) := by decide +kernel
theorem dL_law_1337 : decode cL_law 1337 = .ok (.iload 5, 2) := by decide +kernel
theorem dL_law_1339 : decode cL_law 1339 = .ok (.iconst 1, 1) := by decide +kernel
theorem dL_law_1340 : decode cL_law 1340 = .ok (.iadd, 1) := by decide +kernel
theorem dL_law_1341 : decode cL_law 1341 = .ok (.iaload, 1) := by decide +kernel
theorem dL_law_1342 : decode cL_law 1342 = .ok (.i2c, 1) := by decide +kernel
theorem dL_law_1343 : decode cL_law 1343 = .ok (.aload_n 0, 1) := by decide +kernel
theorem dL_law_1344 : decode cL_law 1344 = .ok (.iload 5, 2) := by decide +kernel
theorem dL_law_1346 : decode cL_law 1346 = .ok (.iconst 2, 1) := by decide +kernel
theorem dL_law_1347 : decode cL_law 1347 = .ok (.iadd, 1) := by decide +kernel
theorem dL_law_1348 : decode cL_law 1348 = .ok (.iaload, 1) := by decide +kernel
theorem dL_law_1349 : decode cL_law 1349 = .ok (.aload_n 0, 1) := by decide +kernel
theorem dL_law_1350 : decode cL_law 1350 = .ok (.iload 5, 2) := by decide +kernel
theorem dL_law_1352 : decode cL_law 1352 = .ok (.iconst 3, 1) := by decide +kernel
theorem dL_law_1353 : decode cL_law 1353 = .ok (.iadd, 1) := by decide +kernel
theorem dL_law_1354 : decode cL_law 1354 = .ok (.iaload, 1) := by decide +kernel
theorem dL_law_1355 : decode cL_law 1355 = .ok (.invokevirtual 187, 3) := by decide +kernel
theorem dL_law_1358 : decode cL_law 1358 = .ok (.istore 7, 2) := by decide +kernel
theorem dL_law_1360 : decode cL_law 1360 = .ok (.aload_n 2, 1) := by decide +kernel
theorem dL_law_1361 : decode cL_law 1361 = .ok (.invokevirtual 130, 3) := by decide +kernel
theorem dL_law_1364 : decode cL_law 1364 = .ok (.iload 6, 2) := by decide +kernel
theorem dL_law_1366 : decode cL_law 1366 = .ok (.if_icmp .eq 5, 3) := by decide +kernel
theorem dL_law_1369 : decode cL_law 1369 = .ok (.iconst 0, 1) := by decide +kernel
theorem dL_law_1370 : decode cL_law 1370 = .ok (.ireturn, 1) := by decide +kernel
theorem dL_law_1371 : decode cL_law 1371 = .ok (.iload 6, 2) := by decide +kernel
theorem dL_law_1373 : decode cL_law 1373 = .ok (.ifCond .ne 15, 3) := by decide +kernel
theorem dL_law_1376 : decode cL_law 1376 = .ok (.aload_n 3, 1) := by decide +kernel
theorem dL_law_1377 : decode cL_law 1377 = .ok (.iconst 0, 1) := by decide +kernel
theorem dL_law_1378 : decode cL_law 1378 = .ok (.laload, 1) := by decide +kernel
theorem dL_law_1379 : decode cL_law 1379 = .ok (.iload 7, 2) := by decide +kernel
theorem dL_law_1381 : decode cL_law 1381 = .ok (.i2l, 1) := by decide +kernel
theorem dL_law_1382 : decode cL_law 1382 = .ok (.lcmp, 1) := by decide +kernel
theorem dL_law_1383 : decode cL_law 1383 = .ok (.ifCond .eq 5, 3) := by decide +kernel
theorem dL_law_1386 : decode cL_law 1386 = .ok (.iconst 0, 1) := by decide +kernel
theorem dL_law_1387 : decode cL_law 1387 = .ok (.ireturn, 1) := by decide +kernel
theorem dL_law_1388 : decode cL_law 1388 = .ok (.goto 740, 3) := by decide +kernel
theorem dL_law_1391 : decode cL_law 1391 = .ok (.aload_n 1, 1) := by decide +kernel
theorem dL_law_1392 : decode cL_law 1392 = .ok (.invokevirtual 188, 3) := by decide +kernel
theorem dL_law_1395 : decode cL_law 1395 = .ok (.aload_n 2, 1) := by decide +kernel
theorem dL_law_1396 : decode cL_law 1396 = .ok (.invokevirtual 191, 3) := by decide +kernel
theorem dL_law_1399 : decode cL_law 1399 = .ok (.if_icmp .eq 729, 3) := by decide +kernel
theorem dL_law_1402 : decode cL_law 1402 = .ok (.iconst 0, 1) := by decide +kernel
theorem dL_law_1403 : decode cL_law 1403 = .ok (.ireturn, 1) := by decide +kernel
theorem dL_law_1404 : decode cL_law 1404 = .ok (.aload_n 1, 1) := by decide +kernel
theorem dL_law_1405 : decode cL_law 1405 = .ok (.aload_n 0, 1) := by decide +kernel
theorem dL_law_1406 : decode cL_law 1406 = .ok (.iload 5, 2) := by decide +kernel
theorem dL_law_1408 : decode cL_law 1408 = .ok (.iconst 1, 1) := by decide +kernel
theorem dL_law_1409 : decode cL_law 1409 = .ok (.iadd, 1) := by decide +kernel
theorem dL_law_1410 : decode cL_law 1410 = .ok (.iaload, 1) := by decide +kernel
theorem dL_law_1411 : decode cL_law 1411 = .ok (.aload_n 3, 1) := by decide +kernel
theorem dL_law_1412 : decode cL_law 1412 = .ok (.invokestatic 192, 3) := by decide +kernel
theorem dL_law_1415 : decode cL_law 1415 = .ok (.istore 6, 2) := by decide +kernel
theorem dL_law_1417 : decode cL_law 1417 = .ok (.aload_n 2, 1) := by decide +kernel
theorem dL_law_1418 : decode cL_law 1418 = .ok (.aload_n 0, 1) := by decide +kernel
theorem dL_law_1419 : decode cL_law 1419 = .ok (.iload 5, 2) := by decide +kernel
theorem dL_law_1421 : decode cL_law 1421 = .ok (.iconst 1, 1) := by decide +kernel
theorem dL_law_1422 : decode cL_law 1422 = .ok (.iadd, 1) := by decide +kernel
theorem dL_law_1423 : decode cL_law 1423 = .ok (.iaload, 1) := by decide +kernel
theorem dL_law_1424 : decode cL_law 1424 = .ok (.invokevirtual 194, 3) := by decide +kernel
theorem dL_law_1427 : decode cL_law 1427 = .ok (.istore 7, 2) := by decide +kernel
theorem dL_law_1429 : decode cL_law 1429 = .ok (.aload_n 2, 1) := by decide +kernel
theorem dL_law_1430 : decode cL_law 1430 = .ok (.invokevirtual 130, 3) := by decide +kernel
theorem dL_law_1433 : decode cL_law 1433 = .ok (.iload 6, 2) := by decide +kernel
theorem dL_law_1435 : decode cL_law 1435 = .ok (.if_icmp .eq 5, 3) := by decide +kernel
theorem dL_law_1438 : decode cL_law 1438 = .ok (.iconst 0, 1) := by decide +kernel
theorem dL_law_1439 : decode cL_law 1439 = .ok (.ireturn, 1) := by decide +kernel
theorem dL_law_1440 : decode cL_law 1440 = .ok (.iload 6, 2) := by decide +kernel
theorem dL_law_1442 : decode cL_law 1442 = .ok (.ifCond .ne 15, 3) := by decide +kernel
theorem dL_law_1445 : decode cL_law 1445 = .ok (.aload_n 3, 1) := by decide +kernel
theorem dL_law_1446 : decode cL_law 1446 = .ok (.iconst 0, 1) := by decide +kernel
theorem dL_law_1447 : decode cL_law 1447 = .ok (.laload, 1) := by decide +kernel
theorem dL_law_1448 : decode cL_law 1448 = .ok (.iload 7, 2) := by decide +kernel
theorem dL_law_1450 : decode cL_law 1450 = .ok (.i2l, 1) := by decide +kernel
theorem dL_law_1451 : decode cL_law 1451 = .ok (.lcmp, 1) := by decide +kernel
theorem dL_law_1452 : decode cL_law 1452 = .ok (.ifCond .eq 5, 3) := by decide +kernel
theorem dL_law_1455 : decode cL_law 1455 = .ok (.iconst 0, 1) := by decide +kernel
theorem dL_law_1456 : decode cL_law 1456 = .ok (.ireturn, 1) := by decide +kernel
theorem dL_law_1457 : decode cL_law 1457 = .ok (.goto 671, 3) := by decide +kernel
theorem dL_law_1460 : decode cL_law 1460 = .ok (.aload_n 1, 1) := by decide +kernel
theorem dL_law_1461 : decode cL_law 1461 = .ok (.aload_n 0, 1) := by decide +kernel
theorem dL_law_1462 : decode cL_law 1462 = .ok (.iload 5, 2) := by decide +kernel
theorem dL_law_1464 : decode cL_law 1464 = .ok (.iconst 1, 1) := by decide +kernel
theorem dL_law_1465 : decode cL_law 1465 = .ok (.iadd, 1) := by decide +kernel
theorem dL_law_1466 : decode cL_law 1466 = .ok (.iaload, 1) := by decide +kernel
theorem dL_law_1467 : decode cL_law 1467 = .ok (.aload_n 3, 1) := by decide +kernel
theorem dL_law_1468 : decode cL_law 1468 = .ok (.invokestatic 195, 3) := by decide +kernel
theorem dL_law_1471 : decode cL_law 1471 = .ok (.istore 6, 2) := by decide +kernel
theorem dL_law_1473 : decode cL_law 1473 = .ok (.aload_n 2, 1) := by decide +kernel
theorem dL_law_1474 : decode cL_law 1474 = .ok (.aload_n 0, 1) := by decide +kernel
theorem dL_law_1475 : decode cL_law 1475 = .ok (.iload 5, 2) := by decide +kernel
theorem dL_law_1477 : decode cL_law 1477 = .ok (.iconst 1, 1) := by decide +kernel
theorem dL_law_1478 : decode cL_law 1478 = .ok (.iadd, 1) := by decide +kernel
theorem dL_law_1479 : decode cL_law 1479 = .ok (.iaload, 1) := by decide +kernel
theorem dL_law_1480 : decode cL_law 1480 = .ok (.invokevirtual 197, 3) := by decide +kernel
theorem dL_law_1483 : decode cL_law 1483 = .ok (.istore 7, 2) := by decide +kernel
theorem dL_law_1485 : decode cL_law 1485 = .ok (.aload_n 2, 1) := by decide +kernel
theorem dL_law_1486 : decode cL_law 1486 = .ok (.invokevirtual 130, 3) := by decide +kernel
theorem dL_law_1489 : decode cL_law 1489 = .ok (.iload 6, 2) := by decide +kernel
theorem dL_law_1491 : decode cL_law 1491 = .ok (.if_icmp .eq 5, 3) := by decide +kernel
theorem dL_law_1494 : decode cL_law 1494 = .ok (.iconst 0, 1) := by decide +kernel
theorem dL_law_1495 : decode cL_law 1495 = .ok (.ireturn, 1) := by decide +kernel
theorem dL_law_1496 : decode cL_law 1496 = .ok (.iload 6, 2) := by decide +kernel
theorem dL_law_1498 : decode cL_law 1498 = .ok (.ifCond .ne 15, 3) := by decide +kernel
theorem dL_law_1501 : decode cL_law 1501 = .ok (.aload_n 3, 1) := by decide +kernel
theorem dL_law_1502 : decode cL_law 1502 = .ok (.iconst 0, 1) := by decide +kernel
theorem dL_law_1503 : decode cL_law 1503 = .ok (.laload, 1) := by decide +kernel
theorem dL_law_1504 : decode cL_law 1504 = .ok (.iload 7, 2) := by decide +kernel
theorem dL_law_1506 : decode cL_law 1506 = .ok (.i2l, 1) := by decide +kernel
theorem dL_law_1507 : decode cL_law 1507 = .ok (.lcmp, 1) := by decide +kernel
theorem dL_law_1508 : decode cL_law 1508 = .ok (.ifCond .eq 5, 3) := by decide +kernel
theorem dL_law_1511 : decode cL_law 1511 = .ok (.iconst 0, 1) := by decide +kernel
theorem dL_law_1512 : decode cL_law 1512 = .ok (.ireturn, 1) := by decide +kernel
theorem dL_law_1513 : decode cL_law 1513 = .ok (.goto 615, 3) := by decide +kernel
theorem dL_law_1516 : decode cL_law 1516 = .ok (.aload_n 1, 1) := by decide +kernel
theorem dL_law_1517 : decode cL_law 1517 = .ok (.aload_n 0, 1) := by decide +kernel
theorem dL_law_1518 : decode cL_law 1518 = .ok (.iload 5, 2) := by decide +kernel
theorem dL_law_1520 : decode cL_law 1520 = .ok (.iconst 1, 1) := by decide +kernel
theorem dL_law_1521 : decode cL_law 1521 = .ok (.iadd, 1) := by decide +kernel
theorem dL_law_1522 : decode cL_law 1522 = .ok (.iaload, 1) := by decide +kernel
theorem dL_law_1523 : decode cL_law 1523 = .ok (.aload_n 3, 1) := by decide +kernel
theorem dL_law_1524 : decode cL_law 1524 = .ok (.invokestatic 198, 3) := by decide +kernel
theorem dL_law_1527 : decode cL_law 1527 = .ok (.istore 6, 2) := by decide +kernel
theorem dL_law_1529 : decode cL_law 1529 = .ok (.aload_n 2, 1) := by decide +kernel
theorem dL_law_1530 : decode cL_law 1530 = .ok (.aload_n 0, 1) := by decide +kernel
theorem dL_law_1531 : decode cL_law 1531 = .ok (.iload 5, 2) := by decide +kernel
theorem dL_law_1533 : decode cL_law 1533 = .ok (.iconst 1, 1) := by decide +kernel
theorem dL_law_1534 : decode cL_law 1534 = .ok (.iadd, 1) := by decide +kernel
theorem dL_law_1535 : decode cL_law 1535 = .ok (.iaload, 1) := by decide +kernel
theorem dL_law_1536 : decode cL_law 1536 = .ok (.invokevirtual 200, 3) := by decide +kernel
theorem dL_law_1539 : decode cL_law 1539 = .ok (.istore 7, 2) := by decide +kernel
theorem dL_law_1541 : decode cL_law 1541 = .ok (.aload_n 2, 1) := by decide +kernel
theorem dL_law_1542 : decode cL_law 1542 = .ok (.invokevirtual 130, 3) := by decide +kernel
theorem dL_law_1545 : decode cL_law 1545 = .ok (.iload 6, 2) := by decide +kernel
theorem dL_law_1547 : decode cL_law 1547 = .ok (.if_icmp .eq 5, 3) := by decide +kernel
theorem dL_law_1550 : decode cL_law 1550 = .ok (.iconst 0, 1) := by decide +kernel
theorem dL_law_1551 : decode cL_law 1551 = .ok (.ireturn, 1) := by decide +kernel
theorem dL_law_1552 : decode cL_law 1552 = .ok (.iload 6, 2) := by decide +kernel
theorem dL_law_1554 : decode cL_law 1554 = .ok (.ifCond .ne 15, 3) := by decide +kernel
theorem dL_law_1557 : decode cL_law 1557 = .ok (.aload_n 3, 1) := by decide +kernel
theorem dL_law_1558 : decode cL_law 1558 = .ok (.iconst 0, 1) := by decide +kernel
theorem dL_law_1559 : decode cL_law 1559 = .ok (.laload, 1) := by decide +kernel
theorem dL_law_1560 : decode cL_law 1560 = .ok (.iload 7, 2) := by decide +kernel
theorem dL_law_1562 : decode cL_law 1562 = .ok (.i2l, 1) := by decide +kernel
theorem dL_law_1563 : decode cL_law 1563 = .ok (.lcmp, 1) := by decide +kernel
theorem dL_law_1564 : decode cL_law 1564 = .ok (.ifCond .eq 5, 3) := by decide +kernel
theorem dL_law_1567 : decode cL_law 1567 = .ok (.iconst 0, 1) := by decide +kernel
theorem dL_law_1568 : decode cL_law 1568 = .ok (.ireturn, 1) := by decide +kernel
theorem dL_law_1569 : decode cL_law 1569 = .ok (.goto 559, 3) := by decide +kernel
theorem dL_law_1572 : decode cL_law 1572 = .ok (.aload_n 1, 1) := by decide +kernel
theorem dL_law_1573 : decode cL_law 1573 = .ok (.invokevirtual 201, 3) := by decide +kernel
theorem dL_law_1576 : decode cL_law 1576 = .ok (.aload_n 2, 1) := by decide +kernel
theorem dL_law_1577 : decode cL_law 1577 = .ok (.invokevirtual 204, 3) := by decide +kernel
theorem dL_law_1580 : decode cL_law 1580 = .ok (.if_icmp .eq 548, 3) := by decide +kernel
theorem dL_law_1583 : decode cL_law 1583 = .ok (.iconst 0, 1) := by decide +kernel
theorem dL_law_1584 : decode cL_law 1584 = .ok (.ireturn, 1) := by decide +kernel
theorem dL_law_1585 : decode cL_law 1585 = .ok (.aload_n 1, 1) := by decide +kernel
theorem dL_law_1586 : decode cL_law 1586 = .ok (.aload_n 0, 1) := by decide +kernel
theorem dL_law_1587 : decode cL_law 1587 = .ok (.iload 5, 2) := by decide +kernel
theorem dL_law_1589 : decode cL_law 1589 = .ok (.iconst 1, 1) := by decide +kernel
theorem dL_law_1590 : decode cL_law 1590 = .ok (.iadd, 1) := by decide +kernel
theorem dL_law_1591 : decode cL_law 1591 = .ok (.iaload, 1) := by decide +kernel
theorem dL_law_1592 : decode cL_law 1592 = .ok (.aload_n 0, 1) := by decide +kernel
theorem dL_law_1593 : decode cL_law 1593 = .ok (.iload 5, 2) := by decide +kernel
theorem dL_law_1595 : decode cL_law 1595 = .ok (.iconst 2, 1) := by decide +kernel
theorem dL_law_1596 : decode cL_law 1596 = .ok (.iadd, 1) := by decide +kernel
theorem dL_law_1597 : decode cL_law 1597 = .ok (.iaload, 1) := by decide +kernel
theorem dL_law_1598 : decode cL_law 1598 = .ok (.aload_n 3, 1) := by decide +kernel
theorem dL_law_1599 : decode cL_law 1599 = .ok (.invokestatic 205, 3) := by decide +kernel
theorem dL_law_1602 : decode cL_law 1602 = .ok (.istore 6, 2) := by decide +kernel
theorem dL_law_1604 : decode cL_law 1604 = .ok (.aload_n 2, 1) := by decide +kernel
theorem dL_law_1605 : decode cL_law 1605 = .ok (.aload_n 0, 1) := by decide +kernel
theorem dL_law_1606 : decode cL_law 1606 = .ok (.iload 5, 2) := by decide +kernel
theorem dL_law_1608 : decode cL_law 1608 = .ok (.iconst 1, 1) := by decide +kernel
theorem dL_law_1609 : decode cL_law 1609 = .ok (.iadd, 1) := by decide +kernel
theorem dL_law_1610 : decode cL_law 1610 = .ok (.iaload, 1) := by decide +kernel
theorem dL_law_1611 : decode cL_law 1611 = .ok (.aload_n 0, 1) := by decide +kernel
theorem dL_law_1612 : decode cL_law 1612 = .ok (.iload 5, 2) := by decide +kernel
theorem dL_law_1614 : decode cL_law 1614 = .ok (.iconst 2, 1) := by decide +kernel
theorem dL_law_1615 : decode cL_law 1615 = .ok (.iadd, 1) := by decide +kernel
theorem dL_law_1616 : decode cL_law 1616 = .ok (.iaload, 1) := by decide +kernel
theorem dL_law_1617 : decode cL_law 1617 = .ok (.invokevirtual 207, 3) := by decide +kernel
theorem dL_law_1620 : decode cL_law 1620 = .ok (.istore 7, 2) := by decide +kernel
theorem dL_law_1622 : decode cL_law 1622 = .ok (.aload_n 2, 1) := by decide +kernel
theorem dL_law_1623 : decode cL_law 1623 = .ok (.invokevirtual 130, 3) := by decide +kernel
theorem dL_law_1626 : decode cL_law 1626 = .ok (.iload 6, 2) := by decide +kernel
theorem dL_law_1628 : decode cL_law 1628 = .ok (.if_icmp .eq 5, 3) := by decide +kernel
theorem dL_law_1631 : decode cL_law 1631 = .ok (.iconst 0, 1) := by decide +kernel
theorem dL_law_1632 : decode cL_law 1632 = .ok (.ireturn, 1) := by decide +kernel
theorem dL_law_1633 : decode cL_law 1633 = .ok (.iload 6, 2) := by decide +kernel
theorem dL_law_1635 : decode cL_law 1635 = .ok (.ifCond .ne 15, 3) := by decide +kernel
theorem dL_law_1638 : decode cL_law 1638 = .ok (.aload_n 3, 1) := by decide +kernel
theorem dL_law_1639 : decode cL_law 1639 = .ok (.iconst 0, 1) := by decide +kernel
theorem dL_law_1640 : decode cL_law 1640 = .ok (.laload, 1) := by decide +kernel
theorem dL_law_1641 : decode cL_law 1641 = .ok (.iload 7, 2) := by decide +kernel
theorem dL_law_1643 : decode cL_law 1643 = .ok (.i2l, 1) := by decide +kernel
theorem dL_law_1644 : decode cL_law 1644 = .ok (.lcmp, 1) := by decide +kernel
theorem dL_law_1645 : decode cL_law 1645 = .ok (.ifCond .eq 5, 3) := by decide +kernel
theorem dL_law_1648 : decode cL_law 1648 = .ok (.iconst 0, 1) := by decide +kernel
theorem dL_law_1649 : decode cL_law 1649 = .ok (.ireturn, 1) := by decide +kernel
theorem dL_law_1650 : decode cL_law 1650 = .ok (.goto 478, 3) := by decide +kernel
theorem dL_law_1653 : decode cL_law 1653 = .ok (.aload_n 1, 1) := by decide +kernel
theorem dL_law_1654 : decode cL_law 1654 = .ok (.aload_n 0, 1) := by decide +kernel
theorem dL_law_1655 : decode cL_law 1655 = .ok (.iload 5, 2) := by decide +kernel
theorem dL_law_1657 : decode cL_law 1657 = .ok (.iconst 1, 1) := by decide +kernel
theorem dL_law_1658 : decode cL_law 1658 = .ok (.iadd, 1) := by decide +kernel
theorem dL_law_1659 : decode cL_law 1659 = .ok (.iaload, 1) := by decide +kernel
theorem dL_law_1660 : decode cL_law 1660 = .ok (.aload_n 3, 1) := by decide +kernel
theorem dL_law_1661 : decode cL_law 1661 = .ok (.invokestatic 208, 3) := by decide +kernel
theorem dL_law_1664 : decode cL_law 1664 = .ok (.istore 6, 2) := by decide +kernel
theorem dL_law_1666 : decode cL_law 1666 = .ok (.aload_n 2, 1) := by decide +kernel
theorem dL_law_1667 : decode cL_law 1667 = .ok (.aload_n 0, 1) := by decide +kernel
theorem dL_law_1668 : decode cL_law 1668 = .ok (.iload 5, 2) := by decide +kernel
theorem dL_law_1670 : decode cL_law 1670 = .ok (.iconst 1, 1) := by decide +kernel
theorem dL_law_1671 : decode cL_law 1671 = .ok (.iadd, 1) := by decide +kernel
theorem dL_law_1672 : decode cL_law 1672 = .ok (.iaload, 1) := by decide +kernel
theorem dL_law_1673 : decode cL_law 1673 = .ok (.invokevirtual 210, 3) := by decide +kernel
theorem dL_law_1676 : decode cL_law 1676 = .ok (.istore 7, 2) := by decide +kernel
theorem dL_law_1678 : decode cL_law 1678 = .ok (.aload_n 2, 1) := by decide +kernel
theorem dL_law_1679 : decode cL_law 1679 = .ok (.invokevirtual 130, 3) := by decide +kernel
theorem dL_law_1682 : decode cL_law 1682 = .ok (.iload 6, 2) := by decide +kernel
theorem dL_law_1684 : decode cL_law 1684 = .ok (.if_icmp .eq 5, 3) := by decide +kernel
theorem dL_law_1687 : decode cL_law 1687 = .ok (.iconst 0, 1) := by decide +kernel
theorem dL_law_1688 : decode cL_law 1688 = .ok (.ireturn, 1) := by decide +kernel
theorem dL_law_1689 : decode cL_law 1689 = .ok (.iload 6, 2) := by decide +kernel
theorem dL_law_1691 : decode cL_law 1691 = .ok (.ifCond .ne 15, 3) := by decide +kernel
theorem dL_law_1694 : decode cL_law 1694 = .ok (.aload_n 3, 1) := by decide +kernel
theorem dL_law_1695 : decode cL_law 1695 = .ok (.iconst 0, 1) := by decide +kernel
theorem dL_law_1696 : decode cL_law 1696 = .ok (.laload, 1) := by decide +kernel
theorem dL_law_1697 : decode cL_law 1697 = .ok (.iload 7, 2) := by decide +kernel
theorem dL_law_1699 : decode cL_law 1699 = .ok (.i2l, 1) := by decide +kernel
theorem dL_law_1700 : decode cL_law 1700 = .ok (.lcmp, 1) := by decide +kernel
theorem dL_law_1701 : decode cL_law 1701 = .ok (.ifCond .eq 5, 3) := by decide +kernel
theorem dL_law_1704 : decode cL_law 1704 = .ok (.iconst 0, 1) := by decide +kernel
theorem dL_law_1705 : decode cL_law 1705 = .ok (.ireturn, 1) := by decide +kernel
theorem dL_law_1706 : decode cL_law 1706 = .ok (.goto 422, 3) := by decide +kernel
theorem dL_law_1709 : decode cL_law 1709 = .ok (.aload_n 1, 1) := by decide +kernel
theorem dL_law_1710 : decode cL_law 1710 = .ok (.aload_n 0, 1) := by decide +kernel
theorem dL_law_1711 : decode cL_law 1711 = .ok (.iload 5, 2) := by decide +kernel
theorem dL_law_1713 : decode cL_law 1713 = .ok (.iconst 1, 1) := by decide +kernel
theorem dL_law_1714 : decode cL_law 1714 = .ok (.iadd, 1) := by decide +kernel
theorem dL_law_1715 : decode cL_law 1715 = .ok (.iaload, 1) := by decide +kernel
theorem dL_law_1716 : decode cL_law 1716 = .ok (.aload_n 3, 1) := by decide +kernel
theorem dL_law_1717 : decode cL_law 1717 = .ok (.invokestatic 211, 3) := by decide +kernel
theorem dL_law_1720 : decode cL_law 1720 = .ok (.istore 6, 2) := by decide +kernel
theorem dL_law_1722 : decode cL_law 1722 = .ok (.aload_n 2, 1) := by decide +kernel
theorem dL_law_1723 : decode cL_law 1723 = .ok (.aload_n 0, 1) := by decide +kernel
theorem dL_law_1724 : decode cL_law 1724 = .ok (.iload 5, 2) := by decide +kernel
theorem dL_law_1726 : decode cL_law 1726 = .ok (.iconst 1, 1) := by decide +kernel
theorem dL_law_1727 : decode cL_law 1727 = .ok (.iadd, 1) := by decide +kernel
theorem dL_law_1728 : decode cL_law 1728 = .ok (.iaload, 1) := by decide +kernel
theorem dL_law_1729 : decode cL_law 1729 = .ok (.invokevirtual 213, 3) := by decide +kernel
theorem dL_law_1732 : decode cL_law 1732 = .ok (.istore 7, 2) := by decide +kernel
theorem dL_law_1734 : decode cL_law 1734 = .ok (.aload_n 2, 1) := by decide +kernel
theorem dL_law_1735 : decode cL_law 1735 = .ok (.invokevirtual 130, 3) := by decide +kernel
theorem dL_law_1738 : decode cL_law 1738 = .ok (.iload 6, 2) := by decide +kernel
theorem dL_law_1740 : decode cL_law 1740 = .ok (.if_icmp .eq 5, 3) := by decide +kernel
theorem dL_law_1743 : decode cL_law 1743 = .ok (.iconst 0, 1) := by decide +kernel
theorem dL_law_1744 : decode cL_law 1744 = .ok (.ireturn, 1) := by decide +kernel
theorem dL_law_1745 : decode cL_law 1745 = .ok (.iload 6, 2) := by decide +kernel
theorem dL_law_1747 : decode cL_law 1747 = .ok (.ifCond .ne 15, 3) := by decide +kernel
theorem dL_law_1750 : decode cL_law 1750 = .ok (.aload_n 3, 1) := by decide +kernel
theorem dL_law_1751 : decode cL_law 1751 = .ok (.iconst 0, 1) := by decide +kernel
theorem dL_law_1752 : decode cL_law 1752 = .ok (.laload, 1) := by decide +kernel
theorem dL_law_1753 : decode cL_law 1753 = .ok (.iload 7, 2) := by decide +kernel
theorem dL_law_1755 : decode cL_law 1755 = .ok (.i2l, 1) := by decide +kernel
theorem dL_law_1756 : decode cL_law 1756 = .ok (.lcmp, 1) := by decide +kernel
theorem dL_law_1757 : decode cL_law 1757 = .ok (.ifCond .eq 5, 3) := by decide +kernel
theorem dL_law_1760 : decode cL_law 1760 = .ok (.iconst 0, 1) := by decide +kernel
theorem dL_law_1761 : decode cL_law 1761 = .ok (.ireturn, 1) := by decide +kernel
theorem dL_law_1762 : decode cL_law 1762 = .ok (.goto 366, 3) := by decide +kernel
theorem dL_law_1765 : decode cL_law 1765 = .ok (.aload_n 1, 1) := by decide +kernel
theorem dL_law_1766 : decode cL_law 1766 = .ok (.aload_n 3, 1) := by decide +kernel
theorem dL_law_1767 : decode cL_law 1767 = .ok (.invokestatic 214, 3) := by decide +kernel
theorem dL_law_1770 : decode cL_law 1770 = .ok (.istore 6, 2) := by decide +kernel
theorem dL_law_1772 : decode cL_law 1772 = .ok (.aload_n 2, 1) := by decide +kernel
theorem dL_law_1773 : decode cL_law 1773 = .ok (.invokevirtual 217, 3) := by decide +kernel
theorem dL_law_1776 : decode cL_law 1776 = .ok (.istore 7, 2) := by decide +kernel
theorem dL_law_1778 : decode cL_law 1778 = .ok (.aload_n 2, 1) := by decide +kernel
theorem dL_law_1779 : decode cL_law 1779 = .ok (.invokevirtual 130, 3) := by decide +kernel
theorem dL_law_1782 : decode cL_law 1782 = .ok (.iload 6, 2) := by decide +kernel
theorem dL_law_1784 : decode cL_law 1784 = .ok (.if_icmp .eq 5, 3) := by decide +kernel
theorem dL_law_1787 : decode cL_law 1787 = .ok (.iconst 0, 1) := by decide +kernel
theorem dL_law_1788 : decode cL_law 1788 = .ok (.ireturn, 1) := by decide +kernel
theorem dL_law_1789 : decode cL_law 1789 = .ok (.iload 6, 2) := by decide +kernel
theorem dL_law_1791 : decode cL_law 1791 = .ok (.ifCond .ne 15, 3) := by decide +kernel
theorem dL_law_1794 : decode cL_law 1794 = .ok (.aload_n 3, 1) := by decide +kernel
theorem dL_law_1795 : decode cL_law 1795 = .ok (.iconst 0, 1) := by decide +kernel
theorem dL_law_1796 : decode cL_law 1796 = .ok (.laload, 1) := by decide +kernel
theorem dL_law_1797 : decode cL_law 1797 = .ok (.iload 7, 2) := by decide +kernel
theorem dL_law_1799 : decode cL_law 1799 = .ok (.i2l, 1) := by decide +kernel
theorem dL_law_1800 : decode cL_law 1800 = .ok (.lcmp, 1) := by decide +kernel
theorem dL_law_1801 : decode cL_law 1801 = .ok (.ifCond .eq 5, 3) := by decide +kernel
theorem dL_law_1804 : decode cL_law 1804 = .ok (.iconst 0, 1) := by decide +kernel
theorem dL_law_1805 : decode cL_law 1805 = .ok (.ireturn, 1) := by decide +kernel
theorem dL_law_1806 : decode cL_law 1806 = .ok (.goto 322, 3) := by decide +kernel
theorem dL_law_1809 : decode cL_law 1809 = .ok (.aload_n 1, 1) := by decide +kernel
theorem dL_law_1810 : decode cL_law 1810 = .ok (.aload_n 3, 1) := by decide +kernel
theorem dL_law_1811 : decode cL_law 1811 = .ok (.invokestatic 218, 3) := by decide +kernel
theorem dL_law_1814 : decode cL_law 1814 = .ok (.istore 6, 2) := by decide +kernel
theorem dL_law_1816 : decode cL_law 1816 = .ok (.aload_n 2, 1) := by decide +kernel
theorem dL_law_1817 : decode cL_law 1817 = .ok (.invokevirtual 220, 3) := by decide +kernel
theorem dL_law_1820 : decode cL_law 1820 = .ok (.istore 7, 2) := by decide +kernel
theorem dL_law_1822 : decode cL_law 1822 = .ok (.aload_n 2, 1) := by decide +kernel
theorem dL_law_1823 : decode cL_law 1823 = .ok (.invokevirtual 130, 3) := by decide +kernel
theorem dL_law_1826 : decode cL_law 1826 = .ok (.iload 6, 2) := by decide +kernel
theorem dL_law_1828 : decode cL_law 1828 = .ok (.if_icmp .eq 5, 3) := by decide +kernel
theorem dL_law_1831 : decode cL_law 1831 = .ok (.iconst 0, 1) := by decide +kernel
theorem dL_law_1832 : decode cL_law 1832 = .ok (.ireturn, 1) := by decide +kernel
theorem dL_law_1833 : decode cL_law 1833 = .ok (.iload 6, 2) := by decide +kernel
theorem dL_law_1835 : decode cL_law 1835 = .ok (.ifCond .ne 15, 3) := by decide +kernel
theorem dL_law_1838 : decode cL_law 1838 = .ok (.aload_n 3, 1) := by decide +kernel
theorem dL_law_1839 : decode cL_law 1839 = .ok (.iconst 0, 1) := by decide +kernel
theorem dL_law_1840 : decode cL_law 1840 = .ok (.laload, 1) := by decide +kernel
theorem dL_law_1841 : decode cL_law 1841 = .ok (.iload 7, 2) := by decide +kernel
theorem dL_law_1843 : decode cL_law 1843 = .ok (.i2l, 1) := by decide +kernel
theorem dL_law_1844 : decode cL_law 1844 = .ok (.lcmp, 1) := by decide +kernel
theorem dL_law_1845 : decode cL_law 1845 = .ok (.ifCond .eq 5, 3) := by decide +kernel
theorem dL_law_1848 : decode cL_law 1848 = .ok (.iconst 0, 1) := by decide +kernel
theorem dL_law_1849 : decode cL_law 1849 = .ok (.ireturn, 1) := by decide +kernel
theorem dL_law_1850 : decode cL_law 1850 = .ok (.goto 278, 3) := by decide +kernel
theorem dL_law_1853 : decode cL_law 1853 = .ok (.aload_n 1, 1) := by decide +kernel
theorem dL_law_1854 : decode cL_law 1854 = .ok (.aload_n 0, 1) := by decide +kernel
theorem dL_law_1855 : decode cL_law 1855 = .ok (.iload 5, 2) := by decide +kernel
theorem dL_law_1857 : decode cL_law 1857 = .ok (.iconst 1, 1) := by decide +kernel
theorem dL_law_1858 : decode cL_law 1858 = .ok (.iadd, 1) := by decide +kernel
theorem dL_law_1859 : decode cL_law 1859 = .ok (.iaload, 1) := by decide +kernel
theorem dL_law_1860 : decode cL_law 1860 = .ok (.aload_n 0, 1) := by decide +kernel
theorem dL_law_1861 : decode cL_law 1861 = .ok (.iload 5, 2) := by decide +kernel
theorem dL_law_1863 : decode cL_law 1863 = .ok (.iconst 2, 1) := by decide +kernel
theorem dL_law_1864 : decode cL_law 1864 = .ok (.iadd, 1) := by decide +kernel
theorem dL_law_1865 : decode cL_law 1865 = .ok (.iaload, 1) := by decide +kernel
theorem dL_law_1866 : decode cL_law 1866 = .ok (.aload_n 3, 1) := by decide +kernel
theorem dL_law_1867 : decode cL_law 1867 = .ok (.invokestatic 221, 3) := by decide +kernel
theorem dL_law_1870 : decode cL_law 1870 = .ok (.istore 6, 2) := by decide +kernel
theorem dL_law_1872 : decode cL_law 1872 = .ok (.aload_n 2, 1) := by decide +kernel
theorem dL_law_1873 : decode cL_law 1873 = .ok (.aload_n 0, 1) := by decide +kernel
theorem dL_law_1874 : decode cL_law 1874 = .ok (.iload 5, 2) := by decide +kernel
theorem dL_law_1876 : decode cL_law 1876 = .ok (.iconst 1, 1) := by decide +kernel
theorem dL_law_1877 : decode cL_law 1877 = .ok (.iadd, 1) := by decide +kernel
theorem dL_law_1878 : decode cL_law 1878 = .ok (.iaload, 1) := by decide +kernel
theorem dL_law_1879 : decode cL_law 1879 = .ok (.aload_n 0, 1) := by decide +kernel
theorem dL_law_1880 : decode cL_law 1880 = .ok (.iload 5, 2) := by decide +kernel
theorem dL_law_1882 : decode cL_law 1882 = .ok (.iconst 2, 1) := by decide +kernel
theorem dL_law_1883 : decode cL_law 1883 = .ok (.iadd, 1) := by decide +kernel
theorem dL_law_1884 : decode cL_law 1884 = .ok (.iaload, 1) := by decide +kernel
theorem dL_law_1885 : decode cL_law 1885 = .ok (.invokevirtual 223, 3) := by decide +kernel
theorem dL_law_1888 : decode cL_law 1888 = .ok (.istore 7, 2) := by decide +kernel
theorem dL_law_1890 : decode cL_law 1890 = .ok (.aload_n 2, 1) := by decide +kernel
theorem dL_law_1891 : decode cL_law 1891 = .ok (.invokevirtual 130, 3) := by decide +kernel
theorem dL_law_1894 : decode cL_law 1894 = .ok (.iload 6, 2) := by decide +kernel
theorem dL_law_1896 : decode cL_law 1896 = .ok (.if_icmp .eq 5, 3) := by decide +kernel
theorem dL_law_1899 : decode cL_law 1899 = .ok (.iconst 0, 1) := by decide +kernel
theorem dL_law_1900 : decode cL_law 1900 = .ok (.ireturn, 1) := by decide +kernel
theorem dL_law_1901 : decode cL_law 1901 = .ok (.iload 6, 2) := by decide +kernel
theorem dL_law_1903 : decode cL_law 1903 = .ok (.ifCond .ne 22, 3) := by decide +kernel
theorem dL_law_1906 : decode cL_law 1906 = .ok (.aload_n 3, 1) := by decide +kernel
theorem dL_law_1907 : decode cL_law 1907 = .ok (.iconst 0, 1) := by decide +kernel
theorem dL_law_1908 : decode cL_law 1908 = .ok (.laload, 1) := by decide +kernel
theorem dL_law_1909 : decode cL_law 1909 = .ok (.iload 7, 2) := by decide +kernel
theorem dL_law_1911 : decode cL_law 1911 = .ok (.ifCond .eq 7, 3) := by decide +kernel
theorem dL_law_1914 : decode cL_law 1914 = .ok (.lconst 1, 1) := by decide +kernel
theorem dL_law_1915 : decode cL_law 1915 = .ok (.goto 4, 3) := by decide +kernel
theorem dL_law_1918 : decode cL_law 1918 = .ok (.lconst 0, 1) := by decide +kernel
theorem dL_law_1919 : decode cL_law 1919 = .ok (.lcmp, 1) := by decide +kernel
theorem dL_law_1920 : decode cL_law 1920 = .ok (.ifCond .eq 5, 3) := by decide +kernel
theorem dL_law_1923 : decode cL_law 1923 = .ok (.iconst 0, 1) := by decide +kernel
theorem dL_law_1924 : decode cL_law 1924 = .ok (.ireturn, 1) := by decide +kernel
theorem dL_law_1925 : decode cL_law 1925 = .ok (.goto 203, 3) := by decide +kernel
theorem dL_law_1928 : decode cL_law 1928 = .ok (.aload_n 1, 1) := by decide +kernel
theorem dL_law_1929 : decode cL_law 1929 = .ok (.aload_n 0, 1) := by decide +kernel
theorem dL_law_1930 : decode cL_law 1930 = .ok (.iload 5, 2) := by decide +kernel
theorem dL_law_1932 : decode cL_law 1932 = .ok (.iconst 1, 1) := by decide +kernel
theorem dL_law_1933 : decode cL_law 1933 = .ok (.iadd, 1) := by decide +kernel
theorem dL_law_1934 : decode cL_law 1934 = .ok (.iaload, 1) := by decide +kernel
theorem dL_law_1935 : decode cL_law 1935 = .ok (.aload_n 3, 1) := by decide +kernel
theorem dL_law_1936 : decode cL_law 1936 = .ok (.invokestatic 224, 3) := by decide +kernel
theorem dL_law_1939 : decode cL_law 1939 = .ok (.istore 6, 2) := by decide +kernel
theorem dL_law_1941 : decode cL_law 1941 = .ok (.aload_n 2, 1) := by decide +kernel
theorem dL_law_1942 : decode cL_law 1942 = .ok (.aload_n 0, 1) := by decide +kernel
theorem dL_law_1943 : decode cL_law 1943 = .ok (.iload 5, 2) := by decide +kernel
theorem dL_law_1945 : decode cL_law 1945 = .ok (.iconst 1, 1) := by decide +kernel
theorem dL_law_1946 : decode cL_law 1946 = .ok (.iadd, 1) := by decide +kernel
theorem dL_law_1947 : decode cL_law 1947 = .ok (.iaload, 1) := by decide +kernel
theorem dL_law_1948 : decode cL_law 1948 = .ok (.invokevirtual 226, 3) := by decide +kernel
theorem dL_law_1951 : decode cL_law 1951 = .ok (.istore 7, 2) := by decide +kernel
theorem dL_law_1953 : decode cL_law 1953 = .ok (.aload_n 2, 1) := by decide +kernel
theorem dL_law_1954 : decode cL_law 1954 = .ok (.invokevirtual 130, 3) := by decide +kernel
theorem dL_law_1957 : decode cL_law 1957 = .ok (.iload 6, 2) := by decide +kernel
theorem dL_law_1959 : decode cL_law 1959 = .ok (.if_icmp .eq 5, 3) := by decide +kernel
theorem dL_law_1962 : decode cL_law 1962 = .ok (.iconst 0, 1) := by decide +kernel
theorem dL_law_1963 : decode cL_law 1963 = .ok (.ireturn, 1) := by decide +kernel
theorem dL_law_1964 : decode cL_law 1964 = .ok (.iload 6, 2) := by decide +kernel
theorem dL_law_1966 : decode cL_law 1966 = .ok (.ifCond .ne 15, 3) := by decide +kernel
theorem dL_law_1969 : decode cL_law 1969 = .ok (.aload_n 3, 1) := by decide +kernel
theorem dL_law_1970 : decode cL_law 1970 = .ok (.iconst 0, 1) := by decide +kernel
theorem dL_law_1971 : decode cL_law 1971 = .ok (.laload, 1) := by decide +kernel
theorem dL_law_1972 : decode cL_law 1972 = .ok (.iload 7, 2) := by decide +kernel
theorem dL_law_1974 : decode cL_law 1974 = .ok (.i2l, 1) := by decide +kernel
theorem dL_law_1975 : decode cL_law 1975 = .ok (.lcmp, 1) := by decide +kernel
theorem dL_law_1976 : decode cL_law 1976 = .ok (.ifCond .eq 5, 3) := by decide +kernel
theorem dL_law_1979 : decode cL_law 1979 = .ok (.iconst 0, 1) := by decide +kernel
theorem dL_law_1980 : decode cL_law 1980 = .ok (.ireturn, 1) := by decide +kernel
theorem dL_law_1981 : decode cL_law 1981 = .ok (.goto 147, 3) := by decide +kernel
theorem dL_law_1984 : decode cL_law 1984 = .ok (.aload_n 1, 1) := by decide +kernel
theorem dL_law_1985 : decode cL_law 1985 = .ok (.aload 4, 2) := by decide +kernel
theorem dL_law_1987 : decode cL_law 1987 = .ok (.invokestatic 227, 3) := by decide +kernel
theorem dL_law_1990 : decode cL_law 1990 = .ok (.istore 6, 2) := by decide +kernel
theorem dL_law_1992 : decode cL_law 1992 = .ok (.aload_n 2, 1) := by decide +kernel
theorem dL_law_1993 : decode cL_law 1993 = .ok (.invokevirtual 230, 3) := by decide +kernel
theorem dL_law_1996 : decode cL_law 1996 = .ok (.fstore 7, 2) := by decide +kernel
theorem dL_law_1998 : decode cL_law 1998 = .ok (.aload_n 2, 1) := by decide +kernel
theorem dL_law_1999 : decode cL_law 1999 = .ok (.invokevirtual 130, 3) := by decide +kernel
theorem dL_law_2002 : decode cL_law 2002 = .ok (.iload 6, 2) := by decide +kernel
theorem dL_law_2004 : decode cL_law 2004 = .ok (.if_icmp .eq 5, 3) := by decide +kernel
theorem dL_law_2007 : decode cL_law 2007 = .ok (.iconst 0, 1) := by decide +kernel
theorem dL_law_2008 : decode cL_law 2008 = .ok (.ireturn, 1) := by decide +kernel
theorem dL_law_2009 : decode cL_law 2009 = .ok (.iload 6, 2) := by decide +kernel
theorem dL_law_2011 : decode cL_law 2011 = .ok (.ifCond .ne 36, 3) := by decide +kernel
theorem dL_law_2014 : decode cL_law 2014 = .ok (.aload 4, 2) := by decide +kernel
theorem dL_law_2016 : decode cL_law 2016 = .ok (.iconst 0, 1) := by decide +kernel
theorem dL_law_2017 : decode cL_law 2017 = .ok (.daload, 1) := by decide +kernel
theorem dL_law_2018 : decode cL_law 2018 = .ok (.fload 7, 2) := by decide +kernel
theorem dL_law_2020 : decode cL_law 2020 = .ok (.f2d, 1) := by decide +kernel
theorem dL_law_2021 : decode cL_law 2021 = .ok (.dcmp .l, 1) := by decide +kernel
theorem dL_law_2022 : decode cL_law 2022 = .ok (.ifCond .eq 25, 3) := by decide +kernel
theorem dL_law_2025 : decode cL_law 2025 = .ok (.aload 4, 2) := by decide +kernel
theorem dL_law_2027 : decode cL_law 2027 = .ok (.iconst 0, 1) := by decide +kernel
theorem dL_law_2028 : decode cL_law 2028 = .ok (.daload, 1) := by decide +kernel
theorem dL_law_2029 : decode cL_law 2029 = .ok (.aload 4, 2) := by decide +kernel
theorem dL_law_2031 : decode cL_law 2031 = .ok (.iconst 0, 1) := by decide +kernel
theorem dL_law_2032 : decode cL_law 2032 = .ok (.daload, 1) := by decide +kernel
theorem dL_law_2033 : decode cL_law 2033 = .ok (.dcmp .l, 1) := by decide +kernel
theorem dL_law_2034 : decode cL_law 2034 = .ok (.ifCond .eq 11, 3) := by decide +kernel
theorem dL_law_2037 : decode cL_law 2037 = .ok (.fload 7, 2) := by decide +kernel
theorem dL_law_2039 : decode cL_law 2039 = .ok (.fload 7, 2) := by decide +kernel
theorem dL_law_2041 : decode cL_law 2041 = .ok (.fcmp .l, 1) := by decide +kernel
theorem dL_law_2042 : decode cL_law 2042 = .ok (.ifCond .ne 5, 3) := by decide +kernel
theorem dL_law_2045 : decode cL_law 2045 = .ok (.iconst 0, 1) := by decide +kernel
theorem dL_law_2046 : decode cL_law 2046 = .ok (.ireturn, 1) := by decide +kernel
theorem dL_law_2047 : decode cL_law 2047 = .ok (.goto 81, 3) := by decide +kernel
theorem dL_law_2050 : decode cL_law 2050 = .ok (.aload_n 1, 1) := by decide +kernel
theorem dL_law_2051 : decode cL_law 2051 = .ok (.aload 4, 2) := by decide +kernel
theorem dL_law_2053 : decode cL_law 2053 = .ok (.invokestatic 231, 3) := by decide +kernel
theorem dL_law_2056 : decode cL_law 2056 = .ok (.istore 6, 2) := by decide +kernel
theorem dL_law_2058 : decode cL_law 2058 = .ok (.aload_n 2, 1) := by decide +kernel
theorem dL_law_2059 : decode cL_law 2059 = .ok (.invokevirtual 233, 3) := by decide +kernel
theorem dL_law_2062 : decode cL_law 2062 = .ok (.dstore 7, 2) := by decide +kernel
theorem dL_law_2064 : decode cL_law 2064 = .ok (.aload_n 2, 1) := by decide +kernel
theorem dL_law_2065 : decode cL_law 2065 = .ok (.invokevirtual 130, 3) := by decide +kernel
theorem dL_law_2068 : decode cL_law 2068 = .ok (.iload 6, 2) := by decide +kernel
theorem dL_law_2070 : decode cL_law 2070 = .ok (.if_icmp .eq 5, 3) := by decide +kernel
theorem dL_law_2073 : decode cL_law 2073 = .ok (.iconst 0, 1) := by decide +kernel
theorem dL_law_2074 : decode cL_law 2074 = .ok (.ireturn, 1) := by decide +kernel
theorem dL_law_2075 : decode cL_law 2075 = .ok (.iload 6, 2) := by decide +kernel
theorem dL_law_2077 : decode cL_law 2077 = .ok (.ifCond .ne 35, 3) := by decide +kernel
theorem dL_law_2080 : decode cL_law 2080 = .ok (.aload 4, 2) := by decide +kernel
theorem dL_law_2082 : decode cL_law 2082 = .ok (.iconst 0, 1) := by decide +kernel
theorem dL_law_2083 : decode cL_law 2083 = .ok (.daload, 1) := by decide +kernel
theorem dL_law_2084 : decode cL_law 2084 = .ok (.dload 7, 2) := by decide +kernel
theorem dL_law_2086 : decode cL_law 2086 = .ok (.dcmp .l, 1) := by decide +kernel
theorem dL_law_2087 : decode cL_law 2087 = .ok (.ifCond .eq 25, 3) := by decide +kernel
theorem dL_law_2090 : decode cL_law 2090 = .ok (.aload 4, 2) := by decide +kernel
theorem dL_law_2092 : decode cL_law 2092 = .ok (.iconst 0, 1) := by decide +kernel
theorem dL_law_2093 : decode cL_law 2093 = .ok (.daload, 1) := by decide +kernel
theorem dL_law_2094 : decode cL_law 2094 = .ok (.aload 4, 2) := by decide +kernel
theorem dL_law_2096 : decode cL_law 2096 = .ok (.iconst 0, 1) := by decide +kernel
theorem dL_law_2097 : decode cL_law 2097 = .ok (.daload, 1) := by decide +kernel
theorem dL_law_2098 : decode cL_law 2098 = .ok (.dcmp .l, 1) := by decide +kernel
theorem dL_law_2099 : decode cL_law 2099 = .ok (.ifCond .eq 11, 3) := by decide +kernel
theorem dL_law_2102 : decode cL_law 2102 = .ok (.dload 7, 2) := by decide +kernel
theorem dL_law_2104 : decode cL_law 2104 = .ok (.dload 7, 2) := by decide +kernel
theorem dL_law_2106 : decode cL_law 2106 = .ok (.dcmp .l, 1) := by decide +kernel
theorem dL_law_2107 : decode cL_law 2107 = .ok (.ifCond .ne 5, 3) := by decide +kernel
theorem dL_law_2110 : decode cL_law 2110 = .ok (.iconst 0, 1) := by decide +kernel
theorem dL_law_2111 : decode cL_law 2111 = .ok (.ireturn, 1) := by decide +kernel
theorem dL_law_2112 : decode cL_law 2112 = .ok (.goto 16, 3) := by decide +kernel
theorem dL_law_2115 : decode cL_law 2115 = .ok (.aload_n 1, 1) := by decide +kernel
theorem dL_law_2116 : decode cL_law 2116 = .ok (.invokevirtual 234, 3) := by decide +kernel
theorem dL_law_2119 : decode cL_law 2119 = .ok (.aload_n 2, 1) := by decide +kernel
theorem dL_law_2120 : decode cL_law 2120 = .ok (.invokevirtual 238, 3) := by decide +kernel
theorem dL_law_2123 : decode cL_law 2123 = .ok (.if_icmp .eq 5, 3) := by decide +kernel
theorem dL_law_2126 : decode cL_law 2126 = .ok (.iconst 0, 1) := by decide +kernel
theorem dL_law_2127 : decode cL_law 2127 = .ok (.ireturn, 1) := by decide +kernel
theorem dL_law_2128 : decode cL_law 2128 = .ok (.iinc 5 5, 3) := by decide +kernel
theorem dL_law_2131 : decode cL_law 2131 = .ok (.goto (-2103), 3) := by decide +kernel
theorem dL_law_2134 : decode cL_law 2134 = .ok (.iconst 1, 1) := by decide +kernel
theorem dL_law_2135 : decode cL_law 2135 = .ok (.ireturn, 1) := by decide +kernel
end
section
/-! THE LAYER: the state as one function of numbers, the world's cells read off it by a shape, one judgement JW over it -/
section WL
abbrev wZ : Type := Nat → Int → Int
def zp (z : wZ) (k : Nat) (a x : Int) : wZ := fun k' a' => if k' = k ∧ a' = a then x else z k' a'
abbrev vi (a : Int) : Value := .int (Int32.ofInt a)
/-- a field: a reference to a cell, or the number at a place -/
abbrev wF : Type := Nat ⊕ (Nat × Int)
/-- a cell: an object of a class, or an array: its type, its length, its place -/
abbrev wC : Type := (Nat × List wF) ⊕ (Nat × Nat × Nat)
def wfv (ad : Nat → Nat) (z : wZ) (f : wF) : Value := match f with
  | .inl n => .ref (ad n)
  | .inr q => vi (z q.1 q.2)
def wrow (z : wZ) (k : Nat) : Nat → Int32 := fun j => Int32.ofInt (z k (j : Int))
def wce (aC : Nat → ClassId) (ad : Nat → Nat) (z : wZ) (c : wC) : va_E := match c with
  | .inl o => .inr (o.1, o.2.map (wfv ad z))
  | .inr a => .inl (aC a.1, (a.2.1, .inl (wrow z a.2.2)))
abbrev wSh : Type := List (Nat × wC)
def wd (aC : Nat → ClassId) (ad : Nat → Nat) (sh : wSh) (z : wZ) : va_W := sh.map (fun q => (ad q.1, wce aC ad z q.2))
def wty (aC : Nat → ClassId) : List (ClassId × FieldType) := [(aC 0, .int), (aC 1, .boolean), (aC 2, .char), (aC 3, .long), (aC 4, .double)]
def wAd (ad : Nat → Nat) (sh : wSh) (sz : Nat) : Nat → Prop := fun q => (∃ c, c ∈ sh ∧ ad c.1 = q) ∨ sz ≤ q
def wDi (ad : Nat → Nat) (sh : wSh) : Prop := ∀ (i j : Nat) (p q : Nat × wC), sh[i]? = some p → sh[j]? = some q → ad p.1 = ad q.1 → i = j
theorem wd_get {aC : Nat → ClassId} {ad : Nat → Nat} {sh : wSh} {z : wZ} {i : Nat} {q : Nat × wC} (h : sh[i]? = some q) : (wd aC ad sh z)[i]? = some (ad q.1, wce aC ad z q.2) := by
  simp [wd, List.getElem?_map, h]
theorem wd_inv {aC : Nat → ClassId} {ad : Nat → Nat} {sh : wSh} {z : wZ} {i : Nat} {w : Nat × va_E} (h : (wd aC ad sh z)[i]? = some w) : ∃ q, sh[i]? = some q ∧ w = (ad q.1, wce aC ad z q.2) := by
  simp only [wd, List.getElem?_map] at h
  cases hq : sh[i]? with
  | none => rw [hq] at h; cases h
  | some q => rw [hq] at h; cases h; exact ⟨q, rfl, rfl⟩
theorem wd_D {aC : Nat → ClassId} {ad : Nat → Nat} {sh : wSh} {A : Nat → Prop} (h : wDi ad sh) (hA : ∀ c, c ∈ sh → A (ad c.1)) (z : wZ) : va_D A (wd aC ad sh z) := by
  refine ⟨fun i j p q hi hj he => ?_, fun k q hk => ?_⟩
  · obtain ⟨a, h1, rfl⟩ := wd_inv hi
    obtain ⟨b, h2, rfl⟩ := wd_inv hj
    exact h i j a b h1 h2 he
  · obtain ⟨a, h1, rfl⟩ := wd_inv hk
    exact hA a (List.mem_of_getElem? h1)
theorem zp_same (z : wZ) (k : Nat) (a x : Int) : zp z k a x k a = x := by simp [zp]
theorem zp_ne (z : wZ) {k k' : Nat} {a a' x : Int} (h : ¬ (k' = k ∧ a' = a)) : zp z k a x k' a' = z k' a' := by simp [zp, h]
theorem zp_nk (z : wZ) {k k' : Nat} {a x : Int} (h : k' ≠ k) : zp z k a x k' = z k' := by funext a'; simp [zp, h]
/-- the place is nowhere else in the shape, but at the cell n -/
def wOnly (sh : wSh) (n : Nat) (k : Nat) : Bool := sh.zipIdx.all fun q => q.2 == n || (match q.1.2 with
  | .inl o => o.2.all fun f => match f with | .inl _ => true | .inr g => g.1 != k
  | .inr a => a.2.2 != k)
/-- an object's field's place is in no other field of it -/
def wOnlyF (fs : List wF) (i k : Nat) : Bool := fs.zipIdx.all fun q => q.2 == i || (match q.1 with | .inl _ => true | .inr g => g.1 != k)
theorem wce_other {aC : Nat → ClassId} {ad : Nat → Nat} {z : wZ} {k : Nat} {a x : Int} {c : wC} (h : (match c with
  | .inl o => o.2.all fun f => match f with | .inl _ => true | .inr g => g.1 != k
  | .inr a => a.2.2 != k) = true) : wce aC ad (zp z k a x) c = wce aC ad z c := by
  rcases c with ⟨ci, fs⟩ | ⟨ty, len, k2⟩
  · simp only [wce]
    congr 2
    refine List.map_congr_left fun f hf => ?_
    have h2 := List.all_eq_true.mp h f hf
    rcases f with n | ⟨k3, b⟩
    · rfl
    · have h3 : k3 ≠ k := by simpa using h2
      simp only [wfv]
      rw [zp_nk _ h3]
  · have h3 : k2 ≠ k := by simpa using h
    have h4 : wrow (zp z k a x) k2 = wrow z k2 := by unfold wrow; rw [zp_nk _ h3]
    simp only [wce, h4]
theorem wd_set {aC : Nat → ClassId} {ad : Nat → Nat} {sh : wSh} {z : wZ} {n k : Nat} {a x : Int} {c : Nat × wC} {e : va_E} (hn : sh[n]? = some c) (ho : wOnly sh n k = true) (he : e = wce aC ad (zp z k a x) c.2) : (wd aC ad sh z).set n (ad c.1, e) = wd aC ad sh (zp z k a x) := by
  refine List.ext_getElem? fun i => ?_
  have hl : n < (wd aC ad sh z).length := by simp only [wd, List.length_map]; exact (List.getElem?_eq_some_iff.mp hn).1
  by_cases hi : i = n
  · subst hi
    rw [List.getElem?_set_self hl, wd_get hn, he]
  · rw [List.getElem?_set_ne (Ne.symm hi)]
    simp only [wd, List.getElem?_map]
    cases hq : sh[i]? with
    | none => rfl
    | some q =>
      have hm : (q, i) ∈ sh.zipIdx := by
        rw [List.mem_zipIdx_iff_getElem?]; simpa using hq
      have h1 := List.all_eq_true.mp ho _ hm
      have h2 : (match q.2 with
  | .inl o => o.2.all fun f => match f with | .inl _ => true | .inr g => g.1 != k
  | .inr a => a.2.2 != k) = true := by
        have h3 : (i == n) = false := by simpa using hi
        simp only [h3, Bool.false_or] at h1
        exact h1
      simp only [Option.map_some]
      rw [wce_other h2]
theorem wi_cl {a : Int} (h0 : 0 ≤ a) (h1 : a < 2147483648) : (Int32.ofInt a).toNatClampNeg = a.toNat := Int32.toNatClampNeg_ofInt_of_le (by omega) (by omega)
theorem wi_in {a : Int} {n : Nat} (h0 : 0 ≤ a) (h1 : a < (n : Int)) (hn : n < 2147483648) : vp_in (Int32.ofInt a) n := by
  rw [vp_in_iff, Int32.toInt_ofInt_of_le (by omega) (by omega)]
  exact ⟨h0, h1⟩
theorem wi_ti {a : Int} (h : -2147483648 ≤ a ∧ a ≤ 2147483647) : (Int32.ofInt a).toInt = a := Int32.toInt_ofInt_of_le (by omega) (by omega)
theorem wi_lt {a b : Int} (ha : -2147483648 ≤ a ∧ a ≤ 2147483647) (hb : -2147483648 ≤ b ∧ b ≤ 2147483647) : Int32.ofInt a < Int32.ofInt b ↔ a < b := by
  rw [Int32.lt_iff_toInt_lt, wi_ti ha, wi_ti hb]
theorem wi_le {a b : Int} (ha : -2147483648 ≤ a ∧ a ≤ 2147483647) (hb : -2147483648 ≤ b ∧ b ≤ 2147483647) : Int32.ofInt a ≤ Int32.ofInt b ↔ a ≤ b := by
  rw [Int32.le_iff_toInt_le, wi_ti ha, wi_ti hb]
theorem wi_eq {a b : Int} (ha : -2147483648 ≤ a ∧ a ≤ 2147483647) (hb : -2147483648 ≤ b ∧ b ≤ 2147483647) : Int32.ofInt a = Int32.ofInt b ↔ a = b := by
  rw [← Int32.toInt_inj, wi_ti ha, wi_ti hb]
theorem wi_0 : Int32.ofInt 0 = 0 := rfl
theorem wrow_at {z : wZ} {k : Nat} {a : Int} (h0 : 0 ≤ a) (h1 : a < 2147483648) : wrow z k (Int32.ofInt a).toNatClampNeg = Int32.ofInt (z k a) := by
  rw [wi_cl h0 h1, wrow, Int.toNat_of_nonneg h0]
theorem wrow_up {z : wZ} {k : Nat} {a x : Int} (h0 : 0 ≤ a) (h1 : a < 2147483648) : upd (wrow z k) (Int32.ofInt a).toNatClampNeg (Int32.ofInt x) = wrow (zp z k a x) k := by
  funext j
  rw [wi_cl h0 h1]
  by_cases h : j = a.toNat
  · subst h
    simp [upd, wrow, zp, Int.toNat_of_nonneg h0]
  · have h2 : ¬ ((j : Int) = a) := fun q => h (by rw [← q]; simp)
    simp [upd, wrow, zp, h, h2]
/-- the locals -/
def lvh (ls : Array Slot) (nL : Nat) (L : List (Option Value)) : Prop := ls.size = nL ∧ lv_wf ls ∧ L.length = nL ∧ ∀ (i : Nat) (v : Value), L[i]? = some (some v) → ls[i]? = some (.val v) ∧ v.category = 1
def lvl (L : List (Option Value)) : List (Nat × Value) := L.zipIdx.filterMap fun q => q.1.map fun v => (q.2, v)
theorem lvl_mem {L : List (Option Value)} {i : Nat} {v : Value} : (i, v) ∈ lvl L ↔ L[i]? = some (some v) := by
  simp only [lvl, List.mem_filterMap]
  constructor
  · rintro ⟨⟨o, j⟩, h1, h2⟩
    cases o with
    | none => cases h2
    | some w =>
      simp only [Option.map_some, Option.some.injEq, Prod.mk.injEq] at h2
      obtain ⟨rfl, rfl⟩ := h2
      rw [List.mem_zipIdx_iff_getElem?] at h1
      simpa using h1
  · intro h
    exact ⟨(some v, i), by rw [List.mem_zipIdx_iff_getElem?]; simpa using h, rfl⟩
theorem lvh_has {ls : Array Slot} {nL : Nat} {L : List (Option Value)} (h : lvh ls nL L) : lv_has ls nL (lvl L) := ⟨h.1, h.2.1, fun q hq => (h.2.2.2 q.1 q.2 (lvl_mem.mp hq)).1⟩
theorem lvh_set {ls ls' : Array Slot} {nL i : Nat} {L : List (Option Value)} {v : Value} (h : lvh ls nL L) (hc : v.category = 1) (h2 : lv_has ls' nL ((i, v) :: (lvl L).filter (fun q => !(q.1 == i) && !(q.1 + 1 == i && q.2.category == 2)))) : lvh ls' nL (L.set i (some v)) := by
  refine ⟨h2.1, h2.2.1, by rw [List.length_set]; exact h.2.2.1, fun j w hj => ?_⟩
  by_cases e : j = i
  · subst e
    have hl : j < L.length := by
      have := (List.getElem?_eq_some_iff.mp hj).1
      simpa using this
    rw [List.getElem?_set_self hl] at hj
    cases hj
    exact ⟨h2.2.2 (j, v) List.mem_cons_self, hc⟩
  · rw [List.getElem?_set_ne (Ne.symm e)] at hj
    have h3 := (h.2.2.2 j w hj).2
    refine ⟨h2.2.2 (j, w) (List.mem_cons_of_mem _ (List.mem_filter.mpr ⟨lvl_mem.mpr hj, ?_⟩)), h3⟩
    have e2 : (j == i) = false := by simpa using e
    have e3 : (w.category == 2) = false := by rw [h3]; rfl
    simp [e2, e3]
end WL
end
section
/-! THE JUDGEMENT JW and its instructions -/
section WJ
/-- the fixed facts of a walk -/
def wG (p : Program) (s : State) (m : MethodId) (args : Array Value) (meth : Method) (c : Code) (cc : ByteArray) (own : String) (nL : Nat) (D : va_G) (aC : Nat → ClassId) (ad : Nat → Nat) (A : Nat → Prop) (sh : wSh) : Prop :=
  p.tables.exec = Jvm.exec ∧ c.code = cc ∧ c.maxLocals = nL ∧ s.vm.findClass own = some m.cls ∧ (∀ w ∈ wALL, w.before args s = true) ∧ va_K D vwCl (wty aC) s ∧ wDi ad sh ∧ (∀ q, q ∈ sh → A (ad q.1)) ∧ (∀ q : Nat, s.heap.size ≤ q → A q) ∧ meth.locks = false ∧ (∀ x ∈ c.exceptionTable.toList, False)
def JW (p : Program) (l : Launch) (e : Env) (R : Room) (s : State) (m : MethodId) (args : Array Value) (below : List Frame) (meth : Method) (c : Code) (nL : Nat) (D : va_G) (aC : Nat → ClassId) (ad : Nat → Nat) (A : Nat → Prop) (sh : wSh) (Q : State → Prop) (cells slots : Nat) (z : wZ) (pc : Nat) (L : List (Option Value)) (st : List Value) : Prop :=
  ∀ (H : Heap) (locs : List Loc) (ls : Array Slot), va_P D vwCl (wd aC ad sh z) H → va_S A s.heap H locs → lvh ls nL L → W p l e R s m args below meth c H locs cells slots Q (F0 m pc ls st)
variable {p : Program} {l : Launch} {e : Env} {R : Room} {s : State} {m : MethodId} {args : Array Value} {below : List Frame} {meth : Method} {c : Code} {cc : ByteArray} {own : String} {nL : Nat} {D : va_G} {aC : Nat → ClassId} {ad : Nat → Nat} {A : Nat → Prop} {sh : wSh} {Q : State → Prop} {cells slots : Nat} {z : wZ} {pc : Nat} {L : List (Option Value)} {st : List Value}
theorem i_iload (G : wG p s m args meth c cc own nL D aC ad A sh) {i : Nat} {x : Int32} (hdg : decode cc pc = .ok (.iload i, 2)) (hL : L[i]? = some (some (.int x))) (k : JW p l e R s m args below meth c nL D aC ad A sh Q cells slots z (pc + 2) L (.int x :: st)) : JW p l e R s m args below meth c nL D aC ad A sh Q cells slots z pc L st :=
  fun H locs ls hP hS hl => lv_iload G.1 G.2.1 hdg (hl.2.2.2 i _ hL).1 (k H locs ls hP hS hl)
theorem i_iload_n (G : wG p s m args meth c cc own nL D aC ad A sh) {i : Fin 4} {x : Int32} (hdg : decode cc pc = .ok (.iload_n i, 1)) (hL : L[(i : Nat)]? = some (some (.int x))) (k : JW p l e R s m args below meth c nL D aC ad A sh Q cells slots z (pc + 1) L (.int x :: st)) : JW p l e R s m args below meth c nL D aC ad A sh Q cells slots z pc L st :=
  fun H locs ls hP hS hl => lv_iload_n G.1 G.2.1 hdg rfl (hl.2.2.2 i _ hL).1 (k H locs ls hP hS hl)
theorem i_aload (G : wG p s m args meth c cc own nL D aC ad A sh) {i : Nat} {x : Nat} (hdg : decode cc pc = .ok (.aload i, 2)) (hL : L[i]? = some (some (.ref x))) (k : JW p l e R s m args below meth c nL D aC ad A sh Q cells slots z (pc + 2) L (.ref x :: st)) : JW p l e R s m args below meth c nL D aC ad A sh Q cells slots z pc L st :=
  fun H locs ls hP hS hl => lv_aload G.1 G.2.1 hdg (hl.2.2.2 i _ hL).1 (k H locs ls hP hS hl)
theorem i_aload_n (G : wG p s m args meth c cc own nL D aC ad A sh) {i : Fin 4} {x : Nat} (hdg : decode cc pc = .ok (.aload_n i, 1)) (hL : L[(i : Nat)]? = some (some (.ref x))) (k : JW p l e R s m args below meth c nL D aC ad A sh Q cells slots z (pc + 1) L (.ref x :: st)) : JW p l e R s m args below meth c nL D aC ad A sh Q cells slots z pc L st :=
  fun H locs ls hP hS hl => lv_aload_n G.1 G.2.1 hdg rfl (hl.2.2.2 i _ hL).1 (k H locs ls hP hS hl)
theorem i_istore (G : wG p s m args meth c cc own nL D aC ad A sh) {i : Nat} {x : Int32} {L' : List (Option Value)} (hdg : decode cc pc = .ok (.istore i, 2)) (hi : i < nL) (hL : L.set i (some (.int x)) = L') (k : JW p l e R s m args below meth c nL D aC ad A sh Q cells slots z (pc + 2) L' st) : JW p l e R s m args below meth c nL D aC ad A sh Q cells slots z pc L (.int x :: st) :=
  fun H locs ls hP hS hl => lv_istore G.1 G.2.1 hdg (lvh_has hl) hi rfl (fun ls' hl' => k H locs ls' hP hS (hL ▸ lvh_set hl rfl hl'))
theorem i_istore_n (G : wG p s m args meth c cc own nL D aC ad A sh) {i : Fin 4} {x : Int32} {L' : List (Option Value)} (hdg : decode cc pc = .ok (.istore_n i, 1)) (hi : (i : Nat) < nL) (hL : L.set (i : Nat) (some (.int x)) = L') (k : JW p l e R s m args below meth c nL D aC ad A sh Q cells slots z (pc + 1) L' st) : JW p l e R s m args below meth c nL D aC ad A sh Q cells slots z pc L (.int x :: st) :=
  fun H locs ls hP hS hl => lv_istore_n G.1 G.2.1 hdg rfl (lvh_has hl) hi rfl (fun ls' hl' => k H locs ls' hP hS (hL ▸ lvh_set hl rfl hl'))
theorem i_astore (G : wG p s m args meth c cc own nL D aC ad A sh) {i : Nat} {x : Nat} {L' : List (Option Value)} (hdg : decode cc pc = .ok (.astore i, 2)) (hi : i < nL) (hL : L.set i (some (.ref x)) = L') (k : JW p l e R s m args below meth c nL D aC ad A sh Q cells slots z (pc + 2) L' st) : JW p l e R s m args below meth c nL D aC ad A sh Q cells slots z pc L (.ref x :: st) :=
  fun H locs ls hP hS hl => lv_astore G.1 G.2.1 hdg (lvh_has hl) hi rfl (fun ls' hl' => k H locs ls' hP hS (hL ▸ lvh_set hl rfl hl'))
theorem i_astore_n (G : wG p s m args meth c cc own nL D aC ad A sh) {i : Fin 4} {x : Nat} {L' : List (Option Value)} (hdg : decode cc pc = .ok (.astore_n i, 1)) (hi : (i : Nat) < nL) (hL : L.set (i : Nat) (some (.ref x)) = L') (k : JW p l e R s m args below meth c nL D aC ad A sh Q cells slots z (pc + 1) L' st) : JW p l e R s m args below meth c nL D aC ad A sh Q cells slots z pc L (.ref x :: st) :=
  fun H locs ls hP hS hl => lv_astore_n G.1 G.2.1 hdg rfl (lvh_has hl) hi rfl (fun ls' hl' => k H locs ls' hP hS (hL ▸ lvh_set hl rfl hl'))
theorem i_iinc (G : wG p s m args meth c cc own nL D aC ad A sh) {i : Nat} {n x : Int} {L' : List (Option Value)} (hdg : decode cc pc = .ok (.iinc i n, 3)) (hi : i < nL) (hx : L[i]? = some (some (vi x))) (hL : L.set i (some (vi (x + n))) = L') (k : JW p l e R s m args below meth c nL D aC ad A sh Q cells slots z (pc + 3) L' st) : JW p l e R s m args below meth c nL D aC ad A sh Q cells slots z pc L st :=
  fun H locs ls hP hS hl => by
    obtain ⟨k0, hk0⟩ := List.getElem?_of_mem (lvl_mem.mpr hx)
    exact lv_iinc (v := Int32.ofInt (x + n)) G.1 G.2.1 hdg (lvh_has hl) hk0 (Int32.ofInt_add x n).symm hi rfl (fun ls' hl' => k H locs ls' hP hS (hL ▸ lvh_set hl rfl hl'))
theorem i_iconst (G : wG p s m args meth c cc own nL D aC ad A sh) {n : Int} (hdg : decode cc pc = .ok (.iconst n, 1)) (k : JW p l e R s m args below meth c nL D aC ad A sh Q cells slots z (pc + 1) L (vi n :: st)) : JW p l e R s m args below meth c nL D aC ad A sh Q cells slots z pc L st :=
  fun H locs ls hP hS hl => lv_iconst G.1 G.2.1 hdg rfl (k H locs ls hP hS hl)
theorem i_bipush (G : wG p s m args meth c cc own nL D aC ad A sh) {n : Int} (hdg : decode cc pc = .ok (.bipush n, 2)) (hn : (Int8.ofInt n).toInt32 = Int32.ofInt n) (k : JW p l e R s m args below meth c nL D aC ad A sh Q cells slots z (pc + 2) L (vi n :: st)) : JW p l e R s m args below meth c nL D aC ad A sh Q cells slots z pc L st :=
  fun H locs ls hP hS hl => lv_bipush G.1 G.2.1 hdg hn (k H locs ls hP hS hl)
theorem i_sipush (G : wG p s m args meth c cc own nL D aC ad A sh) {n : Int} (hdg : decode cc pc = .ok (.sipush n, 3)) (hn : (Int16.ofInt n).toInt32 = Int32.ofInt n) (k : JW p l e R s m args below meth c nL D aC ad A sh Q cells slots z (pc + 3) L (vi n :: st)) : JW p l e R s m args below meth c nL D aC ad A sh Q cells slots z pc L st :=
  fun H locs ls hP hS hl => lv_sipush G.1 G.2.1 hdg hn (k H locs ls hP hS hl)
theorem i_ldc (G : wG p s m args meth c cc own nL D aC ad A sh) {index : Nat} (n : Int) (hc : Jvm.Cond.constant own index (Int32.ofInt n) ∈ wALL) (hdg : decode cc pc = .ok (.ldc index, 2)) (k : JW p l e R s m args below meth c nL D aC ad A sh Q cells slots z (pc + 2) L (vi n :: st)) : JW p l e R s m args below meth c nL D aC ad A sh Q cells slots z pc L st :=
  fun H locs ls hP hS hl => lv_ldc G.1 G.2.1 G.2.2.2.1 (G.2.2.2.2.1 _ hc) hdg (k H locs ls hP hS hl)
theorem i_iadd (G : wG p s m args meth c cc own nL D aC ad A sh) {x y : Int} (hdg : decode cc pc = .ok (.iadd, 1)) (k : JW p l e R s m args below meth c nL D aC ad A sh Q cells slots z (pc + 1) L (vi (x + y) :: st)) : JW p l e R s m args below meth c nL D aC ad A sh Q cells slots z pc L (vi y :: vi x :: st) :=
  fun H locs ls hP hS hl => lv_iadd G.1 G.2.1 hdg (by rw [← Int32.ofInt_add]; exact k H locs ls hP hS hl)
theorem i_isub (G : wG p s m args meth c cc own nL D aC ad A sh) {x y : Int} (hdg : decode cc pc = .ok (.isub, 1)) (k : JW p l e R s m args below meth c nL D aC ad A sh Q cells slots z (pc + 1) L (vi (x - y) :: st)) : JW p l e R s m args below meth c nL D aC ad A sh Q cells slots z pc L (vi y :: vi x :: st) :=
  fun H locs ls hP hS hl => lv_isub G.1 G.2.1 hdg (by rw [← Int32.ofInt_sub]; exact k H locs ls hP hS hl)
theorem i_imul (G : wG p s m args meth c cc own nL D aC ad A sh) {x y : Int} (hdg : decode cc pc = .ok (.imul, 1)) (k : JW p l e R s m args below meth c nL D aC ad A sh Q cells slots z (pc + 1) L (vi (x * y) :: st)) : JW p l e R s m args below meth c nL D aC ad A sh Q cells slots z pc L (vi y :: vi x :: st) :=
  fun H locs ls hP hS hl => lv_imul G.1 G.2.1 hdg (by rw [← Int32.ofInt_mul]; exact k H locs ls hP hS hl)
theorem wi_div {x y : Int} (hx : 0 ≤ x ∧ x ≤ 2147483647) (hy : 0 < y ∧ y ≤ 2147483647) : Int32.ofInt x / Int32.ofInt y = Int32.ofInt (x / y) := by
  have h0 : 0 ≤ x / y := Int.ediv_nonneg hx.1 (by omega)
  have h1 : x / y ≤ x := Int.ediv_le_self y hx.1
  rw [← Int32.toInt_inj, Int32.toInt_div_of_ne_left _ _ (fun h => by
    have h2 := congrArg Int32.toInt h
    rw [wi_ti (by omega)] at h2
    have h3 : Int32.minValue.toInt = -2147483648 := by decide
    omega), wi_ti (by omega), wi_ti (by omega), wi_ti (by omega), Int.tdiv_eq_ediv_of_nonneg hx.1]
theorem i_idiv (G : wG p s m args meth c cc own nL D aC ad A sh) {x y : Int} (hx : 0 ≤ x ∧ x ≤ 2147483647) (hy : 0 < y ∧ y ≤ 2147483647) (hdg : decode cc pc = .ok (.idiv, 1)) (k : JW p l e R s m args below meth c nL D aC ad A sh Q cells slots z (pc + 1) L (vi (x / y) :: st)) : JW p l e R s m args below meth c nL D aC ad A sh Q cells slots z pc L (vi y :: vi x :: st) :=
  fun H locs ls hP hS hl => lv_idiv G.1 G.2.1 hdg (by rw [← wi_0, wi_eq (by omega) (by omega)]; omega) (by rw [wi_div hx hy]; exact k H locs ls hP hS hl)
theorem i_irem (G : wG p s m args meth c cc own nL D aC ad A sh) {x y : Int} (hx : 0 ≤ x ∧ x ≤ 2147483647) (hy : 0 < y ∧ y ≤ 2147483647) (hdg : decode cc pc = .ok (.irem, 1)) (k : JW p l e R s m args below meth c nL D aC ad A sh Q cells slots z (pc + 1) L (vi (x % y) :: st)) : JW p l e R s m args below meth c nL D aC ad A sh Q cells slots z pc L (vi y :: vi x :: st) :=
  fun H locs ls hP hS hl => lv_irem G.1 G.2.1 hdg (by rw [← wi_0, wi_eq (by omega) (by omega)]; omega) (by
    rw [wi_div hx hy, ← Int32.ofInt_mul, ← Int32.ofInt_sub, show x - x / y * y = x % y by rw [Int.mul_comm, Int.emod_def]]; exact k H locs ls hP hS hl)
theorem i_iand (G : wG p s m args meth c cc own nL D aC ad A sh) {x y w : Int} (h : Int32.ofInt x &&& Int32.ofInt y = Int32.ofInt w) (hdg : decode cc pc = .ok (.iand, 1)) (k : JW p l e R s m args below meth c nL D aC ad A sh Q cells slots z (pc + 1) L (vi w :: st)) : JW p l e R s m args below meth c nL D aC ad A sh Q cells slots z pc L (vi y :: vi x :: st) :=
  fun H locs ls hP hS hl => lv_iand G.1 G.2.1 hdg (by rw [h]; exact k H locs ls hP hS hl)
theorem i_dup (G : wG p s m args meth c cc own nL D aC ad A sh) {v : Value} (hv : v.category = 1) (hdg : decode cc pc = .ok (.dup, 1)) (k : JW p l e R s m args below meth c nL D aC ad A sh Q cells slots z (pc + 1) L (v :: v :: st)) : JW p l e R s m args below meth c nL D aC ad A sh Q cells slots z pc L (v :: st) :=
  fun H locs ls hP hS hl => lv_dup G.1 G.2.1 hdg hv (k H locs ls hP hS hl)
theorem i_pop (G : wG p s m args meth c cc own nL D aC ad A sh) {v : Value} (hv : v.category = 1) (hdg : decode cc pc = .ok (.pop, 1)) (k : JW p l e R s m args below meth c nL D aC ad A sh Q cells slots z (pc + 1) L st) : JW p l e R s m args below meth c nL D aC ad A sh Q cells slots z pc L (v :: st) :=
  fun H locs ls hP hS hl => lv_pop G.1 G.2.1 hdg hv (k H locs ls hP hS hl)
theorem i_goto (G : wG p s m args meth c cc own nL D aC ad A sh) {off : Int} {tgt : Nat} (hdg : decode cc pc = .ok (.goto off, 3)) (ht : (pc : Int) + off = (tgt : Int)) (k : JW p l e R s m args below meth c nL D aC ad A sh Q cells slots z tgt L st) : JW p l e R s m args below meth c nL D aC ad A sh Q cells slots z pc L st :=
  fun H locs ls hP hS hl => lv_goto G.1 G.2.1 hdg ht (k H locs ls hP hS hl)
theorem i_icmp_lt (G : wG p s m args meth c cc own nL D aC ad A sh) {x y : Int} {off : Int} {tgt : Nat} (hdg : decode cc pc = .ok (.if_icmp .lt off, 3)) (ht : (pc : Int) + off = (tgt : Int)) (hx : -2147483648 ≤ x ∧ x ≤ 2147483647) (hy : -2147483648 ≤ y ∧ y ≤ 2147483647) (kt : x < y → JW p l e R s m args below meth c nL D aC ad A sh Q cells slots z tgt L st) (kf : ¬ x < y → JW p l e R s m args below meth c nL D aC ad A sh Q cells slots z (pc + 3) L st) : JW p l e R s m args below meth c nL D aC ad A sh Q cells slots z pc L (vi y :: vi x :: st) :=
  fun H locs ls hP hS hl => lv_icmp_lt G.1 G.2.1 hdg ht (fun h => kt ((wi_lt hx hy).mp h) H locs ls hP hS hl) (fun h => kf (fun q => h ((wi_lt hx hy).mpr q)) H locs ls hP hS hl)
theorem i_icmp_ge (G : wG p s m args meth c cc own nL D aC ad A sh) {x y : Int} {off : Int} {tgt : Nat} (hdg : decode cc pc = .ok (.if_icmp .ge off, 3)) (ht : (pc : Int) + off = (tgt : Int)) (hx : -2147483648 ≤ x ∧ x ≤ 2147483647) (hy : -2147483648 ≤ y ∧ y ≤ 2147483647) (kt : y ≤ x → JW p l e R s m args below meth c nL D aC ad A sh Q cells slots z tgt L st) (kf : ¬ y ≤ x → JW p l e R s m args below meth c nL D aC ad A sh Q cells slots z (pc + 3) L st) : JW p l e R s m args below meth c nL D aC ad A sh Q cells slots z pc L (vi y :: vi x :: st) :=
  fun H locs ls hP hS hl => lv_icmp_ge G.1 G.2.1 hdg ht (fun h => kt ((wi_le hy hx).mp h) H locs ls hP hS hl) (fun h => kf (fun q => h ((wi_le hy hx).mpr q)) H locs ls hP hS hl)
theorem i_icmp_gt (G : wG p s m args meth c cc own nL D aC ad A sh) {x y : Int} {off : Int} {tgt : Nat} (hdg : decode cc pc = .ok (.if_icmp .gt off, 3)) (ht : (pc : Int) + off = (tgt : Int)) (hx : -2147483648 ≤ x ∧ x ≤ 2147483647) (hy : -2147483648 ≤ y ∧ y ≤ 2147483647) (kt : y < x → JW p l e R s m args below meth c nL D aC ad A sh Q cells slots z tgt L st) (kf : ¬ y < x → JW p l e R s m args below meth c nL D aC ad A sh Q cells slots z (pc + 3) L st) : JW p l e R s m args below meth c nL D aC ad A sh Q cells slots z pc L (vi y :: vi x :: st) :=
  fun H locs ls hP hS hl => lv_icmp_gt G.1 G.2.1 hdg ht (fun h => kt ((wi_lt hy hx).mp h) H locs ls hP hS hl) (fun h => kf (fun q => h ((wi_lt hy hx).mpr q)) H locs ls hP hS hl)
theorem i_icmp_le (G : wG p s m args meth c cc own nL D aC ad A sh) {x y : Int} {off : Int} {tgt : Nat} (hdg : decode cc pc = .ok (.if_icmp .le off, 3)) (ht : (pc : Int) + off = (tgt : Int)) (hx : -2147483648 ≤ x ∧ x ≤ 2147483647) (hy : -2147483648 ≤ y ∧ y ≤ 2147483647) (kt : x ≤ y → JW p l e R s m args below meth c nL D aC ad A sh Q cells slots z tgt L st) (kf : ¬ x ≤ y → JW p l e R s m args below meth c nL D aC ad A sh Q cells slots z (pc + 3) L st) : JW p l e R s m args below meth c nL D aC ad A sh Q cells slots z pc L (vi y :: vi x :: st) :=
  fun H locs ls hP hS hl => lv_icmp_le G.1 G.2.1 hdg ht (fun h => kt ((wi_le hx hy).mp h) H locs ls hP hS hl) (fun h => kf (fun q => h ((wi_le hx hy).mpr q)) H locs ls hP hS hl)
theorem i_icmp_eq (G : wG p s m args meth c cc own nL D aC ad A sh) {x y : Int} {off : Int} {tgt : Nat} (hdg : decode cc pc = .ok (.if_icmp .eq off, 3)) (ht : (pc : Int) + off = (tgt : Int)) (hx : -2147483648 ≤ x ∧ x ≤ 2147483647) (hy : -2147483648 ≤ y ∧ y ≤ 2147483647) (kt : x = y → JW p l e R s m args below meth c nL D aC ad A sh Q cells slots z tgt L st) (kf : ¬ (x = y) → JW p l e R s m args below meth c nL D aC ad A sh Q cells slots z (pc + 3) L st) : JW p l e R s m args below meth c nL D aC ad A sh Q cells slots z pc L (vi y :: vi x :: st) :=
  fun H locs ls hP hS hl => lv_icmp_eq G.1 G.2.1 hdg ht (fun h => kt ((wi_eq hx hy).mp h) H locs ls hP hS hl) (fun h => kf (fun q => h ((wi_eq hx hy).mpr q)) H locs ls hP hS hl)
theorem i_icmp_ne (G : wG p s m args meth c cc own nL D aC ad A sh) {x y : Int} {off : Int} {tgt : Nat} (hdg : decode cc pc = .ok (.if_icmp .ne off, 3)) (ht : (pc : Int) + off = (tgt : Int)) (hx : -2147483648 ≤ x ∧ x ≤ 2147483647) (hy : -2147483648 ≤ y ∧ y ≤ 2147483647) (kt : ¬ x = y → JW p l e R s m args below meth c nL D aC ad A sh Q cells slots z tgt L st) (kf : x = y → JW p l e R s m args below meth c nL D aC ad A sh Q cells slots z (pc + 3) L st) : JW p l e R s m args below meth c nL D aC ad A sh Q cells slots z pc L (vi y :: vi x :: st) :=
  fun H locs ls hP hS hl => lv_icmp_ne G.1 G.2.1 hdg ht (fun h => kt (fun q => (show ¬ _ from h) ((wi_eq hx hy).mpr q)) H locs ls hP hS hl) (fun h => kf ((wi_eq hx hy).mp (by first | exact h | exact Classical.not_not.mp h)) H locs ls hP hS hl)
theorem i_if_lt (G : wG p s m args meth c cc own nL D aC ad A sh) {x : Int} {off : Int} {tgt : Nat} (hdg : decode cc pc = .ok (.ifCond .lt off, 3)) (ht : (pc : Int) + off = (tgt : Int)) (hx : -2147483648 ≤ x ∧ x ≤ 2147483647) (kt : x < 0 → JW p l e R s m args below meth c nL D aC ad A sh Q cells slots z tgt L st) (kf : ¬ x < 0 → JW p l e R s m args below meth c nL D aC ad A sh Q cells slots z (pc + 3) L st) : JW p l e R s m args below meth c nL D aC ad A sh Q cells slots z pc L (vi x :: st) := by
  have h0 : -2147483648 ≤ (0 : Int) ∧ (0 : Int) ≤ 2147483647 := by omega
  exact fun H locs ls hP hS hl => lv_if_lt G.1 G.2.1 hdg ht (fun h => kt ((wi_lt hx h0).mp h) H locs ls hP hS hl) (fun h => kf (fun q => h ((wi_lt hx h0).mpr q)) H locs ls hP hS hl)
theorem i_if_ge (G : wG p s m args meth c cc own nL D aC ad A sh) {x : Int} {off : Int} {tgt : Nat} (hdg : decode cc pc = .ok (.ifCond .ge off, 3)) (ht : (pc : Int) + off = (tgt : Int)) (hx : -2147483648 ≤ x ∧ x ≤ 2147483647) (kt : 0 ≤ x → JW p l e R s m args below meth c nL D aC ad A sh Q cells slots z tgt L st) (kf : ¬ 0 ≤ x → JW p l e R s m args below meth c nL D aC ad A sh Q cells slots z (pc + 3) L st) : JW p l e R s m args below meth c nL D aC ad A sh Q cells slots z pc L (vi x :: st) := by
  have h0 : -2147483648 ≤ (0 : Int) ∧ (0 : Int) ≤ 2147483647 := by omega
  exact fun H locs ls hP hS hl => lv_if_ge G.1 G.2.1 hdg ht (fun h => kt ((wi_le h0 hx).mp h) H locs ls hP hS hl) (fun h => kf (fun q => h ((wi_le h0 hx).mpr q)) H locs ls hP hS hl)
theorem i_if_gt (G : wG p s m args meth c cc own nL D aC ad A sh) {x : Int} {off : Int} {tgt : Nat} (hdg : decode cc pc = .ok (.ifCond .gt off, 3)) (ht : (pc : Int) + off = (tgt : Int)) (hx : -2147483648 ≤ x ∧ x ≤ 2147483647) (kt : 0 < x → JW p l e R s m args below meth c nL D aC ad A sh Q cells slots z tgt L st) (kf : ¬ 0 < x → JW p l e R s m args below meth c nL D aC ad A sh Q cells slots z (pc + 3) L st) : JW p l e R s m args below meth c nL D aC ad A sh Q cells slots z pc L (vi x :: st) := by
  have h0 : -2147483648 ≤ (0 : Int) ∧ (0 : Int) ≤ 2147483647 := by omega
  exact fun H locs ls hP hS hl => lv_if_gt G.1 G.2.1 hdg ht (fun h => kt ((wi_lt h0 hx).mp h) H locs ls hP hS hl) (fun h => kf (fun q => h ((wi_lt h0 hx).mpr q)) H locs ls hP hS hl)
theorem i_if_le (G : wG p s m args meth c cc own nL D aC ad A sh) {x : Int} {off : Int} {tgt : Nat} (hdg : decode cc pc = .ok (.ifCond .le off, 3)) (ht : (pc : Int) + off = (tgt : Int)) (hx : -2147483648 ≤ x ∧ x ≤ 2147483647) (kt : x ≤ 0 → JW p l e R s m args below meth c nL D aC ad A sh Q cells slots z tgt L st) (kf : ¬ x ≤ 0 → JW p l e R s m args below meth c nL D aC ad A sh Q cells slots z (pc + 3) L st) : JW p l e R s m args below meth c nL D aC ad A sh Q cells slots z pc L (vi x :: st) := by
  have h0 : -2147483648 ≤ (0 : Int) ∧ (0 : Int) ≤ 2147483647 := by omega
  exact fun H locs ls hP hS hl => lv_if_le G.1 G.2.1 hdg ht (fun h => kt ((wi_le hx h0).mp h) H locs ls hP hS hl) (fun h => kf (fun q => h ((wi_le hx h0).mpr q)) H locs ls hP hS hl)
theorem i_if_eq (G : wG p s m args meth c cc own nL D aC ad A sh) {x : Int} {off : Int} {tgt : Nat} (hdg : decode cc pc = .ok (.ifCond .eq off, 3)) (ht : (pc : Int) + off = (tgt : Int)) (hx : -2147483648 ≤ x ∧ x ≤ 2147483647) (kt : x = 0 → JW p l e R s m args below meth c nL D aC ad A sh Q cells slots z tgt L st) (kf : ¬ (x = 0) → JW p l e R s m args below meth c nL D aC ad A sh Q cells slots z (pc + 3) L st) : JW p l e R s m args below meth c nL D aC ad A sh Q cells slots z pc L (vi x :: st) := by
  have h0 : -2147483648 ≤ (0 : Int) ∧ (0 : Int) ≤ 2147483647 := by omega
  exact fun H locs ls hP hS hl => lv_if_eq G.1 G.2.1 hdg ht (fun h => kt ((wi_eq hx h0).mp h) H locs ls hP hS hl) (fun h => kf (fun q => h ((wi_eq hx h0).mpr q)) H locs ls hP hS hl)
theorem i_if_ne (G : wG p s m args meth c cc own nL D aC ad A sh) {x : Int} {off : Int} {tgt : Nat} (hdg : decode cc pc = .ok (.ifCond .ne off, 3)) (ht : (pc : Int) + off = (tgt : Int)) (hx : -2147483648 ≤ x ∧ x ≤ 2147483647) (kt : ¬ x = 0 → JW p l e R s m args below meth c nL D aC ad A sh Q cells slots z tgt L st) (kf : x = 0 → JW p l e R s m args below meth c nL D aC ad A sh Q cells slots z (pc + 3) L st) : JW p l e R s m args below meth c nL D aC ad A sh Q cells slots z pc L (vi x :: st) := by
  have h0 : -2147483648 ≤ (0 : Int) ∧ (0 : Int) ≤ 2147483647 := by omega
  exact fun H locs ls hP hS hl => lv_if_ne G.1 G.2.1 hdg ht (fun h => kt (fun q => (show ¬ _ from h) ((wi_eq hx h0).mpr q)) H locs ls hP hS hl) (fun h => kf ((wi_eq hx h0).mp (by first | exact h | exact Classical.not_not.mp h)) H locs ls hP hS hl)
/-- a field of an object: its link and its place -/
def wFL (own : String) (idx ci k : Nat) (C : String) (T : u_T) (N : Nat) : Prop := vwCl[ci]? = some (C, T, N) ∧ (∀ w ∈ u_ws C T N, w ∈ wALL) ∧ k < N ∧ Cond.fieldLink own idx C (T k).2.1 (T k).2.2.1 ∈ wALL ∧ (T k).1 = C
def wFP (own : String) (idx ci k : Nat) (C : String) (T : u_T) (N : Nat) (ty0 : Nat → FieldType) : Prop := wFL own idx ci k C T N ∧ (∀ k, k < N → parseFieldDescriptor (T k).2.2.1 = some (ty0 k)) ∧ (∀ a, a < N → ∀ b, b < N → a ≠ b → (T a).2.1 ≠ (T b).2.1) ∧ (T k).2.2.2 = false ∧ parseFieldDescriptor (T k).2.2.1 = some .int
theorem wG.K (G : wG p s m args meth c cc own nL D aC ad A sh) : va_K D vwCl (wty aC) s := G.2.2.2.2.2.1
theorem wG.hown (G : wG p s m args meth c cc own nL D aC ad A sh) : s.vm.findClass own = some m.cls := G.2.2.2.1
theorem wG.ts (G : wG p s m args meth c cc own nL D aC ad A sh) : ∀ w ∈ wALL, w.before args s = true := G.2.2.2.2.1
theorem wG.hD (G : wG p s m args meth c cc own nL D aC ad A sh) (z : wZ) : va_D A (wd aC ad sh z) := wd_D G.2.2.2.2.2.2.1 G.2.2.2.2.2.2.2.1 z
theorem wG.locks (G : wG p s m args meth c cc own nL D aC ad A sh) : meth.locks = false := G.2.2.2.2.2.2.2.2.2.1
theorem wG.hA (G : wG p s m args meth c cc own nL D aC ad A sh) {sz : Nat} (h : s.heap.size ≤ sz) : ∀ q, wAd ad sh sz q → A q := by
  rintro q (⟨c, hc, rfl⟩ | h2)
  · exact G.2.2.2.2.2.2.2.1 c hc
  · exact G.2.2.2.2.2.2.2.2.1 q (Nat.le_trans h h2)
theorem i_getf (G : wG p s m args meth c cc own nL D aC ad A sh) {idx ci k N n : Nat} {C : String} {T : u_T} (F : wFL own idx ci k C T N) (q0 : Nat) {fs : List wF} (he : sh[q0]? = some (n, .inl (ci, fs))) {f : wF} (hf : fs[k]? = some f) (hdg : decode cc pc = .ok (.getfield idx, 3)) (kk : JW p l e R s m args below meth c nL D aC ad A sh Q cells slots z (pc + 3) L (wfv ad z f :: st)) : JW p l e R s m args below meth c nL D aC ad A sh Q cells slots z pc L (.ref (ad n) :: st) :=
  fun H locs ls hP hS hl => va_get (D := D) (ci := ci) (v := wfv ad z f) (C := C) (T := T) (N := N) G.1 G.2.1 G.ts F.2.1 G.hown G.K hP q0 (wd_get he) F.1 k F.2.2.1 (G.ts _ F.2.2.2.1) (fun _ h9 => by rw [F.2.2.2.2] at h9; exact h9) (by simp [List.getElem?_map, hf]) hdg (kk H locs ls hP hS hl)
theorem i_getr (G : wG p s m args meth c cc own nL D aC ad A sh) {idx ci k N n : Nat} {C : String} {T : u_T} (F : wFL own idx ci k C T N) (q0 : Nat) {fs : List wF} (he : sh[q0]? = some (n, .inl (ci, fs))) {f : Nat} (hf : fs[k]? = some (.inl f)) (hdg : decode cc pc = .ok (.getfield idx, 3)) (kk : JW p l e R s m args below meth c nL D aC ad A sh Q cells slots z (pc + 3) L (.ref (ad f) :: st)) : JW p l e R s m args below meth c nL D aC ad A sh Q cells slots z pc L (.ref (ad n) :: st) := i_getf G F q0 he hf hdg kk
theorem i_geti (G : wG p s m args meth c cc own nL D aC ad A sh) {idx ci k N n : Nat} {C : String} {T : u_T} (F : wFL own idx ci k C T N) (q0 : Nat) {fs : List wF} (he : sh[q0]? = some (n, .inl (ci, fs))) {kz : Nat} {az : Int} (hf : fs[k]? = some (.inr (kz, az))) (hdg : decode cc pc = .ok (.getfield idx, 3)) (kk : JW p l e R s m args below meth c nL D aC ad A sh Q cells slots z (pc + 3) L (vi (z kz az) :: st)) : JW p l e R s m args below meth c nL D aC ad A sh Q cells slots z pc L (.ref (ad n) :: st) := i_getf G F q0 he hf hdg kk
theorem wfv_set {fs : List wF} {k kz : Nat} {az x : Int} (hf : fs[k]? = some (.inr (kz, az))) (ho : wOnlyF fs k kz = true) : (fs.map (wfv ad z)).set k (vi x) = fs.map (wfv ad (zp z kz az x)) := by
  refine List.ext_getElem? fun i => ?_
  have hl : k < (fs.map (wfv ad z)).length := by rw [List.length_map]; exact (List.getElem?_eq_some_iff.mp hf).1
  by_cases hi : i = k
  · subst hi
    rw [List.getElem?_set_self hl, List.getElem?_map, hf]
    simp [wfv, zp]
  · rw [List.getElem?_set_ne (Ne.symm hi), List.getElem?_map, List.getElem?_map]
    cases hq : fs[i]? with
    | none => rfl
    | some q =>
      have hm : (q, i) ∈ fs.zipIdx := by rw [List.mem_zipIdx_iff_getElem?]; simpa using hq
      have h1 := List.all_eq_true.mp ho _ hm
      rcases q with n | ⟨k3, b⟩
      · rfl
      · have h3 : (i == k) = false := by simpa using hi
        simp only [h3, Bool.false_or] at h1
        have h4 : k3 ≠ kz := by simpa using h1
        simp only [Option.map_some, wfv]
        rw [zp_nk _ h4]
theorem i_puti (G : wG p s m args meth c cc own nL D aC ad A sh) {idx ci k N n : Nat} {C : String} {T : u_T} {ty0 : Nat → FieldType} (F : wFP own idx ci k C T N ty0) (q0 : Nat) {fs : List wF} (he : sh[q0]? = some (n, .inl (ci, fs))) {kz : Nat} {az x : Int} (hf : fs[k]? = some (.inr (kz, az))) (ho : wOnly sh q0 kz = true) (hoF : wOnlyF fs k kz = true) (hdg : decode cc pc = .ok (.putfield idx, 3)) (kk : JW p l e R s m args below meth c nL D aC ad A sh Q cells slots (zp z kz az x) (pc + 3) L st) : JW p l e R s m args below meth c nL D aC ad A sh Q cells slots z pc L (vi x :: .ref (ad n) :: st) :=
  fun H locs ls hP hS hl => va_put (D := D) (ci := ci) (v := vi x) (ty := .int) (C := C) (T := T) (N := N) G.1 G.2.1 G.ts F.1.2.1 ty0 F.2.1 F.2.2.1 G.hown G.K hP (G.hD z) hS q0 (wd_get he) F.1.1 k F.1.2.2.1 (G.ts _ F.1.2.2.2.1) (fun _ h9 => by rw [F.1.2.2.2.2] at h9; exact h9) F.2.2.2.1 F.2.2.2.2 rfl rfl (by rw [List.length_map]; exact (List.getElem?_eq_some_iff.mp hf).1) hdg
    (fun H1 locs1 hP1 _ hS1 => kk H1 locs1 ls (by rw [← wd_set he ho (e := .inr (ci, (fs.map (wfv ad z)).set k (vi x))) (by rw [wfv_set hf hoF]; rfl)]; exact hP1) hS1 hl)
theorem i_iald (G : wG p s m args meth c cc own nL D aC ad A sh) (q0 : Nat) {n len k : Nat} (he : sh[q0]? = some (n, .inr (0, len, k))) (hn : len < 2147483648) {a : Int} (h0 : 0 ≤ a) (h1 : a < (len : Int)) (hdg : decode cc pc = .ok (.iaload, 1)) (kk : JW p l e R s m args below meth c nL D aC ad A sh Q cells slots z (pc + 1) L (vi (z k a) :: st)) : JW p l e R s m args below meth c nL D aC ad A sh Q cells slots z pc L (vi a :: .ref (ad n) :: st) :=
  fun H locs ls hP hS hl => va_iald G.1 G.2.1 G.K hP q0 0 (wd_get he) rfl (wi_in h0 h1 hn) hdg (by rw [wrow_at h0 (by omega)]; exact kk H locs ls hP hS hl)
theorem i_zald (G : wG p s m args meth c cc own nL D aC ad A sh) (q0 : Nat) {n len k : Nat} (he : sh[q0]? = some (n, .inr (1, len, k))) (hn : len < 2147483648) {a : Int} (h0 : 0 ≤ a) (h1 : a < (len : Int)) (hdg : decode cc pc = .ok (.baload, 1)) (kk : JW p l e R s m args below meth c nL D aC ad A sh Q cells slots z (pc + 1) L (vi (z k a) :: st)) : JW p l e R s m args below meth c nL D aC ad A sh Q cells slots z pc L (vi a :: .ref (ad n) :: st) :=
  fun H locs ls hP hS hl => va_zald G.1 G.2.1 G.K hP q0 1 (wd_get he) rfl (wi_in h0 h1 hn) hdg (by rw [wrow_at h0 (by omega)]; exact kk H locs ls hP hS hl)
theorem i_cald (G : wG p s m args meth c cc own nL D aC ad A sh) (q0 : Nat) {n len k : Nat} (he : sh[q0]? = some (n, .inr (2, len, k))) (hn : len < 2147483648) {a : Int} (h0 : 0 ≤ a) (h1 : a < (len : Int)) (hdg : decode cc pc = .ok (.caload, 1)) (kk : JW p l e R s m args below meth c nL D aC ad A sh Q cells slots z (pc + 1) L (vi (z k a) :: st)) : JW p l e R s m args below meth c nL D aC ad A sh Q cells slots z pc L (vi a :: .ref (ad n) :: st) :=
  fun H locs ls hP hS hl => va_cald G.1 G.2.1 G.K hP q0 2 (wd_get he) rfl (wi_in h0 h1 hn) hdg (by rw [wrow_at h0 (by omega)]; exact kk H locs ls hP hS hl)
theorem wi_nz {x : Int} (h : x = 0 ∨ x = 1) : narrow .boolean (vi x) = vi x := by rcases h with rfl | rfl <;> rfl
theorem wi_nc {x : Int} (h : 0 ≤ x ∧ x < 65536) : narrow .char (vi x) = vi x := by
  obtain ⟨n, rfl⟩ := Int.eq_ofNat_of_zero_le h.1
  have := (pk_charN (q := n) (by omega)).1
  show narrow .char (.int (Int32.ofInt (n : Int))) = .int (Int32.ofInt (n : Int))
  rw [Int32.ofInt_eq_ofNat]
  exact this
theorem wi_np {ty : FieldType} {x : Int} (h : narrow ty (vi x) = vi x) : vp_nar ty (Int32.ofInt x) = Int32.ofInt x := by
  unfold vp_nar
  rw [show narrow ty (.int (Int32.ofInt x)) = .int (Int32.ofInt x) from h]
theorem i_iast (G : wG p s m args meth c cc own nL D aC ad A sh) (q0 : Nat) {n len k : Nat} (he : sh[q0]? = some (n, .inr (0, len, k))) (hn : len < 2147483648) {a x : Int} (h0 : 0 ≤ a) (h1 : a < (len : Int)) (ho : wOnly sh q0 k = true) (hdg : decode cc pc = .ok (.iastore, 1)) (kk : JW p l e R s m args below meth c nL D aC ad A sh Q cells slots (zp z k a x) (pc + 1) L st) : JW p l e R s m args below meth c nL D aC ad A sh Q cells slots z pc L (vi x :: vi a :: .ref (ad n) :: st) :=
  fun H locs ls hP hS hl => va_iast G.1 G.2.1 G.K hP (G.hD z) hS q0 0 (wd_get he) rfl (wi_in h0 h1 hn) hdg
    (fun H1 locs1 hP1 _ hS1 => kk H1 locs1 ls (by rw [← wd_set he ho (e := .inl (aC 0, len, .inl (upd (wrow z k) (Int32.ofInt a).toNatClampNeg (Int32.ofInt x)))) (by rw [wrow_up h0 (by omega)]; rfl)]; exact hP1) hS1 hl)
theorem i_zast (G : wG p s m args meth c cc own nL D aC ad A sh) (q0 : Nat) {n len k : Nat} (he : sh[q0]? = some (n, .inr (1, len, k))) (hn : len < 2147483648) {a x : Int} (h0 : 0 ≤ a) (h1 : a < (len : Int)) (hx : x = 0 ∨ x = 1) (ho : wOnly sh q0 k = true) (hdg : decode cc pc = .ok (.bastore, 1)) (kk : JW p l e R s m args below meth c nL D aC ad A sh Q cells slots (zp z k a x) (pc + 1) L st) : JW p l e R s m args below meth c nL D aC ad A sh Q cells slots z pc L (vi x :: vi a :: .ref (ad n) :: st) :=
  fun H locs ls hP hS hl => va_zast G.1 G.2.1 G.K hP (G.hD z) hS q0 1 (wd_get he) rfl (wi_in h0 h1 hn) hdg
    (fun H1 locs1 hP1 _ hS1 => kk H1 locs1 ls (by rw [← wd_set he ho (e := .inl (aC 1, len, .inl (upd (wrow z k) (Int32.ofInt a).toNatClampNeg (Int32.ofInt x)))) (by rw [wrow_up h0 (by omega)]; rfl)]; rw [wi_np (wi_nz hx)] at hP1; exact hP1) hS1 hl)
theorem i_cast (G : wG p s m args meth c cc own nL D aC ad A sh) (q0 : Nat) {n len k : Nat} (he : sh[q0]? = some (n, .inr (2, len, k))) (hn : len < 2147483648) {a x : Int} (h0 : 0 ≤ a) (h1 : a < (len : Int)) (hx : 0 ≤ x ∧ x < 65536) (ho : wOnly sh q0 k = true) (hdg : decode cc pc = .ok (.castore, 1)) (kk : JW p l e R s m args below meth c nL D aC ad A sh Q cells slots (zp z k a x) (pc + 1) L st) : JW p l e R s m args below meth c nL D aC ad A sh Q cells slots z pc L (vi x :: vi a :: .ref (ad n) :: st) :=
  fun H locs ls hP hS hl => va_cast G.1 G.2.1 G.K hP (G.hD z) hS q0 2 (wd_get he) rfl (wi_in h0 h1 hn) hdg
    (fun H1 locs1 hP1 _ hS1 => kk H1 locs1 ls (by rw [← wd_set he ho (e := .inl (aC 2, len, .inl (upd (wrow z k) (Int32.ofInt a).toNatClampNeg (Int32.ofInt x)))) (by rw [wrow_up h0 (by omega)]; rfl)]; rw [wi_np (wi_nc hx)] at hP1; exact hP1) hS1 hl)
/-- Math.min, Math.max -/
theorem i_min (G : wG p s m args meth c cc own nL D aC ad A sh) {idx : Nat} (hl : Cond.methodLink own idx Lib.Math.min.name ∈ wALL ∧ Cond.static Lib.Math.min.name ∈ wALL ∧ Cond.initialized "java/lang/Math" ∈ wALL ∧ Cond.code Lib.Math.min.name Lib.Math.min.code 2 (some .int) ∈ wALL) (hr : 1 ≤ R.frames ∧ (st.map fun v => v.category).sum + 13 ≤ R.locals ∧ cells ≤ R.cells ∧ slots ≤ R.slots) {x y : Int} (hx : -2147483648 ≤ x ∧ x ≤ 2147483647) (hy : -2147483648 ≤ y ∧ y ≤ 2147483647) (hdg : decode cc pc = .ok (.invokestatic idx, 3)) (kk : JW p l e R s m args below meth c nL D aC ad A sh Q cells slots z (pc + 3) L (vi (if y < x then y else x) :: st)) : JW p l e R s m args below meth c nL D aC ad A sh Q cells slots z pc L (vi y :: vi x :: st) :=
  fun H locs ls hP hS hl1 => va_mmin G.1 G.2.1 (by rw [G.2.2.1, hl1.1]) G.hown (G.ts _ hl.1) (G.ts _ hl.2.1) (G.ts _ hl.2.2.1) (G.ts _ hl.2.2.2) hr.1 hr.2.1 hr.2.2.1 hr.2.2.2 hdg (by
    have h : (if Int32.ofInt y < Int32.ofInt x then Int32.ofInt y else Int32.ofInt x) = Int32.ofInt (if y < x then y else x) := by
      by_cases q : y < x
      · rw [if_pos q, if_pos ((wi_lt hy hx).mpr q)]
      · rw [if_neg q, if_neg (fun h => q ((wi_lt hy hx).mp h))]
    rw [h]; exact kk H locs ls hP hS hl1)
theorem i_max (G : wG p s m args meth c cc own nL D aC ad A sh) {idx : Nat} (hl : Cond.methodLink own idx Lib.Math.max.name ∈ wALL ∧ Cond.static Lib.Math.max.name ∈ wALL ∧ Cond.initialized "java/lang/Math" ∈ wALL ∧ Cond.code Lib.Math.max.name Lib.Math.max.code 2 (some .int) ∈ wALL) (hr : 1 ≤ R.frames ∧ (st.map fun v => v.category).sum + 13 ≤ R.locals ∧ cells ≤ R.cells ∧ slots ≤ R.slots) {x y : Int} (hx : -2147483648 ≤ x ∧ x ≤ 2147483647) (hy : -2147483648 ≤ y ∧ y ≤ 2147483647) (hdg : decode cc pc = .ok (.invokestatic idx, 3)) (kk : JW p l e R s m args below meth c nL D aC ad A sh Q cells slots z (pc + 3) L (vi (if x < y then y else x) :: st)) : JW p l e R s m args below meth c nL D aC ad A sh Q cells slots z pc L (vi y :: vi x :: st) :=
  fun H locs ls hP hS hl1 => va_mmax G.1 G.2.1 (by rw [G.2.2.1, hl1.1]) G.hown (G.ts _ hl.1) (G.ts _ hl.2.1) (G.ts _ hl.2.2.1) (G.ts _ hl.2.2.2) hr.1 hr.2.1 hr.2.2.1 hr.2.2.2 hdg (by
    have h : (if Int32.ofInt x < Int32.ofInt y then Int32.ofInt y else Int32.ofInt x) = Int32.ofInt (if x < y then y else x) := by
      by_cases q : x < y
      · rw [if_pos q, if_pos ((wi_lt hx hy).mpr q)]
      · rw [if_neg q, if_neg (fun h => q ((wi_lt hx hy).mp h))]
    rw [h]; exact kk H locs ls hP hS hl1)
/-! contracts -/
def wB (D : va_G) (aC : Nat → ClassId) (ad : Nat → Nat) (sh : wSh) (u : wZ) (t : State) : Prop := va_P D vwCl (wd aC ad sh u) t.heap ∧ va_K D vwCl (wty aC) t
def wPc (D : va_G) (aC : Nat → ClassId) (ad : Nat → Nat) (sh : wSh) (av : List Value) (z : wZ) (sz : Nat) : Array Value → State → Prop := va_Pc av (fun U => U.heap.size = sz ∧ wB D aC ad sh z U)
def wQi (D : va_G) (aC : Nat → ClassId) (ad : Nat → Nat) (sh : wSh) (post : Int → wZ → Prop) (A : Nat → Prop) : Array Value → State → Outcome → State → Prop := va_Qi (fun r u => ∃ i, r = Int32.ofInt i ∧ post i u) (wB D aC ad sh) A
def wQv (D : va_G) (aC : Nat → ClassId) (ad : Nat → Nat) (sh : wSh) (post : wZ → Prop) (A : Nat → Prop) : Array Value → State → Outcome → State → Prop := va_Qv post (wB D aC ad sh) A
def wMi (l : Launch) (D : va_G) (aC : Nat → ClassId) (ad : Nat → Nat) (sh : wSh) (y : MethodName) (b : ByteArray) (n : Nat) (ret : FieldType) (rm : Room) (av : List Value) (z : wZ) (post : Int → wZ → Prop) : Prop :=
  ∀ sz, Met l y (.code y b n (some ret) :: wALL) rm (wPc D aC ad sh av z sz) (wQi D aC ad sh post (wAd ad sh sz)) 0 0 (wAd ad sh sz)
def wMv (l : Launch) (D : va_G) (aC : Nat → ClassId) (ad : Nat → Nat) (sh : wSh) (y : MethodName) (b : ByteArray) (n : Nat) (rm : Room) (av : List Value) (z : wZ) (post : wZ → Prop) : Prop :=
  ∀ sz, Met l y (.code y b n none :: wALL) rm (wPc D aC ad sh av z sz) (wQv D aC ad sh post (wAd ad sh sz)) 0 0 (wAd ad sh sz)
theorem wB.moved {u U : State} (hh : U.heap = u.heap) (hvm : u.vm.Alike U.vm) (h : wB D aC ad sh z u) : wB D aC ad sh z U := ⟨by rw [hh]; exact h.1, va_K.moved hvm h.2⟩
theorem wPc_blind {av : List Value} {sz : Nat} : FrameBlind (wPc D aC ad sh av z sz) := fun a U g mk q => by
  obtain ⟨q0, q1, q2⟩ := q
  exact ⟨q0, q1, q2.moved (U := U.calling g mk a) rfl (Vm.Alike.refl U.vm)⟩
theorem lg_sl_1 : ∀ (vs : List Value), (∀ v, v ∈ vs → v.category = 1) → lg_sl vs = vs.map Slot.val
  | [], _ => rfl
  | v :: vs, h => by
    have h1 := lg_sl_1 vs (fun w hw => h w (List.mem_cons_of_mem _ hw))
    have h2 := h v List.mem_cons_self
    simp only [lg_sl, List.flatMap_cons, List.map_cons] at h1 ⊢
    rw [h1, if_neg (by omega)]
    rfl
theorem lvh_entry {vs : List Value} {n : Nat} (hc : ∀ v, v ∈ vs → v.category = 1) (hn : vs.length ≤ n) : lvh ((lg_sl vs ++ List.replicate (n - (lg_sl vs).length) Slot.unset).toArray) n (vs.map some ++ List.replicate (n - vs.length) none) := by
  have h0 := lg_sl_1 vs hc
  have hlen : (lg_sl vs).length = vs.length := by rw [h0, List.length_map]
  have h1 := lv_entry vs (n := n) (by rw [hlen]; exact hn)
  refine ⟨h1.1, h1.2.1, by simp; omega, fun i v hi => ?_⟩
  have hlt : i < vs.length := by
    rcases Nat.lt_or_ge i vs.length with h | h
    · exact h
    · rw [List.getElem?_append_right (by simpa using h), List.getElem?_replicate] at hi
      split at hi <;> cases hi
  rw [List.getElem?_append_left (by simpa using hlt), List.getElem?_map] at hi
  have hv : vs[i]? = some v := by
    cases hq : vs[i]? with
    | none => rw [hq] at hi; cases hi
    | some w => rw [hq] at hi; simp only [Option.map_some, Option.some.injEq] at hi; rw [hi]
  refine ⟨?_, hc v (List.mem_of_getElem? hv)⟩
  rw [List.getElem?_toArray, List.getElem?_append_left (by rw [hlen]; exact hlt), h0, List.getElem?_map, hv]
  rfl
theorem w_table {x : MethodName} {S : Spec} {ws' : List Cond} {rm : Room} {n : Nat} {b : ByteArray} {ret : Option FieldType} {s₁ : State} (B : BodyLoose p l x (headSpec (Cond.code x b n ret :: ws') rm) b n ret e s m args below meth c s₁) : ∀ x ∈ c.exceptionTable.toList, False := by
  obtain ⟨meth9, c9, h1, h2, -, -, -, -, h7, -⟩ := Cond.code_spec B.named (atoms_spec (ws := Cond.code x b n ret :: ws') B.pre _ List.mem_cons_self)
  cases Option.some.inj (h1.symm.trans B.method)
  cases Option.some.inj (h2.symm.trans (Stand.of_body B).code)
  intro x hx
  rw [Array.isEmpty_iff.mp h7] at hx
  cases hx
theorem wMi_of {y : MethodName} {n : Nat} {b : ByteArray} {ret : FieldType} {rm : Room} {av : List Value} {post : Int → wZ → Prop} (L0 : List (Option Value)) (hy : plainName y.cls = true) (hcat : ∀ v, v ∈ av → v.category = 1) (hn : av.length ≤ n) (hL0 : av.map some ++ List.replicate (n - av.length) none = L0) (hd : wDi ad sh)
    (body : ∀ (p : Program) (e : Env) (s : State) (m : MethodId) (args : Array Value) (below : List Frame) (meth : Method) (c : Code) (A : Nat → Prop), wG p s m args meth c b y.cls n D aC ad A sh → meth.sig.returnType = some ret → JW p l e rm s m args below meth c n D aC ad A sh (MQ below (wQi D aC ad sh post A) args s 0 0 A) 0 0 z 0 L0 []) : wMi l D aC ad sh y b n ret rm av z post := by
  intro sz
  refine Met.ofW (cc := b) (maxL := n) (ret := some ret) hy rfl ?_
  intro p e s m args below meth c s₁ B hml hv
  have hex := w_table (S := headSpec (Cond.code y b n (some ret) :: wALL) rm) B
  obtain ⟨rfl, rfl, hP, hK⟩ := hv
  have hts := atoms_spec (ws := Cond.code y b n (some ret) :: wALL) B.pre
  have G : wG p s m av.toArray meth c b y.cls n D aC ad (wAd ad sh s.heap.size) sh := ⟨B.exec, B.bytes, hml, findClass_of_methodNamed B.named, fun w h => hts w (List.mem_cons_of_mem _ h), hK, hd, fun q hq => Or.inl ⟨q, hq, rfl⟩, fun q h => Or.inr h, B.notSynchronized, hex⟩
  have k := body p e s m _ below meth c _ G B.returns s.heap [] _ hP va_S.rf (hL0 ▸ lvh_entry hcat hn)
  rw [lg_entry_eq]
  exact k
theorem wMv_of {y : MethodName} {n : Nat} {b : ByteArray} {rm : Room} {av : List Value} {post : wZ → Prop} (L0 : List (Option Value)) (hy : plainName y.cls = true) (hcat : ∀ v, v ∈ av → v.category = 1) (hn : av.length ≤ n) (hL0 : av.map some ++ List.replicate (n - av.length) none = L0) (hd : wDi ad sh)
    (body : ∀ (p : Program) (e : Env) (s : State) (m : MethodId) (args : Array Value) (below : List Frame) (meth : Method) (c : Code) (A : Nat → Prop), wG p s m args meth c b y.cls n D aC ad A sh → meth.sig.returnType = none → JW p l e rm s m args below meth c n D aC ad A sh (MQ below (wQv D aC ad sh post A) args s 0 0 A) 0 0 z 0 L0 []) : wMv l D aC ad sh y b n rm av z post := by
  intro sz
  refine Met.ofW (cc := b) (maxL := n) (ret := none) hy rfl ?_
  intro p e s m args below meth c s₁ B hml hv
  have hex := w_table (S := headSpec (Cond.code y b n none :: wALL) rm) B
  obtain ⟨rfl, rfl, hP, hK⟩ := hv
  have hts := atoms_spec (ws := Cond.code y b n none :: wALL) B.pre
  have G : wG p s m av.toArray meth c b y.cls n D aC ad (wAd ad sh s.heap.size) sh := ⟨B.exec, B.bytes, hml, findClass_of_methodNamed B.named, fun w h => hts w (List.mem_cons_of_mem _ h), hK, hd, fun q hq => Or.inl ⟨q, hq, rfl⟩, fun q h => Or.inr h, B.notSynchronized, hex⟩
  have k := body p e s m _ below meth c _ G B.returns s.heap [] _ hP va_S.rf (hL0 ▸ lvh_entry hcat hn)
  rw [lg_entry_eq]
  exact k
theorem i_reti (G : wG p s m args meth c cc own nL D aC ad A sh) {post : Int → wZ → Prop} {x : Int} (hr : meth.sig.returnType = some .int) (hdg : decode cc pc = .ok (.ireturn, 1)) (hp : post x z) : JW p l e R s m args below meth c nL D aC ad A sh (MQ below (wQi D aC ad sh post A) args s cells slots A) cells slots z pc L [vi x] :=
  fun H locs ls hP hS hl => W.iret (v := Int32.ofInt x) G.1 G.2.1 hr (fun t ht hW => ⟨⟨_, z, rfl, ⟨x, rfl, hp⟩, by rw [ht]; exact hP, va_K.moved hW.alike G.K⟩, hS.F ht⟩) hS.2.2 hdg G.locks
theorem i_retz (G : wG p s m args meth c cc own nL D aC ad A sh) {post : Int → wZ → Prop} {x : Int} (hr : meth.sig.returnType = some .boolean) (hx : x = 0 ∨ x = 1) (hdg : decode cc pc = .ok (.ireturn, 1)) (hp : post x z) : JW p l e R s m args below meth c nL D aC ad A sh (MQ below (wQi D aC ad sh post A) args s cells slots A) cells slots z pc L [vi x] :=
  fun H locs ls hP hS hl => W.zret (v := Int32.ofInt x) G.1 G.2.1 hr (wi_nz hx) (fun t ht hW => ⟨⟨_, z, rfl, ⟨x, rfl, hp⟩, by rw [ht]; exact hP, va_K.moved hW.alike G.K⟩, hS.F ht⟩) hS.2.2 hdg G.locks
theorem i_retc (G : wG p s m args meth c cc own nL D aC ad A sh) {post : Int → wZ → Prop} {x : Int} (hr : meth.sig.returnType = some .char) (hx : 0 ≤ x ∧ x < 65536) (hdg : decode cc pc = .ok (.ireturn, 1)) (hp : post x z) : JW p l e R s m args below meth c nL D aC ad A sh (MQ below (wQi D aC ad sh post A) args s cells slots A) cells slots z pc L [vi x] :=
  fun H locs ls hP hS hl => W.zret (v := Int32.ofInt x) G.1 G.2.1 hr (wi_nc hx) (fun t ht hW => ⟨⟨_, z, rfl, ⟨x, rfl, hp⟩, by rw [ht]; exact hP, va_K.moved hW.alike G.K⟩, hS.F ht⟩) hS.2.2 hdg G.locks
theorem i_retv (G : wG p s m args meth c cc own nL D aC ad A sh) {post : wZ → Prop} (hr : meth.sig.returnType = none) (hdg : decode cc pc = .ok (.return_, 1)) (hp : post z) : JW p l e R s m args below meth c nL D aC ad A sh (MQ below (wQv D aC ad sh post A) args s cells slots A) cells slots z pc L [] :=
  fun H locs ls hP hS hl => W.vret G.1 G.2.1 hr (fun t ht hW => ⟨⟨z, rfl, hp, by rw [ht]; exact hP, va_K.moved hW.alike G.K⟩, hS.F ht⟩) hS.2.2 hdg G.locks
/-- the words of a call -/
def wCV (own : String) (idx : Nat) (C : String) (y : MethodName) (b : ByteArray) (n : Nat) (ret : Option FieldType) (k : Nat) : Prop := (Cond.methodLink own idx y ∈ wALL ∧ Cond.instanceMethod y ∈ wALL ∧ Cond.selects C y y ∈ wALL ∧ Cond.initialized C ∈ wALL ∧ Cond.code y b n ret ∈ wALL) ∧ y.cls = C ∧ y.cls ≠ "java/lang/invoke/MethodHandle" ∧ y.cls ≠ "java/lang/invoke/VarHandle" ∧ (parseMethodDescriptor y.desc).map (fun d => d.parameters.length) = some k
def wCS (own : String) (idx : Nat) (y : MethodName) (b : ByteArray) (n : Nat) (ret : Option FieldType) (k : Nat) : Prop := (Cond.methodLink own idx y ∈ wALL ∧ Cond.static y ∈ wALL ∧ Cond.initialized own ∈ wALL ∧ Cond.code y b n ret ∈ wALL) ∧ y.cls = own ∧ y.cls ≠ "java/lang/invoke/MethodHandle" ∧ y.cls ≠ "java/lang/invoke/VarHandle" ∧ (parseMethodDescriptor y.desc).map (fun d => d.parameters.length) = some k
theorem w_good {w : Cond} (h : w ∈ wALL) : w ∈ wALL ∧ ((w.onTables && w.keeps) = true ∨ ∃ ty, w = .arrayClass ty) := ⟨h, good_of_word (wALL_good h)⟩
theorem wCV.good {idx k : Nat} {C : String} {y : MethodName} {b : ByteArray} {n : Nat} {ret : Option FieldType} (h : wCV own idx C y b n ret k) : GoodIn wALL (wsV own idx C y (Cond.code y b n ret :: wALL)) := by
  intro w hw
  simp only [wsV, List.cons_append, List.nil_append, List.mem_cons] at hw
  rcases hw with rfl | rfl | rfl | rfl | rfl | hw
  · exact w_good h.1.1
  · exact w_good h.1.2.1
  · exact w_good h.1.2.2.1
  · exact w_good h.1.2.2.2.1
  · exact w_good h.1.2.2.2.2
  · exact w_good hw
theorem wCS.good {idx k : Nat} {y : MethodName} {b : ByteArray} {n : Nat} {ret : Option FieldType} (h : wCS own idx y b n ret k) : GoodIn wALL (wsS own idx y (Cond.code y b n ret :: wALL)) := by
  intro w hw
  simp only [wsS, List.cons_append, List.nil_append, List.mem_cons] at hw
  rcases hw with rfl | rfl | rfl | rfl | hw
  · exact w_good h.1.1
  · exact w_good h.1.2.1
  · exact w_good h.1.2.2.1
  · exact w_good h.1.2.2.2
  · exact w_good hw
def wRm (rm R : Room) (n : Nat) : Prop := rm.cells = 0 ∧ rm.slots = 0 ∧ rm.frames + 1 ≤ R.frames ∧ 8 + (n + 11) + rm.locals ≤ R.locals
theorem i_calli (G : wG p s m args meth c cc own nL D aC ad A sh) {y : MethodName} {b : ByteArray} {n : Nat} {ret : FieldType} {rm : Room} {post : Int → wZ → Prop} {idx nb ci N q0 : Nat} {C : String} {T : u_T} {fs : List wF} {As : List Value} {st0 : List Value} (K : wCV own idx C y b n (some ret) As.length) (hM : wMi l D aC ad sh y b n ret rm (.ref (ad nb) :: As) z post) (hst : st0 = As.reverse ++ .ref (ad nb) :: st) (he : sh[q0]? = some (nb, .inl (ci, fs))) (hc : vwCl[ci]? = some (C, T, N)) (hr : wRm rm R n) (hcs : cells ≤ R.cells ∧ slots ≤ R.slots) (hcat : (st.map fun v => v.category).sum ≤ 8) (hdg : decode cc pc = .ok (.invokevirtual idx, 3))
    (kk : ∀ (r : Int) (z' : wZ), post r z' → JW p l e R s m args below meth c nL D aC ad A sh Q cells slots z' (pc + 3) L (vi r :: st)) : JW p l e R s m args below meth c nL D aC ad A sh Q cells slots z pc L st0 :=
  fun H locs ls hP hS hl => by
    subst hst
    have hA := G.hA hS.1
    exact va_calli (va_runV (As := As) (rest := st) ⟨G.1, G.2.1, G.2.2.1, G.hown, G.ts⟩ (hM H.size) (cwV As.length G.ts K.good rfl hr.1 hr.2.1 K.2 ⟨hr.2.2.1, hr.2.2.2⟩)
      ⟨wPc_blind, va_recv G.K hP (ci := ci) (q0 := q0) hc (wd_get he), fun U hU hW => ⟨rfl, by rw [hU], by rw [hU]; exact hP, va_K.moved hW.alike G.K⟩⟩ rfl rfl hl.1 rfl (lv_room hcat) hdg hcs) hS (fun q _ h => hA q h) hA
      (fun r u t H1 locs1 ht hvm hw hB hz1 hk1 hS1 => by
        obtain ⟨i, rfl, hi⟩ := hw
        exact kk i u hi H1 locs1 ls (ht ▸ hB.1) hS1 hl)
theorem i_callv (G : wG p s m args meth c cc own nL D aC ad A sh) {y : MethodName} {b : ByteArray} {n : Nat} {rm : Room} {post : wZ → Prop} {idx nb ci N q0 : Nat} {C : String} {T : u_T} {fs : List wF} {As : List Value} {st0 : List Value} (K : wCV own idx C y b n none As.length) (hM : wMv l D aC ad sh y b n rm (.ref (ad nb) :: As) z post) (hst : st0 = As.reverse ++ .ref (ad nb) :: st) (he : sh[q0]? = some (nb, .inl (ci, fs))) (hc : vwCl[ci]? = some (C, T, N)) (hr : wRm rm R n) (hcs : cells ≤ R.cells ∧ slots ≤ R.slots) (hcat : (st.map fun v => v.category).sum ≤ 8) (hdg : decode cc pc = .ok (.invokevirtual idx, 3))
    (kk : ∀ (z' : wZ), post z' → JW p l e R s m args below meth c nL D aC ad A sh Q cells slots z' (pc + 3) L st) : JW p l e R s m args below meth c nL D aC ad A sh Q cells slots z pc L st0 :=
  fun H locs ls hP hS hl => by
    subst hst
    have hA := G.hA hS.1
    exact va_callv (va_runV (As := As) (rest := st) ⟨G.1, G.2.1, G.2.2.1, G.hown, G.ts⟩ (hM H.size) (cwV As.length G.ts K.good rfl hr.1 hr.2.1 K.2 ⟨hr.2.2.1, hr.2.2.2⟩)
      ⟨wPc_blind, va_recv G.K hP (ci := ci) (q0 := q0) hc (wd_get he), fun U hU hW => ⟨rfl, by rw [hU], by rw [hU]; exact hP, va_K.moved hW.alike G.K⟩⟩ rfl rfl hl.1 rfl (lv_room hcat) hdg hcs) hS (fun q _ h => hA q h) hA
      (fun u t H1 locs1 ht hvm hw hB hz1 hk1 hS1 => kk u hw H1 locs1 ls (ht ▸ hB.1) hS1 hl)
theorem i_callsi (G : wG p s m args meth c cc own nL D aC ad A sh) {y : MethodName} {b : ByteArray} {n : Nat} {ret : FieldType} {rm : Room} {post : Int → wZ → Prop} {idx : Nat} {As : List Value} {st0 : List Value} (K : wCS own idx y b n (some ret) As.length) (hM : wMi l D aC ad sh y b n ret rm As z post) (hst : st0 = As.reverse ++ st) (hr : wRm rm R n) (hcs : cells ≤ R.cells ∧ slots ≤ R.slots) (hcat : (st.map fun v => v.category).sum ≤ 8) (hdg : decode cc pc = .ok (.invokestatic idx, 3))
    (kk : ∀ (r : Int) (z' : wZ), post r z' → JW p l e R s m args below meth c nL D aC ad A sh Q cells slots z' (pc + 3) L (vi r :: st)) : JW p l e R s m args below meth c nL D aC ad A sh Q cells slots z pc L st0 :=
  fun H locs ls hP hS hl => by
    subst hst
    have hA := G.hA hS.1
    exact va_calli (va_runS (As := As) (rest := st) ⟨G.1, G.2.1, G.2.2.1, G.hown, G.ts⟩ (hM H.size) (cwS As.length G.ts K.good rfl hr.1 hr.2.1 K.2 ⟨hr.2.2.1, hr.2.2.2⟩)
      ⟨wPc_blind, fun U hU hW => ⟨rfl, by rw [hU], by rw [hU]; exact hP, va_K.moved hW.alike G.K⟩⟩ rfl rfl hl.1 rfl (lv_room hcat) hdg hcs) hS (fun q _ h => hA q h) hA
      (fun r u t H1 locs1 ht hvm hw hB hz1 hk1 hS1 => by
        obtain ⟨i, rfl, hi⟩ := hw
        exact kk i u hi H1 locs1 ls (ht ▸ hB.1) hS1 hl)
end WJ
end
section
/-! THE STATE IN TWO: z, what both sides share (places below 64), y, each side's own (the others) -/
section WZC
def zc (z y : wZ) : wZ := fun k => if k < 64 then z k else y k
theorem zc_z {z y : wZ} {k : Nat} (h : k < 64) : zc z y k = z k := by simp [zc, h]
theorem zc_y {z y : wZ} {k : Nat} (h : ¬ k < 64) : zc z y k = y k := by simp [zc, h]
theorem zp_zc {z y : wZ} {k : Nat} {a x : Int} (h : k < 64) : zp (zc z y) k a x = zc (zp z k a x) y := by
  funext k' a'
  by_cases h1 : k' < 64
  · simp [zp, zc, h1]
  · have h2 : ¬ k' = k := by omega
    simp [zp, zc, h1, h2]
theorem zp_yc {z y : wZ} {k : Nat} {a x : Int} (h : ¬ k < 64) : zp (zc z y) k a x = zc z (zp y k a x) := by
  funext k' a'
  by_cases h1 : k' < 64
  · have h2 : ¬ k' = k := by omega
    simp [zp, zc, h1, h2]
  · simp [zp, zc, h1]
def wlo (k : Nat) : Int := match k with
  | 26 => -1
  | _ => 0
def whi (k : Nat) : Int := match k with
  | 0 => 16
  | 1 => 24
  | 2 => 30
  | 3 => 40
  | 4 => 4
  | 5 => 10
  | 6 => 60000
  | 7 => 50
  | 8 => 480
  | 10 => 1
  | 11 => 15
  | 12 => 15
  | 13 => 300
  | 14 => 300
  | 15 => 1
  | 16 => 1
  | 17 => 15
  | 18 => 15
  | 19 => 23
  | 20 => 300
  | 21 => 1
  | 22 => 100
  | 23 => 65535
  | 24 => 29
  | 25 => 1000
  | 26 => 3
  | 27 => 15
  | 28 => 3
  | 29 => 60000
  | 30 => 1
  | 31 => 50
  | 32 => 2
  | 64 => 1000000
  | 65 => 1000000
  | 66 => 1000000
  | 70 => 1000000
  | 71 => 5
  | 72 => 2
  | _ => 0
def Rng (z : wZ) : Prop := ∀ (k : Nat) (a : Int), wlo k ≤ z k a ∧ z k a ≤ whi k
theorem Rng_zp {z : wZ} (h : Rng z) {k : Nat} {a x : Int} (hx : wlo k ≤ x ∧ x ≤ whi k) : Rng (zp z k a x) := by
  intro k' a'
  by_cases e : k' = k ∧ a' = a
  · obtain ⟨rfl, rfl⟩ := e
    rw [zp_same]; exact hx
  · rw [zp_ne z e]; exact h k' a'
variable {p : Program} {l : Launch} {e : Env} {R : Room} {s : State} {m : MethodId} {args : Array Value} {below : List Frame} {meth : Method} {c : Code} {cc : ByteArray} {own : String} {nL : Nat} {D : va_G} {aC : Nat → ClassId} {ad : Nat → Nat} {A : Nat → Prop} {sh : wSh} {Q : State → Prop} {cells slots : Nat} {z y : wZ} {pc : Nat} {L : List (Option Value)} {st : List Value}
theorem j_getz (G : wG p s m args meth c cc own nL D aC ad A sh) {idx ci k N n : Nat} {C : String} {T : u_T} (F : wFL own idx ci k C T N) (q0 : Nat) {fs : List wF} (he : sh[q0]? = some (n, .inl (ci, fs))) {kz : Nat} {az : Int} (hf : fs[k]? = some (.inr (kz, az))) (hk : kz < 64) (hdg : decode cc pc = .ok (.getfield idx, 3)) (kk : JW p l e R s m args below meth c nL D aC ad A sh Q cells slots (zc z y) (pc + 3) L (vi (z kz az) :: st)) : JW p l e R s m args below meth c nL D aC ad A sh Q cells slots (zc z y) pc L (.ref (ad n) :: st) :=
  i_geti G F q0 he hf hdg (by rw [zc_z hk]; exact kk)
theorem j_gety (G : wG p s m args meth c cc own nL D aC ad A sh) {idx ci k N n : Nat} {C : String} {T : u_T} (F : wFL own idx ci k C T N) (q0 : Nat) {fs : List wF} (he : sh[q0]? = some (n, .inl (ci, fs))) {kz : Nat} {az : Int} (hf : fs[k]? = some (.inr (kz, az))) (hk : ¬ kz < 64) (hdg : decode cc pc = .ok (.getfield idx, 3)) (kk : JW p l e R s m args below meth c nL D aC ad A sh Q cells slots (zc z y) (pc + 3) L (vi (y kz az) :: st)) : JW p l e R s m args below meth c nL D aC ad A sh Q cells slots (zc z y) pc L (.ref (ad n) :: st) :=
  i_geti G F q0 he hf hdg (by rw [zc_y hk]; exact kk)
theorem j_putz (G : wG p s m args meth c cc own nL D aC ad A sh) {idx ci k N n : Nat} {C : String} {T : u_T} {ty0 : Nat → FieldType} (F : wFP own idx ci k C T N ty0) (q0 : Nat) {fs : List wF} (he : sh[q0]? = some (n, .inl (ci, fs))) {kz : Nat} {az x : Int} (hf : fs[k]? = some (.inr (kz, az))) (hk : kz < 64) (ho : wOnly sh q0 kz = true) (hoF : wOnlyF fs k kz = true) (hR : Rng z) (hx : wlo kz ≤ x ∧ x ≤ whi kz) (hdg : decode cc pc = .ok (.putfield idx, 3)) (kk : ∀ z' : wZ, z' = zp z kz az x → Rng z' → JW p l e R s m args below meth c nL D aC ad A sh Q cells slots (zc z' y) (pc + 3) L st) : JW p l e R s m args below meth c nL D aC ad A sh Q cells slots (zc z y) pc L (vi x :: .ref (ad n) :: st) :=
  i_puti G F q0 he hf ho hoF hdg (by rw [zp_zc hk]; exact kk _ rfl (Rng_zp hR hx))
theorem j_puty (G : wG p s m args meth c cc own nL D aC ad A sh) {idx ci k N n : Nat} {C : String} {T : u_T} {ty0 : Nat → FieldType} (F : wFP own idx ci k C T N ty0) (q0 : Nat) {fs : List wF} (he : sh[q0]? = some (n, .inl (ci, fs))) {kz : Nat} {az x : Int} (hf : fs[k]? = some (.inr (kz, az))) (hk : ¬ kz < 64) (ho : wOnly sh q0 kz = true) (hoF : wOnlyF fs k kz = true) (hR : Rng y) (hx : wlo kz ≤ x ∧ x ≤ whi kz) (hdg : decode cc pc = .ok (.putfield idx, 3)) (kk : ∀ y' : wZ, y' = zp y kz az x → Rng y' → JW p l e R s m args below meth c nL D aC ad A sh Q cells slots (zc z y') (pc + 3) L st) : JW p l e R s m args below meth c nL D aC ad A sh Q cells slots (zc z y) pc L (vi x :: .ref (ad n) :: st) :=
  i_puti G F q0 he hf ho hoF hdg (by rw [zp_yc hk]; exact kk _ rfl (Rng_zp hR hx))
theorem j_iald_z (G : wG p s m args meth c cc own nL D aC ad A sh) (q0 : Nat) {n len k : Nat} (he : sh[q0]? = some (n, .inr (0, len, k))) (hn : len < 2147483648) (hk : k < 64) {a : Int} (h0 : 0 ≤ a) (h1 : a < (len : Int)) (hdg : decode cc pc = .ok (.iaload, 1)) (kk : JW p l e R s m args below meth c nL D aC ad A sh Q cells slots (zc z y) (pc + 1) L (vi (z k a) :: st)) : JW p l e R s m args below meth c nL D aC ad A sh Q cells slots (zc z y) pc L (vi a :: .ref (ad n) :: st) :=
  i_iald G q0 he hn h0 h1 hdg (by rw [zc_z hk]; exact kk)
theorem j_iald_y (G : wG p s m args meth c cc own nL D aC ad A sh) (q0 : Nat) {n len k : Nat} (he : sh[q0]? = some (n, .inr (0, len, k))) (hn : len < 2147483648) (hk : ¬ k < 64) {a : Int} (h0 : 0 ≤ a) (h1 : a < (len : Int)) (hdg : decode cc pc = .ok (.iaload, 1)) (kk : JW p l e R s m args below meth c nL D aC ad A sh Q cells slots (zc z y) (pc + 1) L (vi (y k a) :: st)) : JW p l e R s m args below meth c nL D aC ad A sh Q cells slots (zc z y) pc L (vi a :: .ref (ad n) :: st) :=
  i_iald G q0 he hn h0 h1 hdg (by rw [zc_y hk]; exact kk)
theorem j_zald_z (G : wG p s m args meth c cc own nL D aC ad A sh) (q0 : Nat) {n len k : Nat} (he : sh[q0]? = some (n, .inr (1, len, k))) (hn : len < 2147483648) (hk : k < 64) {a : Int} (h0 : 0 ≤ a) (h1 : a < (len : Int)) (hdg : decode cc pc = .ok (.baload, 1)) (kk : JW p l e R s m args below meth c nL D aC ad A sh Q cells slots (zc z y) (pc + 1) L (vi (z k a) :: st)) : JW p l e R s m args below meth c nL D aC ad A sh Q cells slots (zc z y) pc L (vi a :: .ref (ad n) :: st) :=
  i_zald G q0 he hn h0 h1 hdg (by rw [zc_z hk]; exact kk)
theorem j_zald_y (G : wG p s m args meth c cc own nL D aC ad A sh) (q0 : Nat) {n len k : Nat} (he : sh[q0]? = some (n, .inr (1, len, k))) (hn : len < 2147483648) (hk : ¬ k < 64) {a : Int} (h0 : 0 ≤ a) (h1 : a < (len : Int)) (hdg : decode cc pc = .ok (.baload, 1)) (kk : JW p l e R s m args below meth c nL D aC ad A sh Q cells slots (zc z y) (pc + 1) L (vi (y k a) :: st)) : JW p l e R s m args below meth c nL D aC ad A sh Q cells slots (zc z y) pc L (vi a :: .ref (ad n) :: st) :=
  i_zald G q0 he hn h0 h1 hdg (by rw [zc_y hk]; exact kk)
theorem j_cald_z (G : wG p s m args meth c cc own nL D aC ad A sh) (q0 : Nat) {n len k : Nat} (he : sh[q0]? = some (n, .inr (2, len, k))) (hn : len < 2147483648) (hk : k < 64) {a : Int} (h0 : 0 ≤ a) (h1 : a < (len : Int)) (hdg : decode cc pc = .ok (.caload, 1)) (kk : JW p l e R s m args below meth c nL D aC ad A sh Q cells slots (zc z y) (pc + 1) L (vi (z k a) :: st)) : JW p l e R s m args below meth c nL D aC ad A sh Q cells slots (zc z y) pc L (vi a :: .ref (ad n) :: st) :=
  i_cald G q0 he hn h0 h1 hdg (by rw [zc_z hk]; exact kk)
theorem j_cald_y (G : wG p s m args meth c cc own nL D aC ad A sh) (q0 : Nat) {n len k : Nat} (he : sh[q0]? = some (n, .inr (2, len, k))) (hn : len < 2147483648) (hk : ¬ k < 64) {a : Int} (h0 : 0 ≤ a) (h1 : a < (len : Int)) (hdg : decode cc pc = .ok (.caload, 1)) (kk : JW p l e R s m args below meth c nL D aC ad A sh Q cells slots (zc z y) (pc + 1) L (vi (y k a) :: st)) : JW p l e R s m args below meth c nL D aC ad A sh Q cells slots (zc z y) pc L (vi a :: .ref (ad n) :: st) :=
  i_cald G q0 he hn h0 h1 hdg (by rw [zc_y hk]; exact kk)
theorem j_iast_z (G : wG p s m args meth c cc own nL D aC ad A sh) (q0 : Nat) {n len k : Nat} (he : sh[q0]? = some (n, .inr (0, len, k))) (hn : len < 2147483648) (hk : k < 64) {a x : Int} (h0 : 0 ≤ a) (h1 : a < (len : Int)) (ho : wOnly sh q0 k = true) (hR : Rng z) (hx : wlo k ≤ x ∧ x ≤ whi k) (hdg : decode cc pc = .ok (.iastore, 1)) (kk : ∀ w9 : wZ, w9 = zp z k a x → Rng w9 → JW p l e R s m args below meth c nL D aC ad A sh Q cells slots (zc w9 y) (pc + 1) L st) : JW p l e R s m args below meth c nL D aC ad A sh Q cells slots (zc z y) pc L (vi x :: vi a :: .ref (ad n) :: st) :=
  i_iast G q0 he hn h0 h1 ho hdg (by rw [zp_zc hk]; exact kk _ rfl (Rng_zp hR hx))
theorem j_iast_y (G : wG p s m args meth c cc own nL D aC ad A sh) (q0 : Nat) {n len k : Nat} (he : sh[q0]? = some (n, .inr (0, len, k))) (hn : len < 2147483648) (hk : ¬ k < 64) {a x : Int} (h0 : 0 ≤ a) (h1 : a < (len : Int)) (ho : wOnly sh q0 k = true) (hR : Rng y) (hx : wlo k ≤ x ∧ x ≤ whi k) (hdg : decode cc pc = .ok (.iastore, 1)) (kk : ∀ w9 : wZ, w9 = zp y k a x → Rng w9 → JW p l e R s m args below meth c nL D aC ad A sh Q cells slots (zc z w9) (pc + 1) L st) : JW p l e R s m args below meth c nL D aC ad A sh Q cells slots (zc z y) pc L (vi x :: vi a :: .ref (ad n) :: st) :=
  i_iast G q0 he hn h0 h1 ho hdg (by rw [zp_yc hk]; exact kk _ rfl (Rng_zp hR hx))
theorem j_zast_z (G : wG p s m args meth c cc own nL D aC ad A sh) (q0 : Nat) {n len k : Nat} (he : sh[q0]? = some (n, .inr (1, len, k))) (hn : len < 2147483648) (hk : k < 64) {a x : Int} (h0 : 0 ≤ a) (h1 : a < (len : Int)) (hxx : x = 0 ∨ x = 1) (ho : wOnly sh q0 k = true) (hR : Rng z) (hx : wlo k ≤ x ∧ x ≤ whi k) (hdg : decode cc pc = .ok (.bastore, 1)) (kk : ∀ w9 : wZ, w9 = zp z k a x → Rng w9 → JW p l e R s m args below meth c nL D aC ad A sh Q cells slots (zc w9 y) (pc + 1) L st) : JW p l e R s m args below meth c nL D aC ad A sh Q cells slots (zc z y) pc L (vi x :: vi a :: .ref (ad n) :: st) :=
  i_zast G q0 he hn h0 h1 hxx ho hdg (by rw [zp_zc hk]; exact kk _ rfl (Rng_zp hR hx))
theorem j_zast_y (G : wG p s m args meth c cc own nL D aC ad A sh) (q0 : Nat) {n len k : Nat} (he : sh[q0]? = some (n, .inr (1, len, k))) (hn : len < 2147483648) (hk : ¬ k < 64) {a x : Int} (h0 : 0 ≤ a) (h1 : a < (len : Int)) (hxx : x = 0 ∨ x = 1) (ho : wOnly sh q0 k = true) (hR : Rng y) (hx : wlo k ≤ x ∧ x ≤ whi k) (hdg : decode cc pc = .ok (.bastore, 1)) (kk : ∀ w9 : wZ, w9 = zp y k a x → Rng w9 → JW p l e R s m args below meth c nL D aC ad A sh Q cells slots (zc z w9) (pc + 1) L st) : JW p l e R s m args below meth c nL D aC ad A sh Q cells slots (zc z y) pc L (vi x :: vi a :: .ref (ad n) :: st) :=
  i_zast G q0 he hn h0 h1 hxx ho hdg (by rw [zp_yc hk]; exact kk _ rfl (Rng_zp hR hx))
theorem j_cast_z (G : wG p s m args meth c cc own nL D aC ad A sh) (q0 : Nat) {n len k : Nat} (he : sh[q0]? = some (n, .inr (2, len, k))) (hn : len < 2147483648) (hk : k < 64) {a x : Int} (h0 : 0 ≤ a) (h1 : a < (len : Int)) (hxx : 0 ≤ x ∧ x < 65536) (ho : wOnly sh q0 k = true) (hR : Rng z) (hx : wlo k ≤ x ∧ x ≤ whi k) (hdg : decode cc pc = .ok (.castore, 1)) (kk : ∀ w9 : wZ, w9 = zp z k a x → Rng w9 → JW p l e R s m args below meth c nL D aC ad A sh Q cells slots (zc w9 y) (pc + 1) L st) : JW p l e R s m args below meth c nL D aC ad A sh Q cells slots (zc z y) pc L (vi x :: vi a :: .ref (ad n) :: st) :=
  i_cast G q0 he hn h0 h1 hxx ho hdg (by rw [zp_zc hk]; exact kk _ rfl (Rng_zp hR hx))
theorem j_cast_y (G : wG p s m args meth c cc own nL D aC ad A sh) (q0 : Nat) {n len k : Nat} (he : sh[q0]? = some (n, .inr (2, len, k))) (hn : len < 2147483648) (hk : ¬ k < 64) {a x : Int} (h0 : 0 ≤ a) (h1 : a < (len : Int)) (hxx : 0 ≤ x ∧ x < 65536) (ho : wOnly sh q0 k = true) (hR : Rng y) (hx : wlo k ≤ x ∧ x ≤ whi k) (hdg : decode cc pc = .ok (.castore, 1)) (kk : ∀ w9 : wZ, w9 = zp y k a x → Rng w9 → JW p l e R s m args below meth c nL D aC ad A sh Q cells slots (zc z w9) (pc + 1) L st) : JW p l e R s m args below meth c nL D aC ad A sh Q cells slots (zc z y) pc L (vi x :: vi a :: .ref (ad n) :: st) :=
  i_cast G q0 he hn h0 h1 hxx ho hdg (by rw [zp_yc hk]; exact kk _ rfl (Rng_zp hR hx))
/-- a method's contract: from (z, y), the answer and the new pair -/
def cMi (l : Launch) (D : va_G) (aC : Nat → ClassId) (ad : Nat → Nat) (sh : wSh) (y0 : MethodName) (b : ByteArray) (n : Nat) (ret : FieldType) (rm : Room) (av : List Value) (z y : wZ) (post : Int → wZ → wZ → Prop) : Prop := wMi l D aC ad sh y0 b n ret rm av (zc z y) (fun r u => ∃ z' y', u = zc z' y' ∧ post r z' y')
def cMv (l : Launch) (D : va_G) (aC : Nat → ClassId) (ad : Nat → Nat) (sh : wSh) (y0 : MethodName) (b : ByteArray) (n : Nat) (rm : Room) (av : List Value) (z y : wZ) (post : wZ → wZ → Prop) : Prop := wMv l D aC ad sh y0 b n rm av (zc z y) (fun u => ∃ z' y', u = zc z' y' ∧ post z' y')
abbrev cQi (D : va_G) (aC : Nat → ClassId) (ad : Nat → Nat) (sh : wSh) (post : Int → wZ → wZ → Prop) (A : Nat → Prop) : Array Value → State → Outcome → State → Prop := wQi D aC ad sh (fun r u => ∃ z' y', u = zc z' y' ∧ post r z' y') A
abbrev cQv (D : va_G) (aC : Nat → ClassId) (ad : Nat → Nat) (sh : wSh) (post : wZ → wZ → Prop) (A : Nat → Prop) : Array Value → State → Outcome → State → Prop := wQv D aC ad sh (fun u => ∃ z' y', u = zc z' y' ∧ post z' y') A
def rmL (n : Nat) : Room := { frames := n, cells := 0, slots := 0, locals := 40 + 40 * n }
theorem rm_ok {a b n : Nat} (h : a + 1 ≤ b) (hn : n ≤ 20) : wRm (rmL a) (rmL b) n := ⟨rfl, rfl, h, by show 8 + (n + 11) + (40 + 40 * a) ≤ 40 + 40 * b; omega⟩
theorem j_reti (G : wG p s m args meth c cc own nL D aC ad A sh) {post : Int → wZ → wZ → Prop} {x : Int} (hr : meth.sig.returnType = some .int) (hdg : decode cc pc = .ok (.ireturn, 1)) (hp : post x z y) : JW p l e R s m args below meth c nL D aC ad A sh (MQ below (cQi D aC ad sh post A) args s cells slots A) cells slots (zc z y) pc L [vi x] := i_reti G hr hdg ⟨z, y, rfl, hp⟩
theorem j_retz (G : wG p s m args meth c cc own nL D aC ad A sh) {post : Int → wZ → wZ → Prop} {x : Int} (hr : meth.sig.returnType = some .boolean) (hx : x = 0 ∨ x = 1) (hdg : decode cc pc = .ok (.ireturn, 1)) (hp : post x z y) : JW p l e R s m args below meth c nL D aC ad A sh (MQ below (cQi D aC ad sh post A) args s cells slots A) cells slots (zc z y) pc L [vi x] := i_retz G hr hx hdg ⟨z, y, rfl, hp⟩
theorem j_retc (G : wG p s m args meth c cc own nL D aC ad A sh) {post : Int → wZ → wZ → Prop} {x : Int} (hr : meth.sig.returnType = some .char) (hx : 0 ≤ x ∧ x < 65536) (hdg : decode cc pc = .ok (.ireturn, 1)) (hp : post x z y) : JW p l e R s m args below meth c nL D aC ad A sh (MQ below (cQi D aC ad sh post A) args s cells slots A) cells slots (zc z y) pc L [vi x] := i_retc G hr hx hdg ⟨z, y, rfl, hp⟩
theorem j_retv (G : wG p s m args meth c cc own nL D aC ad A sh) {post : wZ → wZ → Prop} (hr : meth.sig.returnType = none) (hdg : decode cc pc = .ok (.return_, 1)) (hp : post z y) : JW p l e R s m args below meth c nL D aC ad A sh (MQ below (cQv D aC ad sh post A) args s cells slots A) cells slots (zc z y) pc L [] := i_retv G hr hdg ⟨z, y, rfl, hp⟩
theorem j_calli (G : wG p s m args meth c cc own nL D aC ad A sh) {y0 : MethodName} {b : ByteArray} {n : Nat} {ret : FieldType} {rm : Room} {post : Int → wZ → wZ → Prop} {idx nb ci N q0 : Nat} {C : String} {T : u_T} {fs : List wF} {As : List Value} {st0 : List Value} (K : wCV own idx C y0 b n (some ret) As.length) (hM : cMi l D aC ad sh y0 b n ret rm (.ref (ad nb) :: As) z y post) (hst : st0 = As.reverse ++ .ref (ad nb) :: st) (he : sh[q0]? = some (nb, .inl (ci, fs))) (hc : vwCl[ci]? = some (C, T, N)) (hr : wRm rm R n) (hcs : cells ≤ R.cells ∧ slots ≤ R.slots) (hcat : (st.map fun v => v.category).sum ≤ 8) (hdg : decode cc pc = .ok (.invokevirtual idx, 3))
    (kk : ∀ (r : Int) (z' y' : wZ), post r z' y' → JW p l e R s m args below meth c nL D aC ad A sh Q cells slots (zc z' y') (pc + 3) L (vi r :: st)) : JW p l e R s m args below meth c nL D aC ad A sh Q cells slots (zc z y) pc L st0 :=
  i_calli G K hM hst he hc hr hcs hcat hdg (fun r u h => by obtain ⟨z', y', rfl, h⟩ := h; exact kk r z' y' h)
theorem j_callv (G : wG p s m args meth c cc own nL D aC ad A sh) {y0 : MethodName} {b : ByteArray} {n : Nat} {rm : Room} {post : wZ → wZ → Prop} {idx nb ci N q0 : Nat} {C : String} {T : u_T} {fs : List wF} {As : List Value} {st0 : List Value} (K : wCV own idx C y0 b n none As.length) (hM : cMv l D aC ad sh y0 b n rm (.ref (ad nb) :: As) z y post) (hst : st0 = As.reverse ++ .ref (ad nb) :: st) (he : sh[q0]? = some (nb, .inl (ci, fs))) (hc : vwCl[ci]? = some (C, T, N)) (hr : wRm rm R n) (hcs : cells ≤ R.cells ∧ slots ≤ R.slots) (hcat : (st.map fun v => v.category).sum ≤ 8) (hdg : decode cc pc = .ok (.invokevirtual idx, 3))
    (kk : ∀ (z' y' : wZ), post z' y' → JW p l e R s m args below meth c nL D aC ad A sh Q cells slots (zc z' y') (pc + 3) L st) : JW p l e R s m args below meth c nL D aC ad A sh Q cells slots (zc z y) pc L st0 :=
  i_callv G K hM hst he hc hr hcs hcat hdg (fun u h => by obtain ⟨z', y', rfl, h⟩ := h; exact kk z' y' h)
theorem j_callsi (G : wG p s m args meth c cc own nL D aC ad A sh) {y0 : MethodName} {b : ByteArray} {n : Nat} {ret : FieldType} {rm : Room} {post : Int → wZ → wZ → Prop} {idx : Nat} {As : List Value} {st0 : List Value} (K : wCS own idx y0 b n (some ret) As.length) (hM : cMi l D aC ad sh y0 b n ret rm As z y post) (hst : st0 = As.reverse ++ st) (hr : wRm rm R n) (hcs : cells ≤ R.cells ∧ slots ≤ R.slots) (hcat : (st.map fun v => v.category).sum ≤ 8) (hdg : decode cc pc = .ok (.invokestatic idx, 3))
    (kk : ∀ (r : Int) (z' y' : wZ), post r z' y' → JW p l e R s m args below meth c nL D aC ad A sh Q cells slots (zc z' y') (pc + 3) L (vi r :: st)) : JW p l e R s m args below meth c nL D aC ad A sh Q cells slots (zc z y) pc L st0 :=
  i_callsi G K hM hst hr hcs hcat hdg (fun r u h => by obtain ⟨z', y', rfl, h⟩ := h; exact kk r z' y' h)
end WZC
end
