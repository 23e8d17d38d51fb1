section
-- ===== PART A: goes FIRST, ahead of the names: the tables' words, and 'selects' of the private methods out of them =====
/-- a private method of a class that the tables say can be made, by its rows of tables_1 -/
def lw_okq (q : MethodName × Nat) : Prop := (q.1.cls ≠ "java/lang/invoke/MethodHandle" ∧ q.1.cls ≠ "java/lang/invoke/VarHandle") ∧ Cond.instantiable q.1.cls q.2 ∈ tables_1 ∧ Cond.privateMethod q.1 ∈ tables_1 ∧ Cond.instanceMethod q.1 ∈ tables_1
theorem lw_p0 : lw_okq (⟨"FeetBridge", "tell", "(I)I"⟩, 10) := ⟨⟨by decide +kernel, by decide +kernel⟩, List.mem_of_getElem? (i := 17) (by decide +kernel), List.mem_of_getElem? (i := 232) (by decide +kernel), List.mem_of_getElem? (i := 233) (by decide +kernel)⟩
theorem lw_p1 : lw_okq (⟨"FeetBridge", "reallyCross", "(I)I"⟩, 10) := ⟨⟨by decide +kernel, by decide +kernel⟩, List.mem_of_getElem? (i := 17) (by decide +kernel), List.mem_of_getElem? (i := 301) (by decide +kernel), List.mem_of_getElem? (i := 302) (by decide +kernel)⟩
theorem lw_p2 : lw_okq (⟨"FeetBridge", "fallers", "()I"⟩, 10) := ⟨⟨by decide +kernel, by decide +kernel⟩, List.mem_of_getElem? (i := 17) (by decide +kernel), List.mem_of_getElem? (i := 354) (by decide +kernel), List.mem_of_getElem? (i := 355) (by decide +kernel)⟩
theorem lw_p3 : lw_okq (⟨"FeetBridge", "tryWalk", "(I)I"⟩, 10) := ⟨⟨by decide +kernel, by decide +kernel⟩, List.mem_of_getElem? (i := 17) (by decide +kernel), List.mem_of_getElem? (i := 358) (by decide +kernel), List.mem_of_getElem? (i := 359) (by decide +kernel)⟩
theorem lw_p4 : lw_okq (⟨"FeetBridge", "prepare", "(I)V"⟩, 10) := ⟨⟨by decide +kernel, by decide +kernel⟩, List.mem_of_getElem? (i := 17) (by decide +kernel), List.mem_of_getElem? (i := 362) (by decide +kernel), List.mem_of_getElem? (i := 363) (by decide +kernel)⟩
theorem lw_p5 : lw_okq (⟨"FeetBridge", "tryGait", "(II)I"⟩, 10) := ⟨⟨by decide +kernel, by decide +kernel⟩, List.mem_of_getElem? (i := 17) (by decide +kernel), List.mem_of_getElem? (i := 399) (by decide +kernel), List.mem_of_getElem? (i := 400) (by decide +kernel)⟩
theorem lw_p6 : lw_okq (⟨"FeetBridge$Queue", "begin", "(LFeetBridge$Bridge;)V"⟩, 4) := ⟨⟨by decide +kernel, by decide +kernel⟩, List.mem_of_getElem? (i := 107) (by decide +kernel), List.mem_of_getElem? (i := 419) (by decide +kernel), List.mem_of_getElem? (i := 420) (by decide +kernel)⟩
theorem lw_p7 : lw_okq (⟨"FeetBridge$Queue", "findFirst", "(II)Z"⟩, 4) := ⟨⟨by decide +kernel, by decide +kernel⟩, List.mem_of_getElem? (i := 107) (by decide +kernel), List.mem_of_getElem? (i := 431) (by decide +kernel), List.mem_of_getElem? (i := 432) (by decide +kernel)⟩
theorem lw_p8 : lw_okq (⟨"FeetBridge$Queue", "crosses", "(II)Z"⟩, 4) := ⟨⟨by decide +kernel, by decide +kernel⟩, List.mem_of_getElem? (i := 107) (by decide +kernel), List.mem_of_getElem? (i := 436) (by decide +kernel), List.mem_of_getElem? (i := 437) (by decide +kernel)⟩
theorem lw_p9 : lw_okq (⟨"FeetBridge$Queue", "countSafe", "(II)I"⟩, 4) := ⟨⟨by decide +kernel, by decide +kernel⟩, List.mem_of_getElem? (i := 107) (by decide +kernel), List.mem_of_getElem? (i := 454) (by decide +kernel), List.mem_of_getElem? (i := 455) (by decide +kernel)⟩
theorem lw_p10 : lw_okq (⟨"FeetBridge$Queue", "fewestFalls", "(II)I"⟩, 4) := ⟨⟨by decide +kernel, by decide +kernel⟩, List.mem_of_getElem? (i := 107) (by decide +kernel), List.mem_of_getElem? (i := 466) (by decide +kernel), List.mem_of_getElem? (i := 467) (by decide +kernel)⟩
theorem lw_p11 : lw_okq (⟨"FeetBridge$Queue", "greatest", "(III)I"⟩, 4) := ⟨⟨by decide +kernel, by decide +kernel⟩, List.mem_of_getElem? (i := 107) (by decide +kernel), List.mem_of_getElem? (i := 479) (by decide +kernel), List.mem_of_getElem? (i := 480) (by decide +kernel)⟩
theorem lw_p12 : lw_okq (⟨"FeetBridge", "layMore", "(IIII)I"⟩, 10) := ⟨⟨by decide +kernel, by decide +kernel⟩, List.mem_of_getElem? (i := 17) (by decide +kernel), List.mem_of_getElem? (i := 491) (by decide +kernel), List.mem_of_getElem? (i := 492) (by decide +kernel)⟩
theorem lw_p13 : lw_okq (⟨"FeetBridge", "crossesLaid", "(II)Z"⟩, 10) := ⟨⟨by decide +kernel, by decide +kernel⟩, List.mem_of_getElem? (i := 17) (by decide +kernel), List.mem_of_getElem? (i := 495) (by decide +kernel), List.mem_of_getElem? (i := 496) (by decide +kernel)⟩
theorem lw_p14 : lw_okq (⟨"FeetBridge", "difference", "(II)I"⟩, 10) := ⟨⟨by decide +kernel, by decide +kernel⟩, List.mem_of_getElem? (i := 17) (by decide +kernel), List.mem_of_getElem? (i := 507) (by decide +kernel), List.mem_of_getElem? (i := 508) (by decide +kernel)⟩
theorem lw_p15 : lw_okq (⟨"FeetBridge", "swayFinding", "(II)I"⟩, 10) := ⟨⟨by decide +kernel, by decide +kernel⟩, List.mem_of_getElem? (i := 17) (by decide +kernel), List.mem_of_getElem? (i := 521) (by decide +kernel), List.mem_of_getElem? (i := 522) (by decide +kernel)⟩
def lw_privs_1 : List (MethodName × Nat) := [(⟨"FeetBridge", "tell", "(I)I"⟩, 10), (⟨"FeetBridge", "reallyCross", "(I)I"⟩, 10), (⟨"FeetBridge", "fallers", "()I"⟩, 10), (⟨"FeetBridge", "tryWalk", "(I)I"⟩, 10), (⟨"FeetBridge", "prepare", "(I)V"⟩, 10), (⟨"FeetBridge", "tryGait", "(II)I"⟩, 10), (⟨"FeetBridge$Queue", "begin", "(LFeetBridge$Bridge;)V"⟩, 4), (⟨"FeetBridge$Queue", "findFirst", "(II)Z"⟩, 4), (⟨"FeetBridge$Queue", "crosses", "(II)Z"⟩, 4), (⟨"FeetBridge$Queue", "countSafe", "(II)I"⟩, 4), (⟨"FeetBridge$Queue", "fewestFalls", "(II)I"⟩, 4), (⟨"FeetBridge$Queue", "greatest", "(III)I"⟩, 4), (⟨"FeetBridge", "layMore", "(IIII)I"⟩, 10), (⟨"FeetBridge", "crossesLaid", "(II)Z"⟩, 10), (⟨"FeetBridge", "difference", "(II)I"⟩, 10), (⟨"FeetBridge", "swayFinding", "(II)I"⟩, 10)]
theorem lw_r1 : ∀ q ∈ lw_privs_1, lw_okq q := List.forall_mem_cons.mpr ⟨lw_p0, List.forall_mem_cons.mpr ⟨lw_p1, List.forall_mem_cons.mpr ⟨lw_p2, List.forall_mem_cons.mpr ⟨lw_p3, List.forall_mem_cons.mpr ⟨lw_p4, List.forall_mem_cons.mpr ⟨lw_p5, List.forall_mem_cons.mpr ⟨lw_p6, List.forall_mem_cons.mpr ⟨lw_p7, List.forall_mem_cons.mpr ⟨lw_p8, List.forall_mem_cons.mpr ⟨lw_p9, List.forall_mem_cons.mpr ⟨lw_p10, List.forall_mem_cons.mpr ⟨lw_p11, List.forall_mem_cons.mpr ⟨lw_p12, List.forall_mem_cons.mpr ⟨lw_p13, List.forall_mem_cons.mpr ⟨lw_p14, List.forall_mem_cons.mpr ⟨lw_p15, fun _ h => absurd h List.not_mem_nil⟩⟩⟩⟩⟩⟩⟩⟩⟩⟩⟩⟩⟩⟩⟩⟩
theorem lw_p16 : lw_okq (⟨"FeetBridgeModel", "become", "(II)I"⟩, 26) := ⟨⟨by decide +kernel, by decide +kernel⟩, List.mem_of_getElem? (i := 792) (by decide +kernel), List.mem_of_getElem? (i := 899) (by decide +kernel), List.mem_of_getElem? (i := 900) (by decide +kernel)⟩
theorem lw_p17 : lw_okq (⟨"FeetBridgeModel", "finding", "(I)I"⟩, 26) := ⟨⟨by decide +kernel, by decide +kernel⟩, List.mem_of_getElem? (i := 792) (by decide +kernel), List.mem_of_getElem? (i := 904) (by decide +kernel), List.mem_of_getElem? (i := 905) (by decide +kernel)⟩
theorem lw_p18 : lw_okq (⟨"FeetBridgeModel", "comes", "(III)I"⟩, 26) := ⟨⟨by decide +kernel, by decide +kernel⟩, List.mem_of_getElem? (i := 792) (by decide +kernel), List.mem_of_getElem? (i := 920) (by decide +kernel), List.mem_of_getElem? (i := 921) (by decide +kernel)⟩
theorem lw_p19 : lw_okq (⟨"FeetBridgeModel", "isWalker", "(I)Z"⟩, 26) := ⟨⟨by decide +kernel, by decide +kernel⟩, List.mem_of_getElem? (i := 792) (by decide +kernel), List.mem_of_getElem? (i := 931) (by decide +kernel), List.mem_of_getElem? (i := 932) (by decide +kernel)⟩
theorem lw_p20 : lw_okq (⟨"FeetBridgeModel", "bears", "(I)I"⟩, 26) := ⟨⟨by decide +kernel, by decide +kernel⟩, List.mem_of_getElem? (i := 792) (by decide +kernel), List.mem_of_getElem? (i := 935) (by decide +kernel), List.mem_of_getElem? (i := 936) (by decide +kernel)⟩
theorem lw_p21 : lw_okq (⟨"FeetBridgeModel", "walkerIs", "(II)I"⟩, 26) := ⟨⟨by decide +kernel, by decide +kernel⟩, List.mem_of_getElem? (i := 792) (by decide +kernel), List.mem_of_getElem? (i := 939) (by decide +kernel), List.mem_of_getElem? (i := 940) (by decide +kernel)⟩
theorem lw_p22 : lw_okq (⟨"FeetBridgeModel", "fallsOn", "(I)I"⟩, 26) := ⟨⟨by decide +kernel, by decide +kernel⟩, List.mem_of_getElem? (i := 792) (by decide +kernel), List.mem_of_getElem? (i := 944) (by decide +kernel), List.mem_of_getElem? (i := 945) (by decide +kernel)⟩
theorem lw_p23 : lw_okq (⟨"FeetBridgeModel", "doesFall", "(II)Z"⟩, 26) := ⟨⟨by decide +kernel, by decide +kernel⟩, List.mem_of_getElem? (i := 792) (by decide +kernel), List.mem_of_getElem? (i := 948) (by decide +kernel), List.mem_of_getElem? (i := 949) (by decide +kernel)⟩
theorem lw_p24 : lw_okq (⟨"FeetBridgeModel", "crosses", "(I)I"⟩, 26) := ⟨⟨by decide +kernel, by decide +kernel⟩, List.mem_of_getElem? (i := 792) (by decide +kernel), List.mem_of_getElem? (i := 970) (by decide +kernel), List.mem_of_getElem? (i := 971) (by decide +kernel)⟩
theorem lw_p25 : lw_okq (⟨"FeetBridgeModel", "isSet", "(I)Z"⟩, 26) := ⟨⟨by decide +kernel, by decide +kernel⟩, List.mem_of_getElem? (i := 792) (by decide +kernel), List.mem_of_getElem? (i := 988) (by decide +kernel), List.mem_of_getElem? (i := 989) (by decide +kernel)⟩
theorem lw_p26 : lw_okq (⟨"FeetBridgeModel", "keptAll", "()I"⟩, 26) := ⟨⟨by decide +kernel, by decide +kernel⟩, List.mem_of_getElem? (i := 792) (by decide +kernel), List.mem_of_getElem? (i := 1002) (by decide +kernel), List.mem_of_getElem? (i := 1003) (by decide +kernel)⟩
theorem lw_p27 : lw_okq (⟨"FeetBridgeModel", "wouldFall", "()I"⟩, 26) := ⟨⟨by decide +kernel, by decide +kernel⟩, List.mem_of_getElem? (i := 792) (by decide +kernel), List.mem_of_getElem? (i := 1006) (by decide +kernel), List.mem_of_getElem? (i := 1007) (by decide +kernel)⟩
theorem lw_p28 : lw_okq (⟨"FeetBridgeModel", "wouldCross", "(I)I"⟩, 26) := ⟨⟨by decide +kernel, by decide +kernel⟩, List.mem_of_getElem? (i := 792) (by decide +kernel), List.mem_of_getElem? (i := 1010) (by decide +kernel), List.mem_of_getElem? (i := 1011) (by decide +kernel)⟩
theorem lw_p29 : lw_okq (⟨"FeetBridgeModel", "putBack", "(I)I"⟩, 26) := ⟨⟨by decide +kernel, by decide +kernel⟩, List.mem_of_getElem? (i := 792) (by decide +kernel), List.mem_of_getElem? (i := 1017) (by decide +kernel), List.mem_of_getElem? (i := 1018) (by decide +kernel)⟩
theorem lw_p30 : lw_okq (⟨"FeetBridgeModel", "sumOf", "(I)I"⟩, 26) := ⟨⟨by decide +kernel, by decide +kernel⟩, List.mem_of_getElem? (i := 792) (by decide +kernel), List.mem_of_getElem? (i := 1021) (by decide +kernel), List.mem_of_getElem? (i := 1022) (by decide +kernel)⟩
theorem lw_p31 : lw_okq (⟨"FeetBridgeModel", "behind", "(II)I"⟩, 26) := ⟨⟨by decide +kernel, by decide +kernel⟩, List.mem_of_getElem? (i := 792) (by decide +kernel), List.mem_of_getElem? (i := 1033) (by decide +kernel), List.mem_of_getElem? (i := 1034) (by decide +kernel)⟩
def lw_privs_2 : List (MethodName × Nat) := [(⟨"FeetBridgeModel", "become", "(II)I"⟩, 26), (⟨"FeetBridgeModel", "finding", "(I)I"⟩, 26), (⟨"FeetBridgeModel", "comes", "(III)I"⟩, 26), (⟨"FeetBridgeModel", "isWalker", "(I)Z"⟩, 26), (⟨"FeetBridgeModel", "bears", "(I)I"⟩, 26), (⟨"FeetBridgeModel", "walkerIs", "(II)I"⟩, 26), (⟨"FeetBridgeModel", "fallsOn", "(I)I"⟩, 26), (⟨"FeetBridgeModel", "doesFall", "(II)Z"⟩, 26), (⟨"FeetBridgeModel", "crosses", "(I)I"⟩, 26), (⟨"FeetBridgeModel", "isSet", "(I)Z"⟩, 26), (⟨"FeetBridgeModel", "keptAll", "()I"⟩, 26), (⟨"FeetBridgeModel", "wouldFall", "()I"⟩, 26), (⟨"FeetBridgeModel", "wouldCross", "(I)I"⟩, 26), (⟨"FeetBridgeModel", "putBack", "(I)I"⟩, 26), (⟨"FeetBridgeModel", "sumOf", "(I)I"⟩, 26), (⟨"FeetBridgeModel", "behind", "(II)I"⟩, 26)]
theorem lw_r2 : ∀ q ∈ lw_privs_2, lw_okq q := List.forall_mem_cons.mpr ⟨lw_p16, List.forall_mem_cons.mpr ⟨lw_p17, List.forall_mem_cons.mpr ⟨lw_p18, List.forall_mem_cons.mpr ⟨lw_p19, List.forall_mem_cons.mpr ⟨lw_p20, List.forall_mem_cons.mpr ⟨lw_p21, List.forall_mem_cons.mpr ⟨lw_p22, List.forall_mem_cons.mpr ⟨lw_p23, List.forall_mem_cons.mpr ⟨lw_p24, List.forall_mem_cons.mpr ⟨lw_p25, List.forall_mem_cons.mpr ⟨lw_p26, List.forall_mem_cons.mpr ⟨lw_p27, List.forall_mem_cons.mpr ⟨lw_p28, List.forall_mem_cons.mpr ⟨lw_p29, List.forall_mem_cons.mpr ⟨lw_p30, List.forall_mem_cons.mpr ⟨lw_p31, fun _ h => absurd h List.not_mem_nil⟩⟩⟩⟩⟩⟩⟩⟩⟩⟩⟩⟩⟩⟩⟩⟩
theorem lw_p32 : lw_okq (⟨"FeetBridgeModel", "areTwo", "(II)Z"⟩, 26) := ⟨⟨by decide +kernel, by decide +kernel⟩, List.mem_of_getElem? (i := 792) (by decide +kernel), List.mem_of_getElem? (i := 1045) (by decide +kernel), List.mem_of_getElem? (i := 1046) (by decide +kernel)⟩
theorem lw_p33 : lw_okq (⟨"FeetBridgeModel", "leastCrossing", "(III)I"⟩, 26) := ⟨⟨by decide +kernel, by decide +kernel⟩, List.mem_of_getElem? (i := 792) (by decide +kernel), List.mem_of_getElem? (i := 1057) (by decide +kernel), List.mem_of_getElem? (i := 1058) (by decide +kernel)⟩
theorem lw_p34 : lw_okq (⟨"FeetBridgeModel", "orNone", "(I)I"⟩, 26) := ⟨⟨by decide +kernel, by decide +kernel⟩, List.mem_of_getElem? (i := 792) (by decide +kernel), List.mem_of_getElem? (i := 1061) (by decide +kernel), List.mem_of_getElem? (i := 1062) (by decide +kernel)⟩
theorem lw_p35 : lw_okq (⟨"FeetBridgeModel", "crossing", "(III)I"⟩, 26) := ⟨⟨by decide +kernel, by decide +kernel⟩, List.mem_of_getElem? (i := 792) (by decide +kernel), List.mem_of_getElem? (i := 1070) (by decide +kernel), List.mem_of_getElem? (i := 1071) (by decide +kernel)⟩
theorem lw_p36 : lw_okq (⟨"FeetBridgeModel", "findOrders", "(II)V"⟩, 26) := ⟨⟨by decide +kernel, by decide +kernel⟩, List.mem_of_getElem? (i := 792) (by decide +kernel), List.mem_of_getElem? (i := 1086) (by decide +kernel), List.mem_of_getElem? (i := 1087) (by decide +kernel)⟩
theorem lw_p37 : lw_okq (⟨"FeetBridgeModel", "goThrough", "(IIII)V"⟩, 26) := ⟨⟨by decide +kernel, by decide +kernel⟩, List.mem_of_getElem? (i := 792) (by decide +kernel), List.mem_of_getElem? (i := 1090) (by decide +kernel), List.mem_of_getElem? (i := 1091) (by decide +kernel)⟩
theorem lw_p38 : lw_okq (⟨"FeetBridgeModel", "lay0", "(I)V"⟩, 26) := ⟨⟨by decide +kernel, by decide +kernel⟩, List.mem_of_getElem? (i := 792) (by decide +kernel), List.mem_of_getElem? (i := 1094) (by decide +kernel), List.mem_of_getElem? (i := 1095) (by decide +kernel)⟩
theorem lw_p39 : lw_okq (⟨"FeetBridgeModel", "layBack", "(I)V"⟩, 26) := ⟨⟨by decide +kernel, by decide +kernel⟩, List.mem_of_getElem? (i := 792) (by decide +kernel), List.mem_of_getElem? (i := 1098) (by decide +kernel), List.mem_of_getElem? (i := 1099) (by decide +kernel)⟩
theorem lw_p40 : lw_okq (⟨"FeetBridgeModel", "layNew", "(I)V"⟩, 26) := ⟨⟨by decide +kernel, by decide +kernel⟩, List.mem_of_getElem? (i := 792) (by decide +kernel), List.mem_of_getElem? (i := 1118) (by decide +kernel), List.mem_of_getElem? (i := 1119) (by decide +kernel)⟩
theorem lw_p41 : lw_okq (⟨"FeetBridgeModel", "unlikeOf", "(II)I"⟩, 26) := ⟨⟨by decide +kernel, by decide +kernel⟩, List.mem_of_getElem? (i := 792) (by decide +kernel), List.mem_of_getElem? (i := 1130) (by decide +kernel), List.mem_of_getElem? (i := 1131) (by decide +kernel)⟩
theorem lw_p42 : lw_okq (⟨"FeetBridgeModel", "lacksFor", "(II)I"⟩, 26) := ⟨⟨by decide +kernel, by decide +kernel⟩, List.mem_of_getElem? (i := 792) (by decide +kernel), List.mem_of_getElem? (i := 1143) (by decide +kernel), List.mem_of_getElem? (i := 1144) (by decide +kernel)⟩
theorem lw_p43 : lw_okq (⟨"FeetBridgeModel", "lacks", "(I)I"⟩, 26) := ⟨⟨by decide +kernel, by decide +kernel⟩, List.mem_of_getElem? (i := 792) (by decide +kernel), List.mem_of_getElem? (i := 1147) (by decide +kernel), List.mem_of_getElem? (i := 1148) (by decide +kernel)⟩
theorem lw_p44 : lw_okq (⟨"FeetBridgeModel", "fitting", "(II)I"⟩, 26) := ⟨⟨by decide +kernel, by decide +kernel⟩, List.mem_of_getElem? (i := 792) (by decide +kernel), List.mem_of_getElem? (i := 1155) (by decide +kernel), List.mem_of_getElem? (i := 1156) (by decide +kernel)⟩
theorem lw_p45 : lw_okq (⟨"FeetBridgeModel", "swaysSo", "(II)Z"⟩, 26) := ⟨⟨by decide +kernel, by decide +kernel⟩, List.mem_of_getElem? (i := 792) (by decide +kernel), List.mem_of_getElem? (i := 1159) (by decide +kernel), List.mem_of_getElem? (i := 1160) (by decide +kernel)⟩
theorem lw_p46 : lw_okq (⟨"FeetBridgeModel", "drawn", "()I"⟩, 26) := ⟨⟨by decide +kernel, by decide +kernel⟩, List.mem_of_getElem? (i := 792) (by decide +kernel), List.mem_of_getElem? (i := 1175) (by decide +kernel), List.mem_of_getElem? (i := 1176) (by decide +kernel)⟩
theorem lw_p47 : lw_okq (⟨"FeetBridgeModel", "next", "()V"⟩, 26) := ⟨⟨by decide +kernel, by decide +kernel⟩, List.mem_of_getElem? (i := 792) (by decide +kernel), List.mem_of_getElem? (i := 1200) (by decide +kernel), List.mem_of_getElem? (i := 1201) (by decide +kernel)⟩
def lw_privs_3 : List (MethodName × Nat) := [(⟨"FeetBridgeModel", "areTwo", "(II)Z"⟩, 26), (⟨"FeetBridgeModel", "leastCrossing", "(III)I"⟩, 26), (⟨"FeetBridgeModel", "orNone", "(I)I"⟩, 26), (⟨"FeetBridgeModel", "crossing", "(III)I"⟩, 26), (⟨"FeetBridgeModel", "findOrders", "(II)V"⟩, 26), (⟨"FeetBridgeModel", "goThrough", "(IIII)V"⟩, 26), (⟨"FeetBridgeModel", "lay0", "(I)V"⟩, 26), (⟨"FeetBridgeModel", "layBack", "(I)V"⟩, 26), (⟨"FeetBridgeModel", "layNew", "(I)V"⟩, 26), (⟨"FeetBridgeModel", "unlikeOf", "(II)I"⟩, 26), (⟨"FeetBridgeModel", "lacksFor", "(II)I"⟩, 26), (⟨"FeetBridgeModel", "lacks", "(I)I"⟩, 26), (⟨"FeetBridgeModel", "fitting", "(II)I"⟩, 26), (⟨"FeetBridgeModel", "swaysSo", "(II)Z"⟩, 26), (⟨"FeetBridgeModel", "drawn", "()I"⟩, 26), (⟨"FeetBridgeModel", "next", "()V"⟩, 26)]
theorem lw_r3 : ∀ q ∈ lw_privs_3, lw_okq q := List.forall_mem_cons.mpr ⟨lw_p32, List.forall_mem_cons.mpr ⟨lw_p33, List.forall_mem_cons.mpr ⟨lw_p34, List.forall_mem_cons.mpr ⟨lw_p35, List.forall_mem_cons.mpr ⟨lw_p36, List.forall_mem_cons.mpr ⟨lw_p37, List.forall_mem_cons.mpr ⟨lw_p38, List.forall_mem_cons.mpr ⟨lw_p39, List.forall_mem_cons.mpr ⟨lw_p40, List.forall_mem_cons.mpr ⟨lw_p41, List.forall_mem_cons.mpr ⟨lw_p42, List.forall_mem_cons.mpr ⟨lw_p43, List.forall_mem_cons.mpr ⟨lw_p44, List.forall_mem_cons.mpr ⟨lw_p45, List.forall_mem_cons.mpr ⟨lw_p46, List.forall_mem_cons.mpr ⟨lw_p47, fun _ h => absurd h List.not_mem_nil⟩⟩⟩⟩⟩⟩⟩⟩⟩⟩⟩⟩⟩⟩⟩⟩
theorem lw_p48 : lw_okq (⟨"FeetBridgeModel", "byteAt", "(I)I"⟩, 26) := ⟨⟨by decide +kernel, by decide +kernel⟩, List.mem_of_getElem? (i := 792) (by decide +kernel), List.mem_of_getElem? (i := 1204) (by decide +kernel), List.mem_of_getElem? (i := 1205) (by decide +kernel)⟩
theorem lw_p49 : lw_okq (⟨"FeetBridgeModel", "readItem", "()V"⟩, 26) := ⟨⟨by decide +kernel, by decide +kernel⟩, List.mem_of_getElem? (i := 792) (by decide +kernel), List.mem_of_getElem? (i := 1208) (by decide +kernel), List.mem_of_getElem? (i := 1209) (by decide +kernel)⟩
theorem lw_p50 : lw_okq (⟨"FeetBridgeModel", "kindTold", "()I"⟩, 26) := ⟨⟨by decide +kernel, by decide +kernel⟩, List.mem_of_getElem? (i := 792) (by decide +kernel), List.mem_of_getElem? (i := 1212) (by decide +kernel), List.mem_of_getElem? (i := 1213) (by decide +kernel)⟩
theorem lw_p51 : lw_okq (⟨"FeetBridgeModel", "isWord", "(Ljava/lang/String;)Z"⟩, 26) := ⟨⟨by decide +kernel, by decide +kernel⟩, List.mem_of_getElem? (i := 792) (by decide +kernel), List.mem_of_getElem? (i := 1216) (by decide +kernel), List.mem_of_getElem? (i := 1217) (by decide +kernel)⟩
theorem lw_p52 : lw_okq (⟨"FeetBridgeModel", "must", "(Z)V"⟩, 26) := ⟨⟨by decide +kernel, by decide +kernel⟩, List.mem_of_getElem? (i := 792) (by decide +kernel), List.mem_of_getElem? (i := 1222) (by decide +kernel), List.mem_of_getElem? (i := 1223) (by decide +kernel)⟩
theorem lw_p53 : lw_okq (⟨"FeetBridgeModel", "afterWord", "(Ljava/lang/String;I)I"⟩, 26) := ⟨⟨by decide +kernel, by decide +kernel⟩, List.mem_of_getElem? (i := 792) (by decide +kernel), List.mem_of_getElem? (i := 1227) (by decide +kernel), List.mem_of_getElem? (i := 1228) (by decide +kernel)⟩
theorem lw_p54 : lw_okq (⟨"FeetBridgeModel", "number", "(II)I"⟩, 26) := ⟨⟨by decide +kernel, by decide +kernel⟩, List.mem_of_getElem? (i := 792) (by decide +kernel), List.mem_of_getElem? (i := 1231) (by decide +kernel), List.mem_of_getElem? (i := 1232) (by decide +kernel)⟩
theorem lw_p55 : lw_okq (⟨"FeetBridgeModel", "addItem", "(III)V"⟩, 26) := ⟨⟨by decide +kernel, by decide +kernel⟩, List.mem_of_getElem? (i := 792) (by decide +kernel), List.mem_of_getElem? (i := 1236) (by decide +kernel), List.mem_of_getElem? (i := 1237) (by decide +kernel)⟩
theorem lw_p56 : lw_okq (⟨"FeetBridgeModel", "isToldSo", "(I)I"⟩, 26) := ⟨⟨by decide +kernel, by decide +kernel⟩, List.mem_of_getElem? (i := 792) (by decide +kernel), List.mem_of_getElem? (i := 1244) (by decide +kernel), List.mem_of_getElem? (i := 1245) (by decide +kernel)⟩
def lw_privs_4 : List (MethodName × Nat) := [(⟨"FeetBridgeModel", "byteAt", "(I)I"⟩, 26), (⟨"FeetBridgeModel", "readItem", "()V"⟩, 26), (⟨"FeetBridgeModel", "kindTold", "()I"⟩, 26), (⟨"FeetBridgeModel", "isWord", "(Ljava/lang/String;)Z"⟩, 26), (⟨"FeetBridgeModel", "must", "(Z)V"⟩, 26), (⟨"FeetBridgeModel", "afterWord", "(Ljava/lang/String;I)I"⟩, 26), (⟨"FeetBridgeModel", "number", "(II)I"⟩, 26), (⟨"FeetBridgeModel", "addItem", "(III)V"⟩, 26), (⟨"FeetBridgeModel", "isToldSo", "(I)I"⟩, 26)]
theorem lw_r4 : ∀ q ∈ lw_privs_4, lw_okq q := List.forall_mem_cons.mpr ⟨lw_p48, List.forall_mem_cons.mpr ⟨lw_p49, List.forall_mem_cons.mpr ⟨lw_p50, List.forall_mem_cons.mpr ⟨lw_p51, List.forall_mem_cons.mpr ⟨lw_p52, List.forall_mem_cons.mpr ⟨lw_p53, List.forall_mem_cons.mpr ⟨lw_p54, List.forall_mem_cons.mpr ⟨lw_p55, List.forall_mem_cons.mpr ⟨lw_p56, fun _ h => absurd h List.not_mem_nil⟩⟩⟩⟩⟩⟩⟩⟩⟩
def lw_privs : List (MethodName × Nat) := lw_privs_1 ++ (lw_privs_2 ++ (lw_privs_3 ++ (lw_privs_4)))
def lw_tbl : List Cond := k2_sels lw_privs ++ tables_1
theorem lw_privs_ok : ∀ q ∈ lw_privs, lw_okq q := by
  show ∀ q ∈ lw_privs_1 ++ (lw_privs_2 ++ (lw_privs_3 ++ (lw_privs_4))), lw_okq q
  exact List.forall_mem_append.mpr ⟨lw_r1, List.forall_mem_append.mpr ⟨lw_r2, List.forall_mem_append.mpr ⟨lw_r3, lw_r4⟩⟩⟩
end
section
def RX0 : String := "FeetBridge$Bridge"
def TX0 : u_T := fun k => match k with
  | 0 => ("FeetBridge$Bridge", "keeps", "[I", true)
  | 1 => ("FeetBridge$Bridge", "kinds", "[I", true)
  | 2 => ("FeetBridge$Bridge", "gaits", "[I", true)
  | 3 => ("FeetBridge$Bridge", "balances", "[I", true)
  | 4 => ("FeetBridge$Bridge", "falls", "[I", true)
  | 5 => ("FeetBridge$Bridge", "spots", "[I", true)
  | 6 => ("FeetBridge$Bridge", "walkers", "I", false)
  | 7 => ("FeetBridge$Bridge", "night", "I", false)
  | 8 => ("FeetBridge$Bridge", "crossings", "I", false)
  | _ => ("FeetBridge$Bridge", "z", "I", false)
def tyX0 : Nat → FieldType := fun k => match k with
  | 0 => .array .int
  | 1 => .array .int
  | 2 => .array .int
  | 3 => .array .int
  | 4 => .array .int
  | 5 => .array .int
  | 6 => .int
  | 7 => .int
  | 8 => .int
  | _ => .int
theorem nmX0 : ∀ a, a < 10 → ∀ b, b < 10 → a ≠ b → (TX0 a).2.1 ≠ (TX0 b).2.1 := by decide +kernel
theorem tyX0_ok : ∀ k, k < 10 → parseFieldDescriptor (TX0 k).2.2.1 = some (tyX0 k) := by decide +kernel
abbrev cX0_init : ByteArray := prog_2_method_1_code
def yX0_init : MethodName := ⟨RX0, "<init>", "()V"⟩
abbrev cX0_become : ByteArray := prog_2_method_2_code
def yX0_become : MethodName := ⟨RX0, "become", "(LFeetBridge$Bridge;)V"⟩
abbrev cX0_has : ByteArray := prog_2_method_3_code
def yX0_has : MethodName := ⟨RX0, "has", "(I)Z"⟩
abbrev cX0_hasAll : ByteArray := prog_2_method_4_code
def yX0_hasAll : MethodName := ⟨RX0, "hasAll", "(I)Z"⟩
abbrev cX0_isFull : ByteArray := prog_2_method_5_code
def yX0_isFull : MethodName := ⟨RX0, "isFull", "()Z"⟩
abbrev cX0_add : ByteArray := prog_2_method_6_code
def yX0_add : MethodName := ⟨RX0, "add", "(III)I"⟩
abbrev cX0_bears : ByteArray := prog_2_method_7_code
def yX0_bears : MethodName := ⟨RX0, "bears", "(I)I"⟩
abbrev cX0_unfit : ByteArray := prog_2_method_8_code
def yX0_unfit : MethodName := ⟨RX0, "unfit", "(I)I"⟩
abbrev cX0_draw : ByteArray := prog_2_method_9_code
def yX0_draw : MethodName := ⟨RX0, "draw", "()I"⟩
abbrev cX0_heldSpots : ByteArray := prog_2_method_10_code
def yX0_heldSpots : MethodName := ⟨RX0, "heldSpots", "()I"⟩
def RX1 : String := "FeetBridge$Kinds"
def TX1 : u_T := fun k => match k with
  | _ => ("", "", "", false)
def tyX1 : Nat → FieldType := fun k => match k with
  | _ => .int
theorem nmX1 : ∀ a, a < 0 → ∀ b, b < 0 → a ≠ b → (TX1 a).2.1 ≠ (TX1 b).2.1 := by decide +kernel
theorem tyX1_ok : ∀ k, k < 0 → parseFieldDescriptor (TX1 k).2.2.1 = some (tyX1 k) := by decide +kernel
abbrev cX1_bears : ByteArray := prog_3_method_2_code
def yX1_bears : MethodName := ⟨RX1, "bears", "(III)I"⟩
abbrev cX1_sway : ByteArray := prog_3_method_3_code
def yX1_sway : MethodName := ⟨RX1, "sway", "(III)I"⟩
abbrev cX1_footprint : ByteArray := prog_3_method_4_code
def yX1_footprint : MethodName := ⟨RX1, "footprint", "(III)I"⟩
abbrev cX1_isUnder : ByteArray := prog_3_method_5_code
def yX1_isUnder : MethodName := ⟨RX1, "isUnder", "(II)Z"⟩
def RX2 : String := "FeetBridge$Queue"
def TX2 : u_T := fun k => match k with
  | 0 => ("FeetBridge$Queue", "bridge", "LFeetBridge$Bridge;", true)
  | 1 => ("FeetBridge$Queue", "walk", "LFeetBridge$Walk;", true)
  | 2 => ("FeetBridge$Queue", "rows", "[[I", true)
  | _ => ("FeetBridge$Queue", "places", "[I", true)
def tyX2 : Nat → FieldType := fun k => match k with
  | 0 => .object "FeetBridge$Bridge"
  | 1 => .object "FeetBridge$Walk"
  | 2 => .array (.array .int)
  | _ => .array .int
theorem nmX2 : ∀ a, a < 4 → ∀ b, b < 4 → a ≠ b → (TX2 a).2.1 ≠ (TX2 b).2.1 := by decide +kernel
theorem tyX2_ok : ∀ k, k < 4 → parseFieldDescriptor (TX2 k).2.2.1 = some (tyX2 k) := by decide +kernel
abbrev cX2_init : ByteArray := prog_4_method_1_code
def yX2_init : MethodName := ⟨RX2, "<init>", "()V"⟩
abbrev cX2_findOrder : ByteArray := prog_4_method_2_code
def yX2_findOrder : MethodName := ⟨RX2, "findOrder", "(LFeetBridge$Bridge;I)Z"⟩
abbrev cX2_countOrders : ByteArray := prog_4_method_3_code
def yX2_countOrders : MethodName := ⟨RX2, "countOrders", "(LFeetBridge$Bridge;I)I"⟩
abbrev cX2_countFalls : ByteArray := prog_4_method_4_code
def yX2_countFalls : MethodName := ⟨RX2, "countFalls", "(LFeetBridge$Bridge;I)I"⟩
abbrev cX2_findGreatest : ByteArray := prog_4_method_5_code
def yX2_findGreatest : MethodName := ⟨RX2, "findGreatest", "(LFeetBridge$Bridge;)I"⟩
abbrev cX2_placed : ByteArray := prog_4_method_6_code
def yX2_placed : MethodName := ⟨RX2, "placed", "(I)I"⟩
abbrev cX2_begin : ByteArray := prog_4_method_7_code
def yX2_begin : MethodName := ⟨RX2, "begin", "(LFeetBridge$Bridge;)V"⟩
abbrev cX2_crosses : ByteArray := prog_4_method_8_code
def yX2_crosses : MethodName := ⟨RX2, "crosses", "(II)Z"⟩
abbrev cX2_findFirst : ByteArray := prog_4_method_9_code
def yX2_findFirst : MethodName := ⟨RX2, "findFirst", "(II)Z"⟩
abbrev cX2_countSafe : ByteArray := prog_4_method_10_code
def yX2_countSafe : MethodName := ⟨RX2, "countSafe", "(II)I"⟩
abbrev cX2_fewestFalls : ByteArray := prog_4_method_11_code
def yX2_fewestFalls : MethodName := ⟨RX2, "fewestFalls", "(II)I"⟩
abbrev cX2_greatest : ByteArray := prog_4_method_12_code
def yX2_greatest : MethodName := ⟨RX2, "greatest", "(III)I"⟩
abbrev cX2_greater : ByteArray := prog_4_method_13_code
def yX2_greater : MethodName := ⟨RX2, "greater", "(II)I"⟩
def RX3 : String := "FeetBridge$Reader"
def TX3 : u_T := fun k => match k with
  | 0 => ("FeetBridge$Reader", "tape", "[I", true)
  | 1 => ("FeetBridge$Reader", "size", "I", false)
  | 2 => ("FeetBridge$Reader", "sorts", "[I", true)
  | 3 => ("FeetBridge$Reader", "starts", "[I", true)
  | 4 => ("FeetBridge$Reader", "ends", "[I", true)
  | 5 => ("FeetBridge$Reader", "values", "[I", true)
  | 6 => ("FeetBridge$Reader", "tokens", "I", false)
  | 7 => ("FeetBridge$Reader", "at", "I", false)
  | 8 => ("FeetBridge$Reader", "sort", "I", false)
  | _ => ("FeetBridge$Reader", "value", "I", false)
def tyX3 : Nat → FieldType := fun k => match k with
  | 0 => .array .int
  | 1 => .int
  | 2 => .array .int
  | 3 => .array .int
  | 4 => .array .int
  | 5 => .array .int
  | 6 => .int
  | 7 => .int
  | 8 => .int
  | _ => .int
theorem nmX3 : ∀ a, a < 10 → ∀ b, b < 10 → a ≠ b → (TX3 a).2.1 ≠ (TX3 b).2.1 := by decide +kernel
theorem tyX3_ok : ∀ k, k < 10 → parseFieldDescriptor (TX3 k).2.2.1 = some (tyX3 k) := by decide +kernel
abbrev cX3_init : ByteArray := prog_5_method_1_code
def yX3_init : MethodName := ⟨RX3, "<init>", "()V"⟩
abbrev cX3_put : ByteArray := prog_5_method_2_code
def yX3_put : MethodName := ⟨RX3, "put", "(I)V"⟩
abbrev cX3_read : ByteArray := prog_5_method_3_code
def yX3_read : MethodName := ⟨RX3, "read", "(LFeetBridge$Bridge;)I"⟩
abbrev cX3_place : ByteArray := prog_5_method_4_code
def yX3_place : MethodName := ⟨RX3, "place", "()I"⟩
abbrev cX3_look : ByteArray := prog_5_method_5_code
def yX3_look : MethodName := ⟨RX3, "look", "(I)V"⟩
abbrev cX3_readItem : ByteArray := prog_5_method_6_code
def yX3_readItem : MethodName := ⟨RX3, "readItem", "(LFeetBridge$Bridge;)Z"⟩
abbrev cX3_readWalker : ByteArray := prog_5_method_7_code
def yX3_readWalker : MethodName := ⟨RX3, "readWalker", "(LFeetBridge$Bridge;)Z"⟩
abbrev cX3_readPlank : ByteArray := prog_5_method_8_code
def yX3_readPlank : MethodName := ⟨RX3, "readPlank", "(LFeetBridge$Bridge;)Z"⟩
abbrev cX3_readNew : ByteArray := prog_5_method_9_code
def yX3_readNew : MethodName := ⟨RX3, "readNew", "(LFeetBridge$Bridge;)Z"⟩
abbrev cX3_isWord : ByteArray := prog_5_method_10_code
def yX3_isWord : MethodName := ⟨RX3, "isWord", "(I)Z"⟩
abbrev cX3_isNumber : ByteArray := prog_5_method_11_code
def yX3_isNumber : MethodName := ⟨RX3, "isNumber", "(I)Z"⟩
abbrev cX3_split : ByteArray := prog_5_method_12_code
def yX3_split : MethodName := ⟨RX3, "split", "()V"⟩
abbrev cX3_sortOf : ByteArray := prog_5_method_13_code
def yX3_sortOf : MethodName := ⟨RX3, "sortOf", "(I)I"⟩
abbrev cX3_begin : ByteArray := prog_5_method_14_code
def yX3_begin : MethodName := ⟨RX3, "begin", "(II)V"⟩
abbrev cX3_grow : ByteArray := prog_5_method_15_code
def yX3_grow : MethodName := ⟨RX3, "grow", "(I)V"⟩
abbrev cX3_nameWords : ByteArray := prog_5_method_16_code
def yX3_nameWords : MethodName := ⟨RX3, "nameWords", "()V"⟩
abbrev cX3_wordNumber : ByteArray := prog_5_method_17_code
def yX3_wordNumber : MethodName := ⟨RX3, "wordNumber", "(II)I"⟩
abbrev cX3_spells : ByteArray := prog_5_method_18_code
def yX3_spells : MethodName := ⟨RX3, "spells", "(IILjava/lang/String;)Z"⟩
def RX4 : String := "FeetBridge$Sheets"
def TX4 : u_T := fun k => match k with
  | 0 => ("FeetBridge$Sheets", "numbers", "[[I", true)
  | 1 => ("FeetBridge$Sheets", "bits", "[I", true)
  | _ => ("FeetBridge$Sheets", "sizes", "[I", true)
def tyX4 : Nat → FieldType := fun k => match k with
  | 0 => .array (.array .int)
  | 1 => .array .int
  | _ => .array .int
theorem nmX4 : ∀ a, a < 3 → ∀ b, b < 3 → a ≠ b → (TX4 a).2.1 ≠ (TX4 b).2.1 := by decide +kernel
theorem tyX4_ok : ∀ k, k < 3 → parseFieldDescriptor (TX4 k).2.2.1 = some (tyX4 k) := by decide +kernel
abbrev cX4_init : ByteArray := prog_6_method_1_code
def yX4_init : MethodName := ⟨RX4, "<init>", "()V"⟩
abbrev cX4_finding : ByteArray := prog_6_method_2_code
def yX4_finding : MethodName := ⟨RX4, "finding", "(I)I"⟩
abbrev cX4_renew : ByteArray := prog_6_method_3_code
def yX4_renew : MethodName := ⟨RX4, "renew", "(III)V"⟩
abbrev cX4_put : ByteArray := prog_6_method_4_code
def yX4_put : MethodName := ⟨RX4, "put", "(III)V"⟩
abbrev cX4_hasPart : ByteArray := prog_6_method_5_code
def yX4_hasPart : MethodName := ⟨RX4, "hasPart", "(III)Z"⟩
abbrev cX4_tells : ByteArray := prog_6_method_6_code
def yX4_tells : MethodName := ⟨RX4, "tells", "(I[I)Z"⟩
def RX5 : String := "FeetBridge$Walk"
def TX5 : u_T := fun k => match k with
  | 0 => ("FeetBridge$Walk", "row", "[I", true)
  | 1 => ("FeetBridge$Walk", "kind", "I", false)
  | 2 => ("FeetBridge$Walk", "gait", "I", false)
  | 3 => ("FeetBridge$Walk", "balance", "I", false)
  | _ => ("FeetBridge$Walk", "night", "I", false)
def tyX5 : Nat → FieldType := fun k => match k with
  | 0 => .array .int
  | 1 => .int
  | 2 => .int
  | 3 => .int
  | _ => .int
theorem nmX5 : ∀ a, a < 5 → ∀ b, b < 5 → a ≠ b → (TX5 a).2.1 ≠ (TX5 b).2.1 := by decide +kernel
theorem tyX5_ok : ∀ k, k < 5 → parseFieldDescriptor (TX5 k).2.2.1 = some (tyX5 k) := by decide +kernel
abbrev cX5_init : ByteArray := prog_7_method_1_code
def yX5_init : MethodName := ⟨RX5, "<init>", "()V"⟩
abbrev cX5_become : ByteArray := prog_7_method_2_code
def yX5_become : MethodName := ⟨RX5, "become", "(LFeetBridge$Bridge;I)V"⟩
abbrev cX5_layRow : ByteArray := prog_7_method_3_code
def yX5_layRow : MethodName := ⟨RX5, "layRow", "([I)V"⟩
abbrev cX5_go : ByteArray := prog_7_method_4_code
def yX5_go : MethodName := ⟨RX5, "go", "([I)I"⟩
def RX6 : String := "FeetBridge"
def TX6 : u_T := fun k => match k with
  | 0 => ("FeetBridge", "bridge", "LFeetBridge$Bridge;", true)
  | 1 => ("FeetBridge", "kept", "LFeetBridge$Bridge;", true)
  | 2 => ("FeetBridge", "draft", "LFeetBridge$Bridge;", true)
  | 3 => ("FeetBridge", "walk", "LFeetBridge$Walk;", true)
  | 4 => ("FeetBridge", "otherRow", "[I", true)
  | 5 => ("FeetBridge", "queue", "LFeetBridge$Queue;", true)
  | 6 => ("FeetBridge", "reader", "LFeetBridge$Reader;", true)
  | 7 => ("FeetBridge", "sheets", "LFeetBridge$Sheets;", true)
  | 8 => ("FeetBridge", "found", "[I", true)
  | _ => ("FeetBridge", "isKept", "Z", false)
def tyX6 : Nat → FieldType := fun k => match k with
  | 0 => .object "FeetBridge$Bridge"
  | 1 => .object "FeetBridge$Bridge"
  | 2 => .object "FeetBridge$Bridge"
  | 3 => .object "FeetBridge$Walk"
  | 4 => .array .int
  | 5 => .object "FeetBridge$Queue"
  | 6 => .object "FeetBridge$Reader"
  | 7 => .object "FeetBridge$Sheets"
  | 8 => .array .int
  | _ => .boolean
theorem nmX6 : ∀ a, a < 10 → ∀ b, b < 10 → a ≠ b → (TX6 a).2.1 ≠ (TX6 b).2.1 := by decide +kernel
theorem tyX6_ok : ∀ k, k < 10 → parseFieldDescriptor (TX6 k).2.2.1 = some (tyX6 k) := by decide +kernel
abbrev cX6_init : ByteArray := prog_1_method_1_code
def yX6_init : MethodName := ⟨RX6, "<init>", "()V"⟩
abbrev cX6_plank : ByteArray := prog_1_method_2_code
def yX6_plank : MethodName := ⟨RX6, "plank", "(II)I"⟩
abbrev cX6_keeps : ByteArray := prog_1_method_3_code
def yX6_keeps : MethodName := ⟨RX6, "keeps", "(I)I"⟩
abbrev cX6_walker : ByteArray := prog_1_method_4_code
def yX6_walker : MethodName := ⟨RX6, "walker", "(II)I"⟩
abbrev cX6_of : ByteArray := prog_1_method_5_code
def yX6_of : MethodName := ⟨RX6, "of", "(II)I"⟩
abbrev cX6_change : ByteArray := prog_1_method_6_code
def yX6_change : MethodName := ⟨RX6, "change", "(III)I"⟩
abbrev cX6_night : ByteArray := prog_1_method_7_code
def yX6_night : MethodName := ⟨RX6, "night", "(I)I"⟩
abbrev cX6_cross : ByteArray := prog_1_method_8_code
def yX6_cross : MethodName := ⟨RX6, "cross", "(I)I"⟩
abbrev cX6_crowd : ByteArray := prog_1_method_9_code
def yX6_crowd : MethodName := ⟨RX6, "crowd", "(I)I"⟩
abbrev cX6_now : ByteArray := prog_1_method_10_code
def yX6_now : MethodName := ⟨RX6, "now", "(I)I"⟩
abbrev cX6_would : ByteArray := prog_1_method_11_code
def yX6_would : MethodName := ⟨RX6, "would", "(I)I"⟩
abbrev cX6_becomes : ByteArray := prog_1_method_12_code
def yX6_becomes : MethodName := ⟨RX6, "becomes", "(I)I"⟩
abbrev cX6_leaves : ByteArray := prog_1_method_13_code
def yX6_leaves : MethodName := ⟨RX6, "leaves", "(II)I"⟩
abbrev cX6_after : ByteArray := prog_1_method_14_code
def yX6_after : MethodName := ⟨RX6, "after", "(II)I"⟩
abbrev cX6_often : ByteArray := prog_1_method_15_code
def yX6_often : MethodName := ⟨RX6, "often", "(I)I"⟩
abbrev cX6_balanceFor : ByteArray := prog_1_method_16_code
def yX6_balanceFor : MethodName := ⟨RX6, "balanceFor", "(I)I"⟩
abbrev cX6_gaits : ByteArray := prog_1_method_17_code
def yX6_gaits : MethodName := ⟨RX6, "gaits", "(I)I"⟩
abbrev cX6_gaitFor : ByteArray := prog_1_method_18_code
def yX6_gaitFor : MethodName := ⟨RX6, "gaitFor", "(I)I"⟩
abbrev cX6_kindsFor : ByteArray := prog_1_method_19_code
def yX6_kindsFor : MethodName := ⟨RX6, "kindsFor", "(I)I"⟩
abbrev cX6_order : ByteArray := prog_1_method_20_code
def yX6_order : MethodName := ⟨RX6, "order", "(II)I"⟩
abbrev cX6_orders : ByteArray := prog_1_method_21_code
def yX6_orders : MethodName := ⟨RX6, "orders", "(I)I"⟩
abbrev cX6_fewest : ByteArray := prog_1_method_22_code
def yX6_fewest : MethodName := ⟨RX6, "fewest", "(I)I"⟩
abbrev cX6_most : ByteArray := prog_1_method_23_code
def yX6_most : MethodName := ⟨RX6, "most", "()I"⟩
abbrev cX6_lay : ByteArray := prog_1_method_24_code
def yX6_lay : MethodName := ⟨RX6, "lay", "(I)I"⟩
abbrev cX6_best : ByteArray := prog_1_method_25_code
def yX6_best : MethodName := ⟨RX6, "best", "()I"⟩
abbrev cX6_unlike : ByteArray := prog_1_method_26_code
def yX6_unlike : MethodName := ⟨RX6, "unlike", "(II)I"⟩
abbrev cX6_taken : ByteArray := prog_1_method_27_code
def yX6_taken : MethodName := ⟨RX6, "taken", "(I)I"⟩
abbrev cX6_fits : ByteArray := prog_1_method_28_code
def yX6_fits : MethodName := ⟨RX6, "fits", "(II)I"⟩
abbrev cX6_gait : ByteArray := prog_1_method_29_code
def yX6_gait : MethodName := ⟨RX6, "gait", "(II)I"⟩
abbrev cX6_who : ByteArray := prog_1_method_30_code
def yX6_who : MethodName := ⟨RX6, "who", "(I)I"⟩
abbrev cX6_strangers : ByteArray := prog_1_method_31_code
def yX6_strangers : MethodName := ⟨RX6, "strangers", "(I)I"⟩
abbrev cX6_odds : ByteArray := prog_1_method_32_code
def yX6_odds : MethodName := ⟨RX6, "odds", "(III)J"⟩
abbrev cX6_seed : ByteArray := prog_1_method_33_code
def yX6_seed : MethodName := ⟨RX6, "seed", "(I)I"⟩
abbrev cX6_feed : ByteArray := prog_1_method_34_code
def yX6_feed : MethodName := ⟨RX6, "feed", "(II)I"⟩
abbrev cX6_wipe : ByteArray := prog_1_method_35_code
def yX6_wipe : MethodName := ⟨RX6, "wipe", "()I"⟩
abbrev cX6_text : ByteArray := prog_1_method_36_code
def yX6_text : MethodName := ⟨RX6, "text", "()I"⟩
abbrev cX6_hold : ByteArray := prog_1_method_37_code
def yX6_hold : MethodName := ⟨RX6, "hold", "(II)I"⟩
abbrev cX6_as : ByteArray := prog_1_method_38_code
def yX6_as : MethodName := ⟨RX6, "as", "(II)I"⟩
abbrev cX6_sheet : ByteArray := prog_1_method_39_code
def yX6_sheet : MethodName := ⟨RX6, "sheet", "(III)I"⟩
abbrev cX6_write : ByteArray := prog_1_method_40_code
def yX6_write : MethodName := ⟨RX6, "write", "(III)I"⟩
abbrev cX6_copy : ByteArray := prog_1_method_41_code
def yX6_copy : MethodName := ⟨RX6, "copy", "(IIIII)I"⟩
abbrev cX6_load : ByteArray := prog_1_method_42_code
def yX6_load : MethodName := ⟨RX6, "load", "(I)I"⟩
abbrev cX6_judge : ByteArray := prog_1_method_43_code
def yX6_judge : MethodName := ⟨RX6, "judge", "(I)I"⟩
abbrev cX6_image : ByteArray := prog_1_method_44_code
def yX6_image : MethodName := ⟨RX6, "image", "()I"⟩
abbrev cX6_undo : ByteArray := prog_1_method_45_code
def yX6_undo : MethodName := ⟨RX6, "undo", "()I"⟩
abbrev cX6_tear : ByteArray := prog_1_method_46_code
def yX6_tear : MethodName := ⟨RX6, "tear", "()I"⟩
abbrev cX6_count : ByteArray := prog_1_method_47_code
def yX6_count : MethodName := ⟨RX6, "count", "(I)I"⟩
abbrev cX6_status : ByteArray := prog_1_method_48_code
def yX6_status : MethodName := ⟨RX6, "status", "(I)I"⟩
abbrev cX6_tell : ByteArray := prog_1_method_49_code
def yX6_tell : MethodName := ⟨RX6, "tell", "(I)I"⟩
abbrev cX6_isPlank : ByteArray := prog_1_method_50_code
def yX6_isPlank : MethodName := ⟨RX6, "isPlank", "(I)Z"⟩
abbrev cX6_isGait : ByteArray := prog_1_method_51_code
def yX6_isGait : MethodName := ⟨RX6, "isGait", "(I)Z"⟩
abbrev cX6_isKind : ByteArray := prog_1_method_52_code
def yX6_isKind : MethodName := ⟨RX6, "isKind", "(I)Z"⟩
abbrev cX6_isSpot : ByteArray := prog_1_method_53_code
def yX6_isSpot : MethodName := ⟨RX6, "isSpot", "(I)Z"⟩
abbrev cX6_isSheet : ByteArray := prog_1_method_54_code
def yX6_isSheet : MethodName := ⟨RX6, "isSheet", "(I)Z"⟩
abbrev cX6_isIn : ByteArray := prog_1_method_55_code
def yX6_isIn : MethodName := ⟨RX6, "isIn", "(II)Z"⟩
abbrev cX6_held : ByteArray := prog_1_method_56_code
def yX6_held : MethodName := ⟨RX6, "held", "(I)I"⟩
abbrev cX6_sum : ByteArray := prog_1_method_57_code
def yX6_sum : MethodName := ⟨RX6, "sum", "([II)I"⟩
abbrev cX6_replace : ByteArray := prog_1_method_58_code
def yX6_replace : MethodName := ⟨RX6, "replace", "([III)I"⟩
abbrev cX6_reallyCross : ByteArray := prog_1_method_59_code
def yX6_reallyCross : MethodName := ⟨RX6, "reallyCross", "(I)I"⟩
abbrev cX6_fallers : ByteArray := prog_1_method_60_code
def yX6_fallers : MethodName := ⟨RX6, "fallers", "()I"⟩
abbrev cX6_prepare : ByteArray := prog_1_method_61_code
def yX6_prepare : MethodName := ⟨RX6, "prepare", "(I)V"⟩
abbrev cX6_tryWalk : ByteArray := prog_1_method_62_code
def yX6_tryWalk : MethodName := ⟨RX6, "tryWalk", "(I)I"⟩
abbrev cX6_tryGait : ByteArray := prog_1_method_63_code
def yX6_tryGait : MethodName := ⟨RX6, "tryGait", "(II)I"⟩
abbrev cX6_crossesLaid : ByteArray := prog_1_method_64_code
def yX6_crossesLaid : MethodName := ⟨RX6, "crossesLaid", "(II)Z"⟩
abbrev cX6_layMore : ByteArray := prog_1_method_65_code
def yX6_layMore : MethodName := ⟨RX6, "layMore", "(IIII)I"⟩
abbrev cX6_difference : ByteArray := prog_1_method_66_code
def yX6_difference : MethodName := ⟨RX6, "difference", "(II)I"⟩
abbrev cX6_swayFinding : ByteArray := prog_1_method_67_code
def yX6_swayFinding : MethodName := ⟨RX6, "swayFinding", "(II)I"⟩
abbrev cX6_commonDivisor : ByteArray := prog_1_method_68_code
def yX6_commonDivisor : MethodName := ⟨RX6, "commonDivisor", "(II)I"⟩
abbrev cX6_power : ByteArray := prog_1_method_69_code
def yX6_power : MethodName := ⟨RX6, "power", "(JI)J"⟩
def RX7 : String := "FeetBridgeModel"
def TX7 : u_T := fun k => match k with
  | 0 => ("FeetBridgeModel", "now", "[I", true)
  | 1 => ("FeetBridgeModel", "kept", "[I", true)
  | 2 => ("FeetBridgeModel", "aside", "[I", true)
  | 3 => ("FeetBridgeModel", "isKept", "Z", false)
  | 4 => ("FeetBridgeModel", "found", "[I", true)
  | 5 => ("FeetBridgeModel", "stood", "[I", true)
  | 6 => ("FeetBridgeModel", "path", "[I", true)
  | 7 => ("FeetBridgeModel", "firstPath", "[I", true)
  | 8 => ("FeetBridgeModel", "ordersFound", "I", false)
  | 9 => ("FeetBridgeModel", "fewestFallen", "I", false)
  | 10 => ("FeetBridgeModel", "fitMany", "I", false)
  | 11 => ("FeetBridgeModel", "tape", "[I", true)
  | 12 => ("FeetBridgeModel", "taped", "I", false)
  | 13 => ("FeetBridgeModel", "begins", "I", false)
  | 14 => ("FeetBridgeModel", "ends", "I", false)
  | 15 => ("FeetBridgeModel", "sort", "I", false)
  | 16 => ("FeetBridgeModel", "value", "I", false)
  | 17 => ("FeetBridgeModel", "isWrong", "Z", false)
  | 18 => ("FeetBridgeModel", "kindNames", "[Ljava/lang/String;", true)
  | 19 => ("FeetBridgeModel", "items", "[I", true)
  | 20 => ("FeetBridgeModel", "itemMany", "I", false)
  | 21 => ("FeetBridgeModel", "walkerThen", "I", false)
  | 22 => ("FeetBridgeModel", "widths", "[I", true)
  | 23 => ("FeetBridgeModel", "sizes", "[I", true)
  | 24 => ("FeetBridgeModel", "numbers", "[I", true)
  | _ => ("FeetBridgeModel", "moved", "[I", true)
def tyX7 : Nat → FieldType := fun k => match k with
  | 0 => .array .int
  | 1 => .array .int
  | 2 => .array .int
  | 3 => .boolean
  | 4 => .array .int
  | 5 => .array .int
  | 6 => .array .int
  | 7 => .array .int
  | 8 => .int
  | 9 => .int
  | 10 => .int
  | 11 => .array .int
  | 12 => .int
  | 13 => .int
  | 14 => .int
  | 15 => .int
  | 16 => .int
  | 17 => .boolean
  | 18 => .array (.object "java/lang/String")
  | 19 => .array .int
  | 20 => .int
  | 21 => .int
  | 22 => .array .int
  | 23 => .array .int
  | 24 => .array .int
  | _ => .array .int
theorem nmX7 : ∀ a, a < 26 → ∀ b, b < 26 → a ≠ b → (TX7 a).2.1 ≠ (TX7 b).2.1 := by decide +kernel
theorem tyX7_ok : ∀ k, k < 26 → parseFieldDescriptor (TX7 k).2.2.1 = some (tyX7 k) := by decide +kernel
abbrev cX7_init : ByteArray := prog_9_method_1_code
def yX7_init : MethodName := ⟨RX7, "<init>", "()V"⟩
abbrev cX7_finding : ByteArray := prog_9_method_2_code
def yX7_finding : MethodName := ⟨RX7, "finding", "(I)I"⟩
abbrev cX7_within : ByteArray := prog_9_method_3_code
def yX7_within : MethodName := ⟨RX7, "within", "(III)Z"⟩
abbrev cX7_become : ByteArray := prog_9_method_4_code
def yX7_become : MethodName := ⟨RX7, "become", "(II)I"⟩
abbrev cX7_copyRow : ByteArray := prog_9_method_5_code
def yX7_copyRow : MethodName := ⟨RX7, "copyRow", "([I[I)V"⟩
abbrev cX7_putBack : ByteArray := prog_9_method_6_code
def yX7_putBack : MethodName := ⟨RX7, "putBack", "(I)I"⟩
abbrev cX7_orNone : ByteArray := prog_9_method_7_code
def yX7_orNone : MethodName := ⟨RX7, "orNone", "(I)I"⟩
abbrev cX7_has : ByteArray := prog_9_method_8_code
def yX7_has : MethodName := ⟨RX7, "has", "(II)Z"⟩
abbrev cX7_bits : ByteArray := prog_9_method_9_code
def yX7_bits : MethodName := ⟨RX7, "bits", "(I)I"⟩
abbrev cX7_held : ByteArray := prog_9_method_10_code
def yX7_held : MethodName := ⟨RX7, "held", "(I)I"⟩
abbrev cX7_isPlank : ByteArray := prog_9_method_11_code
def yX7_isPlank : MethodName := ⟨RX7, "isPlank", "(I)Z"⟩
abbrev cX7_isGait : ByteArray := prog_9_method_12_code
def yX7_isGait : MethodName := ⟨RX7, "isGait", "(I)Z"⟩
abbrev cX7_isWalker : ByteArray := prog_9_method_13_code
def yX7_isWalker : MethodName := ⟨RX7, "isWalker", "(I)Z"⟩
abbrev cX7_isKind : ByteArray := prog_9_method_14_code
def yX7_isKind : MethodName := ⟨RX7, "isKind", "(I)Z"⟩
abbrev cX7_place : ByteArray := prog_9_method_15_code
def yX7_place : MethodName := ⟨RX7, "place", "(II)I"⟩
abbrev cX7_walkerIs : ByteArray := prog_9_method_16_code
def yX7_walkerIs : MethodName := ⟨RX7, "walkerIs", "(II)I"⟩
abbrev cX7_plank : ByteArray := prog_9_method_17_code
def yX7_plank : MethodName := ⟨RX7, "plank", "(II)I"⟩
abbrev cX7_keeps : ByteArray := prog_9_method_18_code
def yX7_keeps : MethodName := ⟨RX7, "keeps", "(I)I"⟩
abbrev cX7_comes : ByteArray := prog_9_method_19_code
def yX7_comes : MethodName := ⟨RX7, "comes", "(III)I"⟩
abbrev cX7_walker : ByteArray := prog_9_method_20_code
def yX7_walker : MethodName := ⟨RX7, "walker", "(II)I"⟩
abbrev cX7_bears : ByteArray := prog_9_method_21_code
def yX7_bears : MethodName := ⟨RX7, "bears", "(I)I"⟩
abbrev cX7_doesFall : ByteArray := prog_9_method_22_code
def yX7_doesFall : MethodName := ⟨RX7, "doesFall", "(II)Z"⟩
abbrev cX7_fallsOn : ByteArray := prog_9_method_23_code
def yX7_fallsOn : MethodName := ⟨RX7, "fallsOn", "(I)I"⟩
abbrev cX7_of : ByteArray := prog_9_method_24_code
def yX7_of : MethodName := ⟨RX7, "of", "(II)I"⟩
abbrev cX7_mayBe : ByteArray := prog_9_method_25_code
def yX7_mayBe : MethodName := ⟨RX7, "mayBe", "(II)Z"⟩
abbrev cX7_change : ByteArray := prog_9_method_26_code
def yX7_change : MethodName := ⟨RX7, "change", "(III)I"⟩
abbrev cX7_night : ByteArray := prog_9_method_27_code
def yX7_night : MethodName := ⟨RX7, "night", "(I)I"⟩
abbrev cX7_changedBy : ByteArray := prog_9_method_28_code
def yX7_changedBy : MethodName := ⟨RX7, "changedBy", "(III)I"⟩
abbrev cX7_keptOf : ByteArray := prog_9_method_29_code
def yX7_keptOf : MethodName := ⟨RX7, "keptOf", "(III)I"⟩
abbrev cX7_crosses : ByteArray := prog_9_method_30_code
def yX7_crosses : MethodName := ⟨RX7, "crosses", "(I)I"⟩
abbrev cX7_cross : ByteArray := prog_9_method_31_code
def yX7_cross : MethodName := ⟨RX7, "cross", "(I)I"⟩
abbrev cX7_isSet : ByteArray := prog_9_method_32_code
def yX7_isSet : MethodName := ⟨RX7, "isSet", "(I)Z"⟩
abbrev cX7_crowd : ByteArray := prog_9_method_33_code
def yX7_crowd : MethodName := ⟨RX7, "crowd", "(I)I"⟩
abbrev cX7_sumOf : ByteArray := prog_9_method_34_code
def yX7_sumOf : MethodName := ⟨RX7, "sumOf", "(I)I"⟩
abbrev cX7_keptAll : ByteArray := prog_9_method_35_code
def yX7_keptAll : MethodName := ⟨RX7, "keptAll", "()I"⟩
abbrev cX7_wouldCross : ByteArray := prog_9_method_36_code
def yX7_wouldCross : MethodName := ⟨RX7, "wouldCross", "(I)I"⟩
abbrev cX7_wouldFall : ByteArray := prog_9_method_37_code
def yX7_wouldFall : MethodName := ⟨RX7, "wouldFall", "()I"⟩
abbrev cX7_now : ByteArray := prog_9_method_38_code
def yX7_now : MethodName := ⟨RX7, "now", "(I)I"⟩
abbrev cX7_would : ByteArray := prog_9_method_39_code
def yX7_would : MethodName := ⟨RX7, "would", "(I)I"⟩
abbrev cX7_behind : ByteArray := prog_9_method_40_code
def yX7_behind : MethodName := ⟨RX7, "behind", "(II)I"⟩
abbrev cX7_becomes : ByteArray := prog_9_method_41_code
def yX7_becomes : MethodName := ⟨RX7, "becomes", "(I)I"⟩
abbrev cX7_leaves : ByteArray := prog_9_method_42_code
def yX7_leaves : MethodName := ⟨RX7, "leaves", "(II)I"⟩
abbrev cX7_areTwo : ByteArray := prog_9_method_43_code
def yX7_areTwo : MethodName := ⟨RX7, "areTwo", "(II)Z"⟩
abbrev cX7_after : ByteArray := prog_9_method_44_code
def yX7_after : MethodName := ⟨RX7, "after", "(II)I"⟩
abbrev cX7_often : ByteArray := prog_9_method_45_code
def yX7_often : MethodName := ⟨RX7, "often", "(I)I"⟩
abbrev cX7_crossing : ByteArray := prog_9_method_46_code
def yX7_crossing : MethodName := ⟨RX7, "crossing", "(III)I"⟩
abbrev cX7_leastCrossing : ByteArray := prog_9_method_47_code
def yX7_leastCrossing : MethodName := ⟨RX7, "leastCrossing", "(III)I"⟩
abbrev cX7_balanceFor : ByteArray := prog_9_method_48_code
def yX7_balanceFor : MethodName := ⟨RX7, "balanceFor", "(I)I"⟩
abbrev cX7_gaits : ByteArray := prog_9_method_49_code
def yX7_gaits : MethodName := ⟨RX7, "gaits", "(I)I"⟩
abbrev cX7_gaitFor : ByteArray := prog_9_method_50_code
def yX7_gaitFor : MethodName := ⟨RX7, "gaitFor", "(I)I"⟩
abbrev cX7_kindsFor : ByteArray := prog_9_method_51_code
def yX7_kindsFor : MethodName := ⟨RX7, "kindsFor", "(I)I"⟩
abbrev cX7_lay0 : ByteArray := prog_9_method_52_code
def yX7_lay0 : MethodName := ⟨RX7, "lay0", "(I)V"⟩
abbrev cX7_layBack : ByteArray := prog_9_method_53_code
def yX7_layBack : MethodName := ⟨RX7, "layBack", "(I)V"⟩
abbrev cX7_goThrough : ByteArray := prog_9_method_54_code
def yX7_goThrough : MethodName := ⟨RX7, "goThrough", "(IIII)V"⟩
abbrev cX7_findOrders : ByteArray := prog_9_method_55_code
def yX7_findOrders : MethodName := ⟨RX7, "findOrders", "(II)V"⟩
abbrev cX7_order : ByteArray := prog_9_method_56_code
def yX7_order : MethodName := ⟨RX7, "order", "(II)I"⟩
abbrev cX7_orders : ByteArray := prog_9_method_57_code
def yX7_orders : MethodName := ⟨RX7, "orders", "(I)I"⟩
abbrev cX7_fewest : ByteArray := prog_9_method_58_code
def yX7_fewest : MethodName := ⟨RX7, "fewest", "(I)I"⟩
abbrev cX7_most : ByteArray := prog_9_method_59_code
def yX7_most : MethodName := ⟨RX7, "most", "()I"⟩
abbrev cX7_layNew : ByteArray := prog_9_method_60_code
def yX7_layNew : MethodName := ⟨RX7, "layNew", "(I)V"⟩
abbrev cX7_lay : ByteArray := prog_9_method_61_code
def yX7_lay : MethodName := ⟨RX7, "lay", "(I)I"⟩
abbrev cX7_best : ByteArray := prog_9_method_62_code
def yX7_best : MethodName := ⟨RX7, "best", "()I"⟩
abbrev cX7_unlikeOf : ByteArray := prog_9_method_63_code
def yX7_unlikeOf : MethodName := ⟨RX7, "unlikeOf", "(II)I"⟩
abbrev cX7_unlike : ByteArray := prog_9_method_64_code
def yX7_unlike : MethodName := ⟨RX7, "unlike", "(II)I"⟩
abbrev cX7_taken : ByteArray := prog_9_method_65_code
def yX7_taken : MethodName := ⟨RX7, "taken", "(I)I"⟩
abbrev cX7_lacks : ByteArray := prog_9_method_66_code
def yX7_lacks : MethodName := ⟨RX7, "lacks", "(I)I"⟩
abbrev cX7_lacksFor : ByteArray := prog_9_method_67_code
def yX7_lacksFor : MethodName := ⟨RX7, "lacksFor", "(II)I"⟩
abbrev cX7_swaysSo : ByteArray := prog_9_method_68_code
def yX7_swaysSo : MethodName := ⟨RX7, "swaysSo", "(II)Z"⟩
abbrev cX7_fitting : ByteArray := prog_9_method_69_code
def yX7_fitting : MethodName := ⟨RX7, "fitting", "(II)I"⟩
abbrev cX7_fits : ByteArray := prog_9_method_70_code
def yX7_fits : MethodName := ⟨RX7, "fits", "(II)I"⟩
abbrev cX7_gait : ByteArray := prog_9_method_71_code
def yX7_gait : MethodName := ⟨RX7, "gait", "(II)I"⟩
abbrev cX7_who : ByteArray := prog_9_method_72_code
def yX7_who : MethodName := ⟨RX7, "who", "(I)I"⟩
abbrev cX7_drawn : ByteArray := prog_9_method_73_code
def yX7_drawn : MethodName := ⟨RX7, "drawn", "()I"⟩
abbrev cX7_strangers : ByteArray := prog_9_method_74_code
def yX7_strangers : MethodName := ⟨RX7, "strangers", "(I)I"⟩
abbrev cX7_odds : ByteArray := prog_9_method_75_code
def yX7_odds : MethodName := ⟨RX7, "odds", "(III)J"⟩
abbrev cX7_seed : ByteArray := prog_9_method_76_code
def yX7_seed : MethodName := ⟨RX7, "seed", "(I)I"⟩
abbrev cX7_feed : ByteArray := prog_9_method_77_code
def yX7_feed : MethodName := ⟨RX7, "feed", "(II)I"⟩
abbrev cX7_wipe : ByteArray := prog_9_method_78_code
def yX7_wipe : MethodName := ⟨RX7, "wipe", "()I"⟩
abbrev cX7_byteAt : ByteArray := prog_9_method_79_code
def yX7_byteAt : MethodName := ⟨RX7, "byteAt", "(I)I"⟩
abbrev cX7_next : ByteArray := prog_9_method_80_code
def yX7_next : MethodName := ⟨RX7, "next", "()V"⟩
abbrev cX7_isWord : ByteArray := prog_9_method_81_code
def yX7_isWord : MethodName := ⟨RX7, "isWord", "(Ljava/lang/String;)Z"⟩
abbrev cX7_must : ByteArray := prog_9_method_82_code
def yX7_must : MethodName := ⟨RX7, "must", "(Z)V"⟩
abbrev cX7_number : ByteArray := prog_9_method_83_code
def yX7_number : MethodName := ⟨RX7, "number", "(II)I"⟩
abbrev cX7_addItem : ByteArray := prog_9_method_84_code
def yX7_addItem : MethodName := ⟨RX7, "addItem", "(III)V"⟩
abbrev cX7_kindTold : ByteArray := prog_9_method_85_code
def yX7_kindTold : MethodName := ⟨RX7, "kindTold", "()I"⟩
abbrev cX7_afterWord : ByteArray := prog_9_method_86_code
def yX7_afterWord : MethodName := ⟨RX7, "afterWord", "(Ljava/lang/String;I)I"⟩
abbrev cX7_readItem : ByteArray := prog_9_method_87_code
def yX7_readItem : MethodName := ⟨RX7, "readItem", "()V"⟩
abbrev cX7_isToldSo : ByteArray := prog_9_method_88_code
def yX7_isToldSo : MethodName := ⟨RX7, "isToldSo", "(I)I"⟩
abbrev cX7_text : ByteArray := prog_9_method_89_code
def yX7_text : MethodName := ⟨RX7, "text", "()I"⟩
abbrev cX7_isSpot : ByteArray := prog_9_method_90_code
def yX7_isSpot : MethodName := ⟨RX7, "isSpot", "(I)Z"⟩
abbrev cX7_hold : ByteArray := prog_9_method_91_code
def yX7_hold : MethodName := ⟨RX7, "hold", "(II)I"⟩
abbrev cX7_as : ByteArray := prog_9_method_92_code
def yX7_as : MethodName := ⟨RX7, "as", "(II)I"⟩
abbrev cX7_isSheet : ByteArray := prog_9_method_93_code
def yX7_isSheet : MethodName := ⟨RX7, "isSheet", "(I)Z"⟩
abbrev cX7_cutTo : ByteArray := prog_9_method_94_code
def yX7_cutTo : MethodName := ⟨RX7, "cutTo", "(II)I"⟩
abbrev cX7_sheet : ByteArray := prog_9_method_95_code
def yX7_sheet : MethodName := ⟨RX7, "sheet", "(III)I"⟩
abbrev cX7_write : ByteArray := prog_9_method_96_code
def yX7_write : MethodName := ⟨RX7, "write", "(III)I"⟩
abbrev cX7_copy : ByteArray := prog_9_method_97_code
def yX7_copy : MethodName := ⟨RX7, "copy", "(IIIII)I"⟩
abbrev cX7_above : ByteArray := prog_9_method_98_code
def yX7_above : MethodName := ⟨RX7, "above", "(I)I"⟩
abbrev cX7_isUnder : ByteArray := prog_9_method_99_code
def yX7_isUnder : MethodName := ⟨RX7, "isUnder", "(II)Z"⟩
abbrev cX7_load : ByteArray := prog_9_method_100_code
def yX7_load : MethodName := ⟨RX7, "load", "(I)I"⟩
abbrev cX7_judge : ByteArray := prog_9_method_101_code
def yX7_judge : MethodName := ⟨RX7, "judge", "(I)I"⟩
abbrev cX7_image : ByteArray := prog_9_method_102_code
def yX7_image : MethodName := ⟨RX7, "image", "()I"⟩
abbrev cX7_undo : ByteArray := prog_9_method_103_code
def yX7_undo : MethodName := ⟨RX7, "undo", "()I"⟩
abbrev cX7_tear : ByteArray := prog_9_method_104_code
def yX7_tear : MethodName := ⟨RX7, "tear", "()I"⟩
abbrev cX7_count : ByteArray := prog_9_method_105_code
def yX7_count : MethodName := ⟨RX7, "count", "(I)I"⟩
abbrev cX7_status : ByteArray := prog_9_method_106_code
def yX7_status : MethodName := ⟨RX7, "status", "(I)I"⟩
def RJ6 : String := "java/lang/Integer"
def TJ6 : u_T := fun k => match k with
  | _ => ("", "", "", false)
def tyJ6 : Nat → FieldType := fun k => match k with
  | _ => .int
theorem nmJ6 : ∀ a, a < 0 → ∀ b, b < 0 → a ≠ b → (TJ6 a).2.1 ≠ (TJ6 b).2.1 := by decide +kernel
theorem tyJ6_ok : ∀ k, k < 0 → parseFieldDescriptor (TJ6 k).2.2.1 = some (tyJ6 k) := by decide +kernel
abbrev cJ6_bitCount_0f7a4 : ByteArray := prog_10_method_49_code
def yJ6_bitCount_0f7a4 : MethodName := ⟨RJ6, "bitCount", "(I)I"⟩
def RJ9 : String := "java/lang/Math"
def TJ9 : u_T := fun k => match k with
  | _ => ("", "", "", false)
def tyJ9 : Nat → FieldType := fun k => match k with
  | _ => .int
theorem nmJ9 : ∀ a, a < 0 → ∀ b, b < 0 → a ≠ b → (TJ9 a).2.1 ≠ (TJ9 b).2.1 := by decide +kernel
theorem tyJ9_ok : ∀ k, k < 0 → parseFieldDescriptor (TJ9 k).2.2.1 = some (tyJ9 k) := by decide +kernel
abbrev cJ9_abs_0f7a4 : ByteArray := prog_11_method_59_code
def yJ9_abs_0f7a4 : MethodName := ⟨RJ9, "abs", "(I)I"⟩
abbrev cJ9_max_7cf53 : ByteArray := prog_11_method_65_code
def yJ9_max_7cf53 : MethodName := ⟨RJ9, "max", "(II)I"⟩
abbrev cJ9_min_7cf53 : ByteArray := prog_11_method_69_code
def yJ9_min_7cf53 : MethodName := ⟨RJ9, "min", "(II)I"⟩
def RJ0 : String := "java/lang/String"
def TJ0 : u_T := fun k => match k with
  | _ => ("", "", "", false)
def tyJ0 : Nat → FieldType := fun k => match k with
  | _ => .int
theorem nmJ0 : ∀ a, a < 0 → ∀ b, b < 0 → a ≠ b → (TJ0 a).2.1 ≠ (TJ0 b).2.1 := by decide +kernel
theorem tyJ0_ok : ∀ k, k < 0 → parseFieldDescriptor (TJ0 k).2.2.1 = some (tyJ0 k) := by decide +kernel
abbrev cJ0_length_8abf5 : ByteArray := prog_12_method_54_code
def yJ0_length_8abf5 : MethodName := ⟨RJ0, "length", "()I"⟩
abbrev cJ0_charAt_5068e : ByteArray := prog_12_method_56_code
def yJ0_charAt_5068e : MethodName := ⟨RJ0, "charAt", "(I)C"⟩
abbrev cJ0_coder_7d493 : ByteArray := prog_12_method_152_code
def yJ0_coder_7d493 : MethodName := ⟨RJ0, "coder", "()B"⟩
abbrev cJ0_isLatin1_aae02 : ByteArray := prog_12_method_154_code
def yJ0_isLatin1_aae02 : MethodName := ⟨RJ0, "isLatin1", "()Z"⟩
abbrev cJ0_checkIndex_df160 : ByteArray := prog_12_method_155_code
def yJ0_checkIndex_df160 : MethodName := ⟨RJ0, "checkIndex", "(II)V"⟩
def RJ1 : String := "java/lang/StringLatin1"
def TJ1 : u_T := fun k => match k with
  | _ => ("", "", "", false)
def tyJ1 : Nat → FieldType := fun k => match k with
  | _ => .int
theorem nmJ1 : ∀ a, a < 0 → ∀ b, b < 0 → a ≠ b → (TJ1 a).2.1 ≠ (TJ1 b).2.1 := by decide +kernel
theorem tyJ1_ok : ∀ k, k < 0 → parseFieldDescriptor (TJ1 k).2.2.1 = some (tyJ1 k) := by decide +kernel
abbrev cJ1_charAt_3b067 : ByteArray := prog_13_method_2_code
def yJ1_charAt_3b067 : MethodName := ⟨RJ1, "charAt", "([BI)C"⟩
def RJ2 : String := "java/lang/StringUTF16"
def TJ2 : u_T := fun k => match k with
  | _ => ("", "", "", false)
def tyJ2 : Nat → FieldType := fun k => match k with
  | _ => .int
theorem nmJ2 : ∀ a, a < 0 → ∀ b, b < 0 → a ≠ b → (TJ2 a).2.1 ≠ (TJ2 b).2.1 := by decide +kernel
theorem tyJ2_ok : ∀ k, k < 0 → parseFieldDescriptor (TJ2 k).2.2.1 = some (tyJ2 k) := by decide +kernel
abbrev cJ2_getChar_3b067 : ByteArray := prog_14_method_5_code
def yJ2_getChar_3b067 : MethodName := ⟨RJ2, "getChar", "([BI)C"⟩
abbrev cJ2_length_9d52b : ByteArray := prog_14_method_6_code
def yJ2_length_9d52b : MethodName := ⟨RJ2, "length", "([B)I"⟩
abbrev cJ2_charAt_3b067 : ByteArray := prog_14_method_83_code
def yJ2_charAt_3b067 : MethodName := ⟨RJ2, "charAt", "([BI)C"⟩
abbrev cJ2_checkIndex_2214a : ByteArray := prog_14_method_91_code
def yJ2_checkIndex_2214a : MethodName := ⟨RJ2, "checkIndex", "(I[B)V"⟩
def RJ10 : String := "java/lang/System"
def TJ10 : u_T := fun k => match k with
  | _ => ("", "", "", false)
def tyJ10 : Nat → FieldType := fun k => match k with
  | _ => .int
theorem nmJ10 : ∀ a, a < 0 → ∀ b, b < 0 → a ≠ b → (TJ10 a).2.1 ≠ (TJ10 b).2.1 := by decide +kernel
theorem tyJ10_ok : ∀ k, k < 0 → parseFieldDescriptor (TJ10 k).2.2.1 = some (tyJ10 k) := by decide +kernel
def RJ3 : String := "jdk/internal/util/Preconditions"
def TJ3 : u_T := fun k => match k with
  | _ => ("", "", "", false)
def tyJ3 : Nat → FieldType := fun k => match k with
  | _ => .int
theorem nmJ3 : ∀ a, a < 0 → ∀ b, b < 0 → a ≠ b → (TJ3 a).2.1 ≠ (TJ3 b).2.1 := by decide +kernel
theorem tyJ3_ok : ∀ k, k < 0 → parseFieldDescriptor (TJ3 k).2.2.1 = some (tyJ3 k) := by decide +kernel
abbrev cJ3_checkIndex_8e157 : ByteArray := prog_16_method_11_code
def yJ3_checkIndex_8e157 : MethodName := ⟨RJ3, "checkIndex", "(IILjava/util/function/BiFunction;)I"⟩
def RL : String := "FeetBridgeLaw"
abbrev cL_law : ByteArray := code
def yL_law : MethodName := ⟨RL, "law", "([I)Z"⟩
abbrev vwCl : List vw_C := [(RX0, TX0, 10), (RX2, TX2, 4), (RX3, TX3, 10), (RX4, TX4, 3), (RX5, TX5, 5), (RX6, TX6, 10), (RX7, TX7, 26)]
end
section
theorem dX6_init_0 : decode cX6_init 0 = .ok (.aload_n 0, 1) := by decide +kernel
theorem dX6_init_1 : decode cX6_init 1 = .ok (.invokespecial 3, 3) := by decide +kernel
theorem dX6_init_4 : decode cX6_init 4 = .ok (.aload_n 0, 1) := by decide +kernel
theorem dX6_init_5 : decode cX6_init 5 = .ok (.new 9, 3) := by decide +kernel
theorem dX6_init_8 : decode cX6_init 8 = .ok (.dup, 1) := by decide +kernel
theorem dX6_init_9 : decode cX6_init 9 = .ok (.invokespecial 11, 3) := by decide +kernel
theorem dX6_init_12 : decode cX6_init 12 = .ok (.putfield 12, 3) := by decide +kernel
theorem dX6_init_15 : decode cX6_init 15 = .ok (.aload_n 0, 1) := by decide +kernel
theorem dX6_init_16 : decode cX6_init 16 = .ok (.new 9, 3) := by decide +kernel
theorem dX6_init_19 : decode cX6_init 19 = .ok (.dup, 1) := by decide +kernel
theorem dX6_init_20 : decode cX6_init 20 = .ok (.invokespecial 11, 3) := by decide +kernel
theorem dX6_init_23 : decode cX6_init 23 = .ok (.putfield 16, 3) := by decide +kernel
theorem dX6_init_26 : decode cX6_init 26 = .ok (.aload_n 0, 1) := by decide +kernel
theorem dX6_init_27 : decode cX6_init 27 = .ok (.new 9, 3) := by decide +kernel
theorem dX6_init_30 : decode cX6_init 30 = .ok (.dup, 1) := by decide +kernel
theorem dX6_init_31 : decode cX6_init 31 = .ok (.invokespecial 11, 3) := by decide +kernel
theorem dX6_init_34 : decode cX6_init 34 = .ok (.putfield 19, 3) := by decide +kernel
theorem dX6_init_37 : decode cX6_init 37 = .ok (.aload_n 0, 1) := by decide +kernel
theorem dX6_init_38 : decode cX6_init 38 = .ok (.new 22, 3) := by decide +kernel
theorem dX6_init_41 : decode cX6_init 41 = .ok (.dup, 1) := by decide +kernel
theorem dX6_init_42 : decode cX6_init 42 = .ok (.invokespecial 24, 3) := by decide +kernel
theorem dX6_init_45 : decode cX6_init 45 = .ok (.putfield 25, 3) := by decide +kernel
theorem dX6_init_48 : decode cX6_init 48 = .ok (.aload_n 0, 1) := by decide +kernel
theorem dX6_init_49 : decode cX6_init 49 = .ok (.bipush 12, 2) := by decide +kernel
theorem dX6_init_51 : decode cX6_init 51 = .ok (.newarray .int, 2) := by decide +kernel
theorem dX6_init_53 : decode cX6_init 53 = .ok (.putfield 29, 3) := by decide +kernel
theorem dX6_init_56 : decode cX6_init 56 = .ok (.aload_n 0, 1) := by decide +kernel
theorem dX6_init_57 : decode cX6_init 57 = .ok (.new 33, 3) := by decide +kernel
theorem dX6_init_60 : decode cX6_init 60 = .ok (.dup, 1) := by decide +kernel
theorem dX6_init_61 : decode cX6_init 61 = .ok (.invokespecial 35, 3) := by decide +kernel
theorem dX6_init_64 : decode cX6_init 64 = .ok (.putfield 36, 3) := by decide +kernel
theorem dX6_init_67 : decode cX6_init 67 = .ok (.aload_n 0, 1) := by decide +kernel
theorem dX6_init_68 : decode cX6_init 68 = .ok (.new 40, 3) := by decide +kernel
theorem dX6_init_71 : decode cX6_init 71 = .ok (.dup, 1) := by decide +kernel
theorem dX6_init_72 : decode cX6_init 72 = .ok (.invokespecial 42, 3) := by decide +kernel
theorem dX6_init_75 : decode cX6_init 75 = .ok (.putfield 43, 3) := by decide +kernel
theorem dX6_init_78 : decode cX6_init 78 = .ok (.aload_n 0, 1) := by decide +kernel
theorem dX6_init_79 : decode cX6_init 79 = .ok (.new 47, 3) := by decide +kernel
theorem dX6_init_82 : decode cX6_init 82 = .ok (.dup, 1) := by decide +kernel
theorem dX6_init_83 : decode cX6_init 83 = .ok (.invokespecial 49, 3) := by decide +kernel
theorem dX6_init_86 : decode cX6_init 86 = .ok (.putfield 50, 3) := by decide +kernel
theorem dX6_init_89 : decode cX6_init 89 = .ok (.aload_n 0, 1) := by decide +kernel
theorem dX6_init_90 : decode cX6_init 90 = .ok (.bipush 7, 2) := by decide +kernel
theorem dX6_init_92 : decode cX6_init 92 = .ok (.newarray .int, 2) := by decide +kernel
theorem dX6_init_94 : decode cX6_init 94 = .ok (.putfield 54, 3) := by decide +kernel
theorem dX6_init_97 : decode cX6_init 97 = .ok (.aload_n 0, 1) := by decide +kernel
theorem dX6_init_98 : decode cX6_init 98 = .ok (.iconst 0, 1) := by decide +kernel
theorem dX6_init_99 : decode cX6_init 99 = .ok (.putfield 57, 3) := by decide +kernel
theorem dX6_init_102 : decode cX6_init 102 = .ok (.return_, 1) := by decide +kernel
theorem dX6_plank_0 : decode cX6_plank 0 = .ok (.iload_n 1, 1) := by decide +kernel
theorem dX6_plank_1 : decode cX6_plank 1 = .ok (.invokestatic 61, 3) := by decide +kernel
theorem dX6_plank_4 : decode cX6_plank 4 = .ok (.ifCond .eq 10, 3) := by decide +kernel
theorem dX6_plank_7 : decode cX6_plank 7 = .ok (.iload_n 2, 1) := by decide +kernel
theorem dX6_plank_8 : decode cX6_plank 8 = .ok (.invokestatic 65, 3) := by decide +kernel
theorem dX6_plank_11 : decode cX6_plank 11 = .ok (.ifCond .ne 10, 3) := by decide +kernel
theorem dX6_plank_14 : decode cX6_plank 14 = .ok (.aload_n 0, 1) := by decide +kernel
theorem dX6_plank_15 : decode cX6_plank 15 = .ok (.ldc 68, 2) := by decide +kernel
theorem dX6_plank_17 : decode cX6_plank 17 = .ok (.invokevirtual 69, 3) := by decide +kernel
theorem dX6_plank_20 : decode cX6_plank 20 = .ok (.ireturn, 1) := by decide +kernel
theorem dX6_plank_21 : decode cX6_plank 21 = .ok (.aload_n 0, 1) := by decide +kernel
theorem dX6_plank_22 : decode cX6_plank 22 = .ok (.getfield 12, 3) := by decide +kernel
theorem dX6_plank_25 : decode cX6_plank 25 = .ok (.getfield 73, 3) := by decide +kernel
theorem dX6_plank_28 : decode cX6_plank 28 = .ok (.iload_n 1, 1) := by decide +kernel
theorem dX6_plank_29 : decode cX6_plank 29 = .ok (.iaload, 1) := by decide +kernel
theorem dX6_plank_30 : decode cX6_plank 30 = .ok (.istore_n 3, 1) := by decide +kernel
theorem dX6_plank_31 : decode cX6_plank 31 = .ok (.aload_n 0, 1) := by decide +kernel
theorem dX6_plank_32 : decode cX6_plank 32 = .ok (.getfield 12, 3) := by decide +kernel
theorem dX6_plank_35 : decode cX6_plank 35 = .ok (.getfield 73, 3) := by decide +kernel
theorem dX6_plank_38 : decode cX6_plank 38 = .ok (.iload_n 1, 1) := by decide +kernel
theorem dX6_plank_39 : decode cX6_plank 39 = .ok (.iload_n 2, 1) := by decide +kernel
theorem dX6_plank_40 : decode cX6_plank 40 = .ok (.iastore, 1) := by decide +kernel
theorem dX6_plank_41 : decode cX6_plank 41 = .ok (.iload_n 3, 1) := by decide +kernel
theorem dX6_plank_42 : decode cX6_plank 42 = .ok (.ireturn, 1) := by decide +kernel
theorem dX6_keeps_0 : decode cX6_keeps 0 = .ok (.iload_n 1, 1) := by decide +kernel
theorem dX6_keeps_1 : decode cX6_keeps 1 = .ok (.invokestatic 61, 3) := by decide +kernel
theorem dX6_keeps_4 : decode cX6_keeps 4 = .ok (.ifCond .eq 15, 3) := by decide +kernel
theorem dX6_keeps_7 : decode cX6_keeps 7 = .ok (.aload_n 0, 1) := by decide +kernel
theorem dX6_keeps_8 : decode cX6_keeps 8 = .ok (.getfield 12, 3) := by decide +kernel
theorem dX6_keeps_11 : decode cX6_keeps 11 = .ok (.getfield 73, 3) := by decide +kernel
theorem dX6_keeps_14 : decode cX6_keeps 14 = .ok (.iload_n 1, 1) := by decide +kernel
theorem dX6_keeps_15 : decode cX6_keeps 15 = .ok (.iaload, 1) := by decide +kernel
theorem dX6_keeps_16 : decode cX6_keeps 16 = .ok (.goto 9, 3) := by decide +kernel
theorem dX6_keeps_19 : decode cX6_keeps 19 = .ok (.aload_n 0, 1) := by decide +kernel
theorem dX6_keeps_20 : decode cX6_keeps 20 = .ok (.ldc 68, 2) := by decide +kernel
theorem dX6_keeps_22 : decode cX6_keeps 22 = .ok (.invokevirtual 69, 3) := by decide +kernel
theorem dX6_keeps_25 : decode cX6_keeps 25 = .ok (.ireturn, 1) := by decide +kernel
theorem dX6_walker_0 : decode cX6_walker 0 = .ok (.iload_n 1, 1) := by decide +kernel
theorem dX6_walker_1 : decode cX6_walker 1 = .ok (.invokestatic 76, 3) := by decide +kernel
theorem dX6_walker_4 : decode cX6_walker 4 = .ok (.ifCond .eq 10, 3) := by decide +kernel
theorem dX6_walker_7 : decode cX6_walker 7 = .ok (.iload_n 2, 1) := by decide +kernel
theorem dX6_walker_8 : decode cX6_walker 8 = .ok (.invokestatic 65, 3) := by decide +kernel
theorem dX6_walker_11 : decode cX6_walker 11 = .ok (.ifCond .ne 10, 3) := by decide +kernel
theorem dX6_walker_14 : decode cX6_walker 14 = .ok (.aload_n 0, 1) := by decide +kernel
theorem dX6_walker_15 : decode cX6_walker 15 = .ok (.ldc 68, 2) := by decide +kernel
theorem dX6_walker_17 : decode cX6_walker 17 = .ok (.invokevirtual 69, 3) := by decide +kernel
theorem dX6_walker_20 : decode cX6_walker 20 = .ok (.ireturn, 1) := by decide +kernel
theorem dX6_walker_21 : decode cX6_walker 21 = .ok (.aload_n 0, 1) := by decide +kernel
theorem dX6_walker_22 : decode cX6_walker 22 = .ok (.getfield 12, 3) := by decide +kernel
theorem dX6_walker_25 : decode cX6_walker 25 = .ok (.invokevirtual 79, 3) := by decide +kernel
theorem dX6_walker_28 : decode cX6_walker 28 = .ok (.ifCond .eq 10, 3) := by decide +kernel
theorem dX6_walker_31 : decode cX6_walker 31 = .ok (.aload_n 0, 1) := by decide +kernel
theorem dX6_walker_32 : decode cX6_walker 32 = .ok (.ldc 83, 2) := by decide +kernel
theorem dX6_walker_34 : decode cX6_walker 34 = .ok (.invokevirtual 69, 3) := by decide +kernel
theorem dX6_walker_37 : decode cX6_walker 37 = .ok (.ireturn, 1) := by decide +kernel
theorem dX6_walker_38 : decode cX6_walker 38 = .ok (.aload_n 0, 1) := by decide +kernel
theorem dX6_walker_39 : decode cX6_walker 39 = .ok (.getfield 12, 3) := by decide +kernel
theorem dX6_walker_42 : decode cX6_walker 42 = .ok (.iload_n 1, 1) := by decide +kernel
theorem dX6_walker_43 : decode cX6_walker 43 = .ok (.iload_n 2, 1) := by decide +kernel
theorem dX6_walker_44 : decode cX6_walker 44 = .ok (.bipush 30, 2) := by decide +kernel
theorem dX6_walker_46 : decode cX6_walker 46 = .ok (.invokevirtual 84, 3) := by decide +kernel
theorem dX6_walker_49 : decode cX6_walker 49 = .ok (.ireturn, 1) := by decide +kernel
theorem dX6_of_0 : decode cX6_of 0 = .ok (.aload_n 0, 1) := by decide +kernel
theorem dX6_of_1 : decode cX6_of 1 = .ok (.getfield 12, 3) := by decide +kernel
theorem dX6_of_4 : decode cX6_of 4 = .ok (.iload_n 1, 1) := by decide +kernel
theorem dX6_of_5 : decode cX6_of 5 = .ok (.invokevirtual 88, 3) := by decide +kernel
theorem dX6_of_8 : decode cX6_of 8 = .ok (.ifCond .ne 10, 3) := by decide +kernel
theorem dX6_of_11 : decode cX6_of 11 = .ok (.aload_n 0, 1) := by decide +kernel
theorem dX6_of_12 : decode cX6_of 12 = .ok (.ldc 68, 2) := by decide +kernel
theorem dX6_of_14 : decode cX6_of 14 = .ok (.invokevirtual 69, 3) := by decide +kernel
theorem dX6_of_17 : decode cX6_of 17 = .ok (.ireturn, 1) := by decide +kernel
theorem dX6_of_18 : decode cX6_of 18 = .ok (.iload_n 2, 1) := by decide +kernel
theorem dX6_of_19 : decode cX6_of 19 = .ok (.tableswitch 95 0 5 #[37, 47, 57, 67, 77, 86], 37) := by decide +kernel
theorem dX6_of_56 : decode cX6_of 56 = .ok (.aload_n 0, 1) := by decide +kernel
theorem dX6_of_57 : decode cX6_of 57 = .ok (.getfield 12, 3) := by decide +kernel
theorem dX6_of_60 : decode cX6_of 60 = .ok (.getfield 91, 3) := by decide +kernel
theorem dX6_of_63 : decode cX6_of 63 = .ok (.iload_n 1, 1) := by decide +kernel
theorem dX6_of_64 : decode cX6_of 64 = .ok (.iaload, 1) := by decide +kernel
theorem dX6_of_65 : decode cX6_of 65 = .ok (.ireturn, 1) := by decide +kernel
theorem dX6_of_66 : decode cX6_of 66 = .ok (.aload_n 0, 1) := by decide +kernel
theorem dX6_of_67 : decode cX6_of 67 = .ok (.getfield 12, 3) := by decide +kernel
theorem dX6_of_70 : decode cX6_of 70 = .ok (.getfield 94, 3) := by decide +kernel
theorem dX6_of_73 : decode cX6_of 73 = .ok (.iload_n 1, 1) := by decide +kernel
theorem dX6_of_74 : decode cX6_of 74 = .ok (.iaload, 1) := by decide +kernel
theorem dX6_of_75 : decode cX6_of 75 = .ok (.ireturn, 1) := by decide +kernel
theorem dX6_of_76 : decode cX6_of 76 = .ok (.aload_n 0, 1) := by decide +kernel
theorem dX6_of_77 : decode cX6_of 77 = .ok (.getfield 12, 3) := by decide +kernel
theorem dX6_of_80 : decode cX6_of 80 = .ok (.getfield 97, 3) := by decide +kernel
theorem dX6_of_83 : decode cX6_of 83 = .ok (.iload_n 1, 1) := by decide +kernel
theorem dX6_of_84 : decode cX6_of 84 = .ok (.iaload, 1) := by decide +kernel
theorem dX6_of_85 : decode cX6_of 85 = .ok (.ireturn, 1) := by decide +kernel
theorem dX6_of_86 : decode cX6_of 86 = .ok (.aload_n 0, 1) := by decide +kernel
theorem dX6_of_87 : decode cX6_of 87 = .ok (.getfield 12, 3) := by decide +kernel
theorem dX6_of_90 : decode cX6_of 90 = .ok (.getfield 100, 3) := by decide +kernel
theorem dX6_of_93 : decode cX6_of 93 = .ok (.iload_n 1, 1) := by decide +kernel
theorem dX6_of_94 : decode cX6_of 94 = .ok (.iaload, 1) := by decide +kernel
theorem dX6_of_95 : decode cX6_of 95 = .ok (.ireturn, 1) := by decide +kernel
theorem dX6_of_96 : decode cX6_of 96 = .ok (.aload_n 0, 1) := by decide +kernel
theorem dX6_of_97 : decode cX6_of 97 = .ok (.getfield 12, 3) := by decide +kernel
theorem dX6_of_100 : decode cX6_of 100 = .ok (.iload_n 1, 1) := by decide +kernel
theorem dX6_of_101 : decode cX6_of 101 = .ok (.invokevirtual 103, 3) := by decide +kernel
theorem dX6_of_104 : decode cX6_of 104 = .ok (.ireturn, 1) := by decide +kernel
theorem dX6_of_105 : decode cX6_of 105 = .ok (.aload_n 0, 1) := by decide +kernel
theorem dX6_of_106 : decode cX6_of 106 = .ok (.getfield 12, 3) := by decide +kernel
theorem dX6_of_109 : decode cX6_of 109 = .ok (.iload_n 1, 1) := by decide +kernel
theorem dX6_of_110 : decode cX6_of 110 = .ok (.invokevirtual 106, 3) := by decide +kernel
theorem dX6_of_113 : decode cX6_of 113 = .ok (.ireturn, 1) := by decide +kernel
theorem dX6_of_114 : decode cX6_of 114 = .ok (.aload_n 0, 1) := by decide +kernel
theorem dX6_of_115 : decode cX6_of 115 = .ok (.ldc 68, 2) := by decide +kernel
theorem dX6_of_117 : decode cX6_of 117 = .ok (.invokevirtual 69, 3) := by decide +kernel
theorem dX6_of_120 : decode cX6_of 120 = .ok (.ireturn, 1) := by decide +kernel
theorem dX6_change_0 : decode cX6_change 0 = .ok (.aload_n 0, 1) := by decide +kernel
theorem dX6_change_1 : decode cX6_change 1 = .ok (.getfield 12, 3) := by decide +kernel
theorem dX6_change_4 : decode cX6_change 4 = .ok (.iload_n 1, 1) := by decide +kernel
theorem dX6_change_5 : decode cX6_change 5 = .ok (.invokevirtual 88, 3) := by decide +kernel
theorem dX6_change_8 : decode cX6_change 8 = .ok (.ifCond .eq 7, 3) := by decide +kernel
theorem dX6_change_11 : decode cX6_change 11 = .ok (.iload_n 3, 1) := by decide +kernel
theorem dX6_change_12 : decode cX6_change 12 = .ok (.ifCond .ge 10, 3) := by decide +kernel
theorem dX6_change_15 : decode cX6_change 15 = .ok (.aload_n 0, 1) := by decide +kernel
theorem dX6_change_16 : decode cX6_change 16 = .ok (.ldc 68, 2) := by decide +kernel
theorem dX6_change_18 : decode cX6_change 18 = .ok (.invokevirtual 69, 3) := by decide +kernel
theorem dX6_change_21 : decode cX6_change 21 = .ok (.ireturn, 1) := by decide +kernel
theorem dX6_change_22 : decode cX6_change 22 = .ok (.iload_n 2, 1) := by decide +kernel
theorem dX6_change_23 : decode cX6_change 23 = .ok (.tableswitch 142 0 3 #[29, 57, 85, 113], 29) := by decide +kernel
theorem dX6_change_52 : decode cX6_change 52 = .ok (.iload_n 3, 1) := by decide +kernel
theorem dX6_change_53 : decode cX6_change 53 = .ok (.bipush 6, 2) := by decide +kernel
theorem dX6_change_55 : decode cX6_change 55 = .ok (.if_icmp .gt 18, 3) := by decide +kernel
theorem dX6_change_58 : decode cX6_change 58 = .ok (.aload_n 0, 1) := by decide +kernel
theorem dX6_change_59 : decode cX6_change 59 = .ok (.getfield 12, 3) := by decide +kernel
theorem dX6_change_62 : decode cX6_change 62 = .ok (.getfield 91, 3) := by decide +kernel
theorem dX6_change_65 : decode cX6_change 65 = .ok (.iload_n 1, 1) := by decide +kernel
theorem dX6_change_66 : decode cX6_change 66 = .ok (.iload_n 3, 1) := by decide +kernel
theorem dX6_change_67 : decode cX6_change 67 = .ok (.invokestatic 109, 3) := by decide +kernel
theorem dX6_change_70 : decode cX6_change 70 = .ok (.goto 9, 3) := by decide +kernel
theorem dX6_change_73 : decode cX6_change 73 = .ok (.aload_n 0, 1) := by decide +kernel
theorem dX6_change_74 : decode cX6_change 74 = .ok (.ldc 68, 2) := by decide +kernel
theorem dX6_change_76 : decode cX6_change 76 = .ok (.invokevirtual 69, 3) := by decide +kernel
theorem dX6_change_79 : decode cX6_change 79 = .ok (.ireturn, 1) := by decide +kernel
theorem dX6_change_80 : decode cX6_change 80 = .ok (.iload_n 3, 1) := by decide +kernel
theorem dX6_change_81 : decode cX6_change 81 = .ok (.bipush 99, 2) := by decide +kernel
theorem dX6_change_83 : decode cX6_change 83 = .ok (.if_icmp .gt 18, 3) := by decide +kernel
theorem dX6_change_86 : decode cX6_change 86 = .ok (.aload_n 0, 1) := by decide +kernel
theorem dX6_change_87 : decode cX6_change 87 = .ok (.getfield 12, 3) := by decide +kernel
theorem dX6_change_90 : decode cX6_change 90 = .ok (.getfield 94, 3) := by decide +kernel
theorem dX6_change_93 : decode cX6_change 93 = .ok (.iload_n 1, 1) := by decide +kernel
theorem dX6_change_94 : decode cX6_change 94 = .ok (.iload_n 3, 1) := by decide +kernel
theorem dX6_change_95 : decode cX6_change 95 = .ok (.invokestatic 109, 3) := by decide +kernel
theorem dX6_change_98 : decode cX6_change 98 = .ok (.goto 9, 3) := by decide +kernel
theorem dX6_change_101 : decode cX6_change 101 = .ok (.aload_n 0, 1) := by decide +kernel
theorem dX6_change_102 : decode cX6_change 102 = .ok (.ldc 68, 2) := by decide +kernel
theorem dX6_change_104 : decode cX6_change 104 = .ok (.invokevirtual 69, 3) := by decide +kernel
theorem dX6_change_107 : decode cX6_change 107 = .ok (.ireturn, 1) := by decide +kernel
theorem dX6_change_108 : decode cX6_change 108 = .ok (.iload_n 3, 1) := by decide +kernel
theorem dX6_change_109 : decode cX6_change 109 = .ok (.bipush 99, 2) := by decide +kernel
theorem dX6_change_111 : decode cX6_change 111 = .ok (.if_icmp .gt 18, 3) := by decide +kernel
theorem dX6_change_114 : decode cX6_change 114 = .ok (.aload_n 0, 1) := by decide +kernel
theorem dX6_change_115 : decode cX6_change 115 = .ok (.getfield 12, 3) := by decide +kernel
theorem dX6_change_118 : decode cX6_change 118 = .ok (.getfield 97, 3) := by decide +kernel
theorem dX6_change_121 : decode cX6_change 121 = .ok (.iload_n 1, 1) := by decide +kernel
theorem dX6_change_122 : decode cX6_change 122 = .ok (.iload_n 3, 1) := by decide +kernel
theorem dX6_change_123 : decode cX6_change 123 = .ok (.invokestatic 109, 3) := by decide +kernel
theorem dX6_change_126 : decode cX6_change 126 = .ok (.goto 9, 3) := by decide +kernel
theorem dX6_change_129 : decode cX6_change 129 = .ok (.aload_n 0, 1) := by decide +kernel
theorem dX6_change_130 : decode cX6_change 130 = .ok (.ldc 68, 2) := by decide +kernel
theorem dX6_change_132 : decode cX6_change 132 = .ok (.invokevirtual 69, 3) := by decide +kernel
theorem dX6_change_135 : decode cX6_change 135 = .ok (.ireturn, 1) := by decide +kernel
theorem dX6_change_136 : decode cX6_change 136 = .ok (.iload_n 3, 1) := by decide +kernel
theorem dX6_change_137 : decode cX6_change 137 = .ok (.sipush 9999, 3) := by decide +kernel
theorem dX6_change_140 : decode cX6_change 140 = .ok (.if_icmp .gt 18, 3) := by decide +kernel
theorem dX6_change_143 : decode cX6_change 143 = .ok (.aload_n 0, 1) := by decide +kernel
theorem dX6_change_144 : decode cX6_change 144 = .ok (.getfield 12, 3) := by decide +kernel
theorem dX6_change_147 : decode cX6_change 147 = .ok (.getfield 100, 3) := by decide +kernel
theorem dX6_change_150 : decode cX6_change 150 = .ok (.iload_n 1, 1) := by decide +kernel
theorem dX6_change_151 : decode cX6_change 151 = .ok (.iload_n 3, 1) := by decide +kernel
theorem dX6_change_152 : decode cX6_change 152 = .ok (.invokestatic 109, 3) := by decide +kernel
theorem dX6_change_155 : decode cX6_change 155 = .ok (.goto 9, 3) := by decide +kernel
theorem dX6_change_158 : decode cX6_change 158 = .ok (.aload_n 0, 1) := by decide +kernel
theorem dX6_change_159 : decode cX6_change 159 = .ok (.ldc 68, 2) := by decide +kernel
theorem dX6_change_161 : decode cX6_change 161 = .ok (.invokevirtual 69, 3) := by decide +kernel
theorem dX6_change_164 : decode cX6_change 164 = .ok (.ireturn, 1) := by decide +kernel
theorem dX6_change_165 : decode cX6_change 165 = .ok (.aload_n 0, 1) := by decide +kernel
theorem dX6_change_166 : decode cX6_change 166 = .ok (.ldc 68, 2) := by decide +kernel
theorem dX6_change_168 : decode cX6_change 168 = .ok (.invokevirtual 69, 3) := by decide +kernel
theorem dX6_change_171 : decode cX6_change 171 = .ok (.ireturn, 1) := by decide +kernel
theorem dX6_night_0 : decode cX6_night 0 = .ok (.iload_n 1, 1) := by decide +kernel
theorem dX6_night_1 : decode cX6_night 1 = .ok (.ifCond .eq 15, 3) := by decide +kernel
theorem dX6_night_4 : decode cX6_night 4 = .ok (.iload_n 1, 1) := by decide +kernel
theorem dX6_night_5 : decode cX6_night 5 = .ok (.iconst 1, 1) := by decide +kernel
theorem dX6_night_6 : decode cX6_night 6 = .ok (.if_icmp .eq 10, 3) := by decide +kernel
theorem dX6_night_9 : decode cX6_night 9 = .ok (.aload_n 0, 1) := by decide +kernel
theorem dX6_night_10 : decode cX6_night 10 = .ok (.ldc 68, 2) := by decide +kernel
theorem dX6_night_12 : decode cX6_night 12 = .ok (.invokevirtual 69, 3) := by decide +kernel
theorem dX6_night_15 : decode cX6_night 15 = .ok (.ireturn, 1) := by decide +kernel
theorem dX6_night_16 : decode cX6_night 16 = .ok (.aload_n 0, 1) := by decide +kernel
theorem dX6_night_17 : decode cX6_night 17 = .ok (.getfield 12, 3) := by decide +kernel
theorem dX6_night_20 : decode cX6_night 20 = .ok (.getfield 113, 3) := by decide +kernel
theorem dX6_night_23 : decode cX6_night 23 = .ok (.istore_n 2, 1) := by decide +kernel
theorem dX6_night_24 : decode cX6_night 24 = .ok (.aload_n 0, 1) := by decide +kernel
theorem dX6_night_25 : decode cX6_night 25 = .ok (.getfield 12, 3) := by decide +kernel
theorem dX6_night_28 : decode cX6_night 28 = .ok (.iload_n 1, 1) := by decide +kernel
theorem dX6_night_29 : decode cX6_night 29 = .ok (.putfield 113, 3) := by decide +kernel
theorem dX6_night_32 : decode cX6_night 32 = .ok (.iload_n 2, 1) := by decide +kernel
theorem dX6_night_33 : decode cX6_night 33 = .ok (.ireturn, 1) := by decide +kernel
theorem dX6_cross_0 : decode cX6_cross 0 = .ok (.aload_n 0, 1) := by decide +kernel
theorem dX6_cross_1 : decode cX6_cross 1 = .ok (.getfield 12, 3) := by decide +kernel
theorem dX6_cross_4 : decode cX6_cross 4 = .ok (.iload_n 1, 1) := by decide +kernel
theorem dX6_cross_5 : decode cX6_cross 5 = .ok (.invokevirtual 88, 3) := by decide +kernel
theorem dX6_cross_8 : decode cX6_cross 8 = .ok (.ifCond .ne 10, 3) := by decide +kernel
theorem dX6_cross_11 : decode cX6_cross 11 = .ok (.aload_n 0, 1) := by decide +kernel
theorem dX6_cross_12 : decode cX6_cross 12 = .ok (.ldc 68, 2) := by decide +kernel
theorem dX6_cross_14 : decode cX6_cross 14 = .ok (.invokevirtual 69, 3) := by decide +kernel
theorem dX6_cross_17 : decode cX6_cross 17 = .ok (.ireturn, 1) := by decide +kernel
theorem dX6_cross_18 : decode cX6_cross 18 = .ok (.aload_n 0, 1) := by decide +kernel
theorem dX6_cross_19 : decode cX6_cross 19 = .ok (.getfield 12, 3) := by decide +kernel
theorem dX6_cross_22 : decode cX6_cross 22 = .ok (.getfield 117, 3) := by decide +kernel
theorem dX6_cross_25 : decode cX6_cross 25 = .ok (.iconst 1, 1) := by decide +kernel
theorem dX6_cross_26 : decode cX6_cross 26 = .ok (.iadd, 1) := by decide +kernel
theorem dX6_cross_27 : decode cX6_cross 27 = .ok (.ldc 120, 2) := by decide +kernel
theorem dX6_cross_29 : decode cX6_cross 29 = .ok (.if_icmp .le 10, 3) := by decide +kernel
theorem dX6_cross_32 : decode cX6_cross 32 = .ok (.aload_n 0, 1) := by decide +kernel
theorem dX6_cross_33 : decode cX6_cross 33 = .ok (.ldc 121, 2) := by decide +kernel
theorem dX6_cross_35 : decode cX6_cross 35 = .ok (.invokevirtual 69, 3) := by decide +kernel
theorem dX6_cross_38 : decode cX6_cross 38 = .ok (.ireturn, 1) := by decide +kernel
theorem dX6_cross_39 : decode cX6_cross 39 = .ok (.aload_n 0, 1) := by decide +kernel
theorem dX6_cross_40 : decode cX6_cross 40 = .ok (.iload_n 1, 1) := by decide +kernel
theorem dX6_cross_41 : decode cX6_cross 41 = .ok (.invokevirtual 122, 3) := by decide +kernel
theorem dX6_cross_44 : decode cX6_cross 44 = .ok (.ireturn, 1) := by decide +kernel
theorem dX6_crowd_0 : decode cX6_crowd 0 = .ok (.aload_n 0, 1) := by decide +kernel
theorem dX6_crowd_1 : decode cX6_crowd 1 = .ok (.getfield 12, 3) := by decide +kernel
theorem dX6_crowd_4 : decode cX6_crowd 4 = .ok (.iload_n 1, 1) := by decide +kernel
theorem dX6_crowd_5 : decode cX6_crowd 5 = .ok (.invokevirtual 125, 3) := by decide +kernel
theorem dX6_crowd_8 : decode cX6_crowd 8 = .ok (.ifCond .ne 10, 3) := by decide +kernel
theorem dX6_crowd_11 : decode cX6_crowd 11 = .ok (.aload_n 0, 1) := by decide +kernel
theorem dX6_crowd_12 : decode cX6_crowd 12 = .ok (.ldc 68, 2) := by decide +kernel
theorem dX6_crowd_14 : decode cX6_crowd 14 = .ok (.invokevirtual 69, 3) := by decide +kernel
theorem dX6_crowd_17 : decode cX6_crowd 17 = .ok (.ireturn, 1) := by decide +kernel
theorem dX6_crowd_18 : decode cX6_crowd 18 = .ok (.aload_n 0, 1) := by decide +kernel
theorem dX6_crowd_19 : decode cX6_crowd 19 = .ok (.getfield 12, 3) := by decide +kernel
theorem dX6_crowd_22 : decode cX6_crowd 22 = .ok (.getfield 117, 3) := by decide +kernel
theorem dX6_crowd_25 : decode cX6_crowd 25 = .ok (.iload_n 1, 1) := by decide +kernel
theorem dX6_crowd_26 : decode cX6_crowd 26 = .ok (.invokestatic 128, 3) := by decide +kernel
theorem dX6_crowd_29 : decode cX6_crowd 29 = .ok (.iadd, 1) := by decide +kernel
theorem dX6_crowd_30 : decode cX6_crowd 30 = .ok (.ldc 120, 2) := by decide +kernel
theorem dX6_crowd_32 : decode cX6_crowd 32 = .ok (.if_icmp .le 10, 3) := by decide +kernel
theorem dX6_crowd_35 : decode cX6_crowd 35 = .ok (.aload_n 0, 1) := by decide +kernel
theorem dX6_crowd_36 : decode cX6_crowd 36 = .ok (.ldc 121, 2) := by decide +kernel
theorem dX6_crowd_38 : decode cX6_crowd 38 = .ok (.invokevirtual 69, 3) := by decide +kernel
theorem dX6_crowd_41 : decode cX6_crowd 41 = .ok (.ireturn, 1) := by decide +kernel
theorem dX6_crowd_42 : decode cX6_crowd 42 = .ok (.iconst 0, 1) := by decide +kernel
theorem dX6_crowd_43 : decode cX6_crowd 43 = .ok (.istore_n 2, 1) := by decide +kernel
theorem dX6_crowd_44 : decode cX6_crowd 44 = .ok (.iconst 0, 1) := by decide +kernel
theorem dX6_crowd_45 : decode cX6_crowd 45 = .ok (.istore_n 3, 1) := by decide +kernel
theorem dX6_crowd_46 : decode cX6_crowd 46 = .ok (.iload_n 3, 1) := by decide +kernel
theorem dX6_crowd_47 : decode cX6_crowd 47 = .ok (.bipush 6, 2) := by decide +kernel
theorem dX6_crowd_49 : decode cX6_crowd 49 = .ok (.if_icmp .ge 30, 3) := by decide +kernel
theorem dX6_crowd_52 : decode cX6_crowd 52 = .ok (.iload_n 1, 1) := by decide +kernel
theorem dX6_crowd_53 : decode cX6_crowd 53 = .ok (.iload_n 3, 1) := by decide +kernel
theorem dX6_crowd_54 : decode cX6_crowd 54 = .ok (.invokestatic 133, 3) := by decide +kernel
theorem dX6_crowd_57 : decode cX6_crowd 57 = .ok (.ifCond .eq 16, 3) := by decide +kernel
theorem dX6_crowd_60 : decode cX6_crowd 60 = .ok (.aload_n 0, 1) := by decide +kernel
theorem dX6_crowd_61 : decode cX6_crowd 61 = .ok (.iload_n 3, 1) := by decide +kernel
theorem dX6_crowd_62 : decode cX6_crowd 62 = .ok (.invokevirtual 122, 3) := by decide +kernel
theorem dX6_crowd_65 : decode cX6_crowd 65 = .ok (.bipush 12, 2) := by decide +kernel
theorem dX6_crowd_67 : decode cX6_crowd 67 = .ok (.if_icmp .ge 6, 3) := by decide +kernel
theorem dX6_crowd_70 : decode cX6_crowd 70 = .ok (.iinc 2 1, 3) := by decide +kernel
theorem dX6_crowd_73 : decode cX6_crowd 73 = .ok (.iinc 3 1, 3) := by decide +kernel
theorem dX6_crowd_76 : decode cX6_crowd 76 = .ok (.goto (-30), 3) := by decide +kernel
theorem dX6_crowd_79 : decode cX6_crowd 79 = .ok (.iload_n 2, 1) := by decide +kernel
theorem dX6_crowd_80 : decode cX6_crowd 80 = .ok (.ireturn, 1) := by decide +kernel
theorem dX6_now_0 : decode cX6_now 0 = .ok (.iload_n 1, 1) := by decide +kernel
theorem dX6_now_1 : decode cX6_now 1 = .ok (.tableswitch 109 0 5 #[39, 47, 60, 65, 73, 91], 39) := by decide +kernel
theorem dX6_now_40 : decode cX6_now 40 = .ok (.aload_n 0, 1) := by decide +kernel
theorem dX6_now_41 : decode cX6_now 41 = .ok (.getfield 12, 3) := by decide +kernel
theorem dX6_now_44 : decode cX6_now 44 = .ok (.getfield 117, 3) := by decide +kernel
theorem dX6_now_47 : decode cX6_now 47 = .ok (.ireturn, 1) := by decide +kernel
theorem dX6_now_48 : decode cX6_now 48 = .ok (.aload_n 0, 1) := by decide +kernel
theorem dX6_now_49 : decode cX6_now 49 = .ok (.getfield 12, 3) := by decide +kernel
theorem dX6_now_52 : decode cX6_now 52 = .ok (.getfield 73, 3) := by decide +kernel
theorem dX6_now_55 : decode cX6_now 55 = .ok (.bipush 12, 2) := by decide +kernel
theorem dX6_now_57 : decode cX6_now 57 = .ok (.invokestatic 137, 3) := by decide +kernel
theorem dX6_now_60 : decode cX6_now 60 = .ok (.ireturn, 1) := by decide +kernel
theorem dX6_now_61 : decode cX6_now 61 = .ok (.aload_n 0, 1) := by decide +kernel
theorem dX6_now_62 : decode cX6_now 62 = .ok (.invokevirtual 141, 3) := by decide +kernel
theorem dX6_now_65 : decode cX6_now 65 = .ok (.ireturn, 1) := by decide +kernel
theorem dX6_now_66 : decode cX6_now 66 = .ok (.aload_n 0, 1) := by decide +kernel
theorem dX6_now_67 : decode cX6_now 67 = .ok (.getfield 12, 3) := by decide +kernel
theorem dX6_now_70 : decode cX6_now 70 = .ok (.getfield 113, 3) := by decide +kernel
theorem dX6_now_73 : decode cX6_now 73 = .ok (.ireturn, 1) := by decide +kernel
theorem dX6_now_74 : decode cX6_now 74 = .ok (.aload_n 0, 1) := by decide +kernel
theorem dX6_now_75 : decode cX6_now 75 = .ok (.getfield 12, 3) := by decide +kernel
theorem dX6_now_78 : decode cX6_now 78 = .ok (.getfield 100, 3) := by decide +kernel
theorem dX6_now_81 : decode cX6_now 81 = .ok (.aload_n 0, 1) := by decide +kernel
theorem dX6_now_82 : decode cX6_now 82 = .ok (.getfield 12, 3) := by decide +kernel
theorem dX6_now_85 : decode cX6_now 85 = .ok (.getfield 145, 3) := by decide +kernel
theorem dX6_now_88 : decode cX6_now 88 = .ok (.invokestatic 137, 3) := by decide +kernel
theorem dX6_now_91 : decode cX6_now 91 = .ok (.ireturn, 1) := by decide +kernel
theorem dX6_now_92 : decode cX6_now 92 = .ok (.aload_n 0, 1) := by decide +kernel
theorem dX6_now_93 : decode cX6_now 93 = .ok (.getfield 12, 3) := by decide +kernel
theorem dX6_now_96 : decode cX6_now 96 = .ok (.getfield 94, 3) := by decide +kernel
theorem dX6_now_99 : decode cX6_now 99 = .ok (.aload_n 0, 1) := by decide +kernel
theorem dX6_now_100 : decode cX6_now 100 = .ok (.getfield 12, 3) := by decide +kernel
theorem dX6_now_103 : decode cX6_now 103 = .ok (.getfield 145, 3) := by decide +kernel
theorem dX6_now_106 : decode cX6_now 106 = .ok (.invokestatic 137, 3) := by decide +kernel
theorem dX6_now_109 : decode cX6_now 109 = .ok (.ireturn, 1) := by decide +kernel
theorem dX6_now_110 : decode cX6_now 110 = .ok (.aload_n 0, 1) := by decide +kernel
theorem dX6_now_111 : decode cX6_now 111 = .ok (.ldc 68, 2) := by decide +kernel
theorem dX6_now_113 : decode cX6_now 113 = .ok (.invokevirtual 69, 3) := by decide +kernel
theorem dX6_now_116 : decode cX6_now 116 = .ok (.ireturn, 1) := by decide +kernel
theorem dX6_would_0 : decode cX6_would 0 = .ok (.aload_n 0, 1) := by decide +kernel
theorem dX6_would_1 : decode cX6_would 1 = .ok (.getfield 12, 3) := by decide +kernel
theorem dX6_would_4 : decode cX6_would 4 = .ok (.iload_n 1, 1) := by decide +kernel
theorem dX6_would_5 : decode cX6_would 5 = .ok (.invokevirtual 88, 3) := by decide +kernel
theorem dX6_would_8 : decode cX6_would 8 = .ok (.ifCond .eq 11, 3) := by decide +kernel
theorem dX6_would_11 : decode cX6_would 11 = .ok (.aload_n 0, 1) := by decide +kernel
theorem dX6_would_12 : decode cX6_would 12 = .ok (.iload_n 1, 1) := by decide +kernel
theorem dX6_would_13 : decode cX6_would 13 = .ok (.invokevirtual 148, 3) := by decide +kernel
theorem dX6_would_16 : decode cX6_would 16 = .ok (.goto 9, 3) := by decide +kernel
theorem dX6_would_19 : decode cX6_would 19 = .ok (.aload_n 0, 1) := by decide +kernel
theorem dX6_would_20 : decode cX6_would 20 = .ok (.ldc 68, 2) := by decide +kernel
theorem dX6_would_22 : decode cX6_would 22 = .ok (.invokevirtual 69, 3) := by decide +kernel
theorem dX6_would_25 : decode cX6_would 25 = .ok (.ireturn, 1) := by decide +kernel
theorem dX6_becomes_0 : decode cX6_becomes 0 = .ok (.aload_n 0, 1) := by decide +kernel
theorem dX6_becomes_1 : decode cX6_becomes 1 = .ok (.getfield 12, 3) := by decide +kernel
theorem dX6_becomes_4 : decode cX6_becomes 4 = .ok (.iload_n 1, 1) := by decide +kernel
theorem dX6_becomes_5 : decode cX6_becomes 5 = .ok (.invokevirtual 88, 3) := by decide +kernel
theorem dX6_becomes_8 : decode cX6_becomes 8 = .ok (.ifCond .ne 10, 3) := by decide +kernel
theorem dX6_becomes_11 : decode cX6_becomes 11 = .ok (.aload_n 0, 1) := by decide +kernel
theorem dX6_becomes_12 : decode cX6_becomes 12 = .ok (.ldc 68, 2) := by decide +kernel
theorem dX6_becomes_14 : decode cX6_becomes 14 = .ok (.invokevirtual 69, 3) := by decide +kernel
theorem dX6_becomes_17 : decode cX6_becomes 17 = .ok (.ireturn, 1) := by decide +kernel
theorem dX6_becomes_18 : decode cX6_becomes 18 = .ok (.aload_n 0, 1) := by decide +kernel
theorem dX6_becomes_19 : decode cX6_becomes 19 = .ok (.iload_n 1, 1) := by decide +kernel
theorem dX6_becomes_20 : decode cX6_becomes 20 = .ok (.invokevirtual 148, 3) := by decide +kernel
theorem dX6_becomes_23 : decode cX6_becomes 23 = .ok (.pop, 1) := by decide +kernel
theorem dX6_becomes_24 : decode cX6_becomes 24 = .ok (.aload_n 0, 1) := by decide +kernel
theorem dX6_becomes_25 : decode cX6_becomes 25 = .ok (.getfield 25, 3) := by decide +kernel
theorem dX6_becomes_28 : decode cX6_becomes 28 = .ok (.getfield 151, 3) := by decide +kernel
theorem dX6_becomes_31 : decode cX6_becomes 31 = .ok (.ireturn, 1) := by decide +kernel
theorem dX6_leaves_0 : decode cX6_leaves 0 = .ok (.aload_n 0, 1) := by decide +kernel
theorem dX6_leaves_1 : decode cX6_leaves 1 = .ok (.getfield 12, 3) := by decide +kernel
theorem dX6_leaves_4 : decode cX6_leaves 4 = .ok (.iload_n 1, 1) := by decide +kernel
theorem dX6_leaves_5 : decode cX6_leaves 5 = .ok (.invokevirtual 88, 3) := by decide +kernel
theorem dX6_leaves_8 : decode cX6_leaves 8 = .ok (.ifCond .eq 10, 3) := by decide +kernel
theorem dX6_leaves_11 : decode cX6_leaves 11 = .ok (.iload_n 2, 1) := by decide +kernel
theorem dX6_leaves_12 : decode cX6_leaves 12 = .ok (.invokestatic 61, 3) := by decide +kernel
theorem dX6_leaves_15 : decode cX6_leaves 15 = .ok (.ifCond .ne 10, 3) := by decide +kernel
theorem dX6_leaves_18 : decode cX6_leaves 18 = .ok (.aload_n 0, 1) := by decide +kernel
theorem dX6_leaves_19 : decode cX6_leaves 19 = .ok (.ldc 68, 2) := by decide +kernel
theorem dX6_leaves_21 : decode cX6_leaves 21 = .ok (.invokevirtual 69, 3) := by decide +kernel
theorem dX6_leaves_24 : decode cX6_leaves 24 = .ok (.ireturn, 1) := by decide +kernel
theorem dX6_leaves_25 : decode cX6_leaves 25 = .ok (.aload_n 0, 1) := by decide +kernel
theorem dX6_leaves_26 : decode cX6_leaves 26 = .ok (.iload_n 1, 1) := by decide +kernel
theorem dX6_leaves_27 : decode cX6_leaves 27 = .ok (.invokevirtual 148, 3) := by decide +kernel
theorem dX6_leaves_30 : decode cX6_leaves 30 = .ok (.pop, 1) := by decide +kernel
theorem dX6_leaves_31 : decode cX6_leaves 31 = .ok (.aload_n 0, 1) := by decide +kernel
theorem dX6_leaves_32 : decode cX6_leaves 32 = .ok (.getfield 25, 3) := by decide +kernel
theorem dX6_leaves_35 : decode cX6_leaves 35 = .ok (.getfield 154, 3) := by decide +kernel
theorem dX6_leaves_38 : decode cX6_leaves 38 = .ok (.iload_n 2, 1) := by decide +kernel
theorem dX6_leaves_39 : decode cX6_leaves 39 = .ok (.iaload, 1) := by decide +kernel
theorem dX6_leaves_40 : decode cX6_leaves 40 = .ok (.ireturn, 1) := by decide +kernel
theorem dX6_after_0 : decode cX6_after 0 = .ok (.aload_n 0, 1) := by decide +kernel
theorem dX6_after_1 : decode cX6_after 1 = .ok (.getfield 12, 3) := by decide +kernel
theorem dX6_after_4 : decode cX6_after 4 = .ok (.iload_n 1, 1) := by decide +kernel
theorem dX6_after_5 : decode cX6_after 5 = .ok (.invokevirtual 88, 3) := by decide +kernel
theorem dX6_after_8 : decode cX6_after 8 = .ok (.ifCond .eq 19, 3) := by decide +kernel
theorem dX6_after_11 : decode cX6_after 11 = .ok (.aload_n 0, 1) := by decide +kernel
theorem dX6_after_12 : decode cX6_after 12 = .ok (.getfield 12, 3) := by decide +kernel
theorem dX6_after_15 : decode cX6_after 15 = .ok (.iload_n 2, 1) := by decide +kernel
theorem dX6_after_16 : decode cX6_after 16 = .ok (.invokevirtual 88, 3) := by decide +kernel
theorem dX6_after_19 : decode cX6_after 19 = .ok (.ifCond .eq 8, 3) := by decide +kernel
theorem dX6_after_22 : decode cX6_after 22 = .ok (.iload_n 1, 1) := by decide +kernel
theorem dX6_after_23 : decode cX6_after 23 = .ok (.iload_n 2, 1) := by decide +kernel
theorem dX6_after_24 : decode cX6_after 24 = .ok (.if_icmp .ne 10, 3) := by decide +kernel
theorem dX6_after_27 : decode cX6_after 27 = .ok (.aload_n 0, 1) := by decide +kernel
theorem dX6_after_28 : decode cX6_after 28 = .ok (.ldc 68, 2) := by decide +kernel
theorem dX6_after_30 : decode cX6_after 30 = .ok (.invokevirtual 69, 3) := by decide +kernel
theorem dX6_after_33 : decode cX6_after 33 = .ok (.ireturn, 1) := by decide +kernel
theorem dX6_after_34 : decode cX6_after 34 = .ok (.aload_n 0, 1) := by decide +kernel
theorem dX6_after_35 : decode cX6_after 35 = .ok (.iload_n 2, 1) := by decide +kernel
theorem dX6_after_36 : decode cX6_after 36 = .ok (.invokevirtual 148, 3) := by decide +kernel
theorem dX6_after_39 : decode cX6_after 39 = .ok (.pop, 1) := by decide +kernel
theorem dX6_after_40 : decode cX6_after 40 = .ok (.aload_n 0, 1) := by decide +kernel
theorem dX6_after_41 : decode cX6_after 41 = .ok (.getfield 25, 3) := by decide +kernel
theorem dX6_after_44 : decode cX6_after 44 = .ok (.aload_n 0, 1) := by decide +kernel
theorem dX6_after_45 : decode cX6_after 45 = .ok (.getfield 12, 3) := by decide +kernel
theorem dX6_after_48 : decode cX6_after 48 = .ok (.iload_n 1, 1) := by decide +kernel
theorem dX6_after_49 : decode cX6_after 49 = .ok (.invokevirtual 157, 3) := by decide +kernel
theorem dX6_after_52 : decode cX6_after 52 = .ok (.aload_n 0, 1) := by decide +kernel
theorem dX6_after_53 : decode cX6_after 53 = .ok (.getfield 25, 3) := by decide +kernel
theorem dX6_after_56 : decode cX6_after 56 = .ok (.aload_n 0, 1) := by decide +kernel
theorem dX6_after_57 : decode cX6_after 57 = .ok (.getfield 25, 3) := by decide +kernel
theorem dX6_after_60 : decode cX6_after 60 = .ok (.getfield 154, 3) := by decide +kernel
theorem dX6_after_63 : decode cX6_after 63 = .ok (.invokevirtual 161, 3) := by decide +kernel
theorem dX6_after_66 : decode cX6_after 66 = .ok (.ireturn, 1) := by decide +kernel
theorem dX6_often_0 : decode cX6_often 0 = .ok (.aload_n 0, 1) := by decide +kernel
theorem dX6_often_1 : decode cX6_often 1 = .ok (.getfield 12, 3) := by decide +kernel
theorem dX6_often_4 : decode cX6_often 4 = .ok (.iload_n 1, 1) := by decide +kernel
theorem dX6_often_5 : decode cX6_often 5 = .ok (.invokevirtual 88, 3) := by decide +kernel
theorem dX6_often_8 : decode cX6_often 8 = .ok (.ifCond .ne 10, 3) := by decide +kernel
theorem dX6_often_11 : decode cX6_often 11 = .ok (.aload_n 0, 1) := by decide +kernel
theorem dX6_often_12 : decode cX6_often 12 = .ok (.ldc 68, 2) := by decide +kernel
theorem dX6_often_14 : decode cX6_often 14 = .ok (.invokevirtual 69, 3) := by decide +kernel
theorem dX6_often_17 : decode cX6_often 17 = .ok (.ireturn, 1) := by decide +kernel
theorem dX6_often_18 : decode cX6_often 18 = .ok (.aload_n 0, 1) := by decide +kernel
theorem dX6_often_19 : decode cX6_often 19 = .ok (.iload_n 1, 1) := by decide +kernel
theorem dX6_often_20 : decode cX6_often 20 = .ok (.invokevirtual 165, 3) := by decide +kernel
theorem dX6_often_23 : decode cX6_often 23 = .ok (.iconst 0, 1) := by decide +kernel
theorem dX6_often_24 : decode cX6_often 24 = .ok (.istore_n 2, 1) := by decide +kernel
theorem dX6_often_25 : decode cX6_often 25 = .ok (.iload_n 2, 1) := by decide +kernel
theorem dX6_often_26 : decode cX6_often 26 = .ok (.bipush 60, 2) := by decide +kernel
theorem dX6_often_28 : decode cX6_often 28 = .ok (.if_icmp .ge 28, 3) := by decide +kernel
theorem dX6_often_31 : decode cX6_often 31 = .ok (.aload_n 0, 1) := by decide +kernel
theorem dX6_often_32 : decode cX6_often 32 = .ok (.getfield 25, 3) := by decide +kernel
theorem dX6_often_35 : decode cX6_often 35 = .ok (.aload_n 0, 1) := by decide +kernel
theorem dX6_often_36 : decode cX6_often 36 = .ok (.getfield 25, 3) := by decide +kernel
theorem dX6_often_39 : decode cX6_often 39 = .ok (.getfield 154, 3) := by decide +kernel
theorem dX6_often_42 : decode cX6_often 42 = .ok (.invokevirtual 161, 3) := by decide +kernel
theorem dX6_often_45 : decode cX6_often 45 = .ok (.bipush 12, 2) := by decide +kernel
theorem dX6_often_47 : decode cX6_often 47 = .ok (.if_icmp .ne 9, 3) := by decide +kernel
theorem dX6_often_50 : decode cX6_often 50 = .ok (.iinc 2 1, 3) := by decide +kernel
theorem dX6_often_53 : decode cX6_often 53 = .ok (.goto (-28), 3) := by decide +kernel
theorem dX6_often_56 : decode cX6_often 56 = .ok (.iload_n 2, 1) := by decide +kernel
theorem dX6_often_57 : decode cX6_often 57 = .ok (.ireturn, 1) := by decide +kernel
theorem dX6_balanceFor_0 : decode cX6_balanceFor 0 = .ok (.aload_n 0, 1) := by decide +kernel
theorem dX6_balanceFor_1 : decode cX6_balanceFor 1 = .ok (.getfield 12, 3) := by decide +kernel
theorem dX6_balanceFor_4 : decode cX6_balanceFor 4 = .ok (.iload_n 1, 1) := by decide +kernel
theorem dX6_balanceFor_5 : decode cX6_balanceFor 5 = .ok (.invokevirtual 88, 3) := by decide +kernel
theorem dX6_balanceFor_8 : decode cX6_balanceFor 8 = .ok (.ifCond .ne 10, 3) := by decide +kernel
theorem dX6_balanceFor_11 : decode cX6_balanceFor 11 = .ok (.aload_n 0, 1) := by decide +kernel
theorem dX6_balanceFor_12 : decode cX6_balanceFor 12 = .ok (.ldc 68, 2) := by decide +kernel
theorem dX6_balanceFor_14 : decode cX6_balanceFor 14 = .ok (.invokevirtual 69, 3) := by decide +kernel
theorem dX6_balanceFor_17 : decode cX6_balanceFor 17 = .ok (.ireturn, 1) := by decide +kernel
theorem dX6_balanceFor_18 : decode cX6_balanceFor 18 = .ok (.iconst 0, 1) := by decide +kernel
theorem dX6_balanceFor_19 : decode cX6_balanceFor 19 = .ok (.istore_n 2, 1) := by decide +kernel
theorem dX6_balanceFor_20 : decode cX6_balanceFor 20 = .ok (.iload_n 2, 1) := by decide +kernel
theorem dX6_balanceFor_21 : decode cX6_balanceFor 21 = .ok (.bipush 99, 2) := by decide +kernel
theorem dX6_balanceFor_23 : decode cX6_balanceFor 23 = .ok (.if_icmp .gt 43, 3) := by decide +kernel
theorem dX6_balanceFor_26 : decode cX6_balanceFor 26 = .ok (.aload_n 0, 1) := by decide +kernel
theorem dX6_balanceFor_27 : decode cX6_balanceFor 27 = .ok (.iload_n 1, 1) := by decide +kernel
theorem dX6_balanceFor_28 : decode cX6_balanceFor 28 = .ok (.invokevirtual 165, 3) := by decide +kernel
theorem dX6_balanceFor_31 : decode cX6_balanceFor 31 = .ok (.aload_n 0, 1) := by decide +kernel
theorem dX6_balanceFor_32 : decode cX6_balanceFor 32 = .ok (.getfield 25, 3) := by decide +kernel
theorem dX6_balanceFor_35 : decode cX6_balanceFor 35 = .ok (.iload_n 2, 1) := by decide +kernel
theorem dX6_balanceFor_36 : decode cX6_balanceFor 36 = .ok (.putfield 169, 3) := by decide +kernel
theorem dX6_balanceFor_39 : decode cX6_balanceFor 39 = .ok (.aload_n 0, 1) := by decide +kernel
theorem dX6_balanceFor_40 : decode cX6_balanceFor 40 = .ok (.getfield 25, 3) := by decide +kernel
theorem dX6_balanceFor_43 : decode cX6_balanceFor 43 = .ok (.aload_n 0, 1) := by decide +kernel
theorem dX6_balanceFor_44 : decode cX6_balanceFor 44 = .ok (.getfield 25, 3) := by decide +kernel
theorem dX6_balanceFor_47 : decode cX6_balanceFor 47 = .ok (.getfield 154, 3) := by decide +kernel
theorem dX6_balanceFor_50 : decode cX6_balanceFor 50 = .ok (.invokevirtual 161, 3) := by decide +kernel
theorem dX6_balanceFor_53 : decode cX6_balanceFor 53 = .ok (.bipush 12, 2) := by decide +kernel
theorem dX6_balanceFor_55 : decode cX6_balanceFor 55 = .ok (.if_icmp .ne 5, 3) := by decide +kernel
theorem dX6_balanceFor_58 : decode cX6_balanceFor 58 = .ok (.iload_n 2, 1) := by decide +kernel
theorem dX6_balanceFor_59 : decode cX6_balanceFor 59 = .ok (.ireturn, 1) := by decide +kernel
theorem dX6_balanceFor_60 : decode cX6_balanceFor 60 = .ok (.iinc 2 1, 3) := by decide +kernel
theorem dX6_balanceFor_63 : decode cX6_balanceFor 63 = .ok (.goto (-43), 3) := by decide +kernel
theorem dX6_balanceFor_66 : decode cX6_balanceFor 66 = .ok (.aload_n 0, 1) := by decide +kernel
theorem dX6_balanceFor_67 : decode cX6_balanceFor 67 = .ok (.ldc 172, 2) := by decide +kernel
theorem dX6_balanceFor_69 : decode cX6_balanceFor 69 = .ok (.invokevirtual 69, 3) := by decide +kernel
theorem dX6_balanceFor_72 : decode cX6_balanceFor 72 = .ok (.ireturn, 1) := by decide +kernel
theorem dX6_gaits_0 : decode cX6_gaits 0 = .ok (.aload_n 0, 1) := by decide +kernel
theorem dX6_gaits_1 : decode cX6_gaits 1 = .ok (.getfield 12, 3) := by decide +kernel
theorem dX6_gaits_4 : decode cX6_gaits 4 = .ok (.iload_n 1, 1) := by decide +kernel
theorem dX6_gaits_5 : decode cX6_gaits 5 = .ok (.invokevirtual 88, 3) := by decide +kernel
theorem dX6_gaits_8 : decode cX6_gaits 8 = .ok (.ifCond .ne 10, 3) := by decide +kernel
theorem dX6_gaits_11 : decode cX6_gaits 11 = .ok (.aload_n 0, 1) := by decide +kernel
theorem dX6_gaits_12 : decode cX6_gaits 12 = .ok (.ldc 68, 2) := by decide +kernel
theorem dX6_gaits_14 : decode cX6_gaits 14 = .ok (.invokevirtual 69, 3) := by decide +kernel
theorem dX6_gaits_17 : decode cX6_gaits 17 = .ok (.ireturn, 1) := by decide +kernel
theorem dX6_gaits_18 : decode cX6_gaits 18 = .ok (.iconst 0, 1) := by decide +kernel
theorem dX6_gaits_19 : decode cX6_gaits 19 = .ok (.istore_n 2, 1) := by decide +kernel
theorem dX6_gaits_20 : decode cX6_gaits 20 = .ok (.iconst 0, 1) := by decide +kernel
theorem dX6_gaits_21 : decode cX6_gaits 21 = .ok (.istore_n 3, 1) := by decide +kernel
theorem dX6_gaits_22 : decode cX6_gaits 22 = .ok (.iload_n 3, 1) := by decide +kernel
theorem dX6_gaits_23 : decode cX6_gaits 23 = .ok (.bipush 99, 2) := by decide +kernel
theorem dX6_gaits_25 : decode cX6_gaits 25 = .ok (.if_icmp .gt 23, 3) := by decide +kernel
theorem dX6_gaits_28 : decode cX6_gaits 28 = .ok (.aload_n 0, 1) := by decide +kernel
theorem dX6_gaits_29 : decode cX6_gaits 29 = .ok (.iload_n 1, 1) := by decide +kernel
theorem dX6_gaits_30 : decode cX6_gaits 30 = .ok (.iload_n 3, 1) := by decide +kernel
theorem dX6_gaits_31 : decode cX6_gaits 31 = .ok (.invokevirtual 173, 3) := by decide +kernel
theorem dX6_gaits_34 : decode cX6_gaits 34 = .ok (.bipush 12, 2) := by decide +kernel
theorem dX6_gaits_36 : decode cX6_gaits 36 = .ok (.if_icmp .ne 6, 3) := by decide +kernel
theorem dX6_gaits_39 : decode cX6_gaits 39 = .ok (.iinc 2 1, 3) := by decide +kernel
theorem dX6_gaits_42 : decode cX6_gaits 42 = .ok (.iinc 3 1, 3) := by decide +kernel
theorem dX6_gaits_45 : decode cX6_gaits 45 = .ok (.goto (-23), 3) := by decide +kernel
theorem dX6_gaits_48 : decode cX6_gaits 48 = .ok (.iload_n 2, 1) := by decide +kernel
theorem dX6_gaits_49 : decode cX6_gaits 49 = .ok (.ireturn, 1) := by decide +kernel
theorem dX6_gaitFor_0 : decode cX6_gaitFor 0 = .ok (.aload_n 0, 1) := by decide +kernel
theorem dX6_gaitFor_1 : decode cX6_gaitFor 1 = .ok (.getfield 12, 3) := by decide +kernel
theorem dX6_gaitFor_4 : decode cX6_gaitFor 4 = .ok (.iload_n 1, 1) := by decide +kernel
theorem dX6_gaitFor_5 : decode cX6_gaitFor 5 = .ok (.invokevirtual 88, 3) := by decide +kernel
theorem dX6_gaitFor_8 : decode cX6_gaitFor 8 = .ok (.ifCond .ne 10, 3) := by decide +kernel
theorem dX6_gaitFor_11 : decode cX6_gaitFor 11 = .ok (.aload_n 0, 1) := by decide +kernel
theorem dX6_gaitFor_12 : decode cX6_gaitFor 12 = .ok (.ldc 68, 2) := by decide +kernel
theorem dX6_gaitFor_14 : decode cX6_gaitFor 14 = .ok (.invokevirtual 69, 3) := by decide +kernel
theorem dX6_gaitFor_17 : decode cX6_gaitFor 17 = .ok (.ireturn, 1) := by decide +kernel
theorem dX6_gaitFor_18 : decode cX6_gaitFor 18 = .ok (.iconst 0, 1) := by decide +kernel
theorem dX6_gaitFor_19 : decode cX6_gaitFor 19 = .ok (.istore_n 2, 1) := by decide +kernel
theorem dX6_gaitFor_20 : decode cX6_gaitFor 20 = .ok (.iload_n 2, 1) := by decide +kernel
theorem dX6_gaitFor_21 : decode cX6_gaitFor 21 = .ok (.bipush 99, 2) := by decide +kernel
theorem dX6_gaitFor_23 : decode cX6_gaitFor 23 = .ok (.if_icmp .gt 22, 3) := by decide +kernel
theorem dX6_gaitFor_26 : decode cX6_gaitFor 26 = .ok (.aload_n 0, 1) := by decide +kernel
theorem dX6_gaitFor_27 : decode cX6_gaitFor 27 = .ok (.iload_n 1, 1) := by decide +kernel
theorem dX6_gaitFor_28 : decode cX6_gaitFor 28 = .ok (.iload_n 2, 1) := by decide +kernel
theorem dX6_gaitFor_29 : decode cX6_gaitFor 29 = .ok (.invokevirtual 173, 3) := by decide +kernel
theorem dX6_gaitFor_32 : decode cX6_gaitFor 32 = .ok (.bipush 12, 2) := by decide +kernel
theorem dX6_gaitFor_34 : decode cX6_gaitFor 34 = .ok (.if_icmp .ne 5, 3) := by decide +kernel
theorem dX6_gaitFor_37 : decode cX6_gaitFor 37 = .ok (.iload_n 2, 1) := by decide +kernel
theorem dX6_gaitFor_38 : decode cX6_gaitFor 38 = .ok (.ireturn, 1) := by decide +kernel
theorem dX6_gaitFor_39 : decode cX6_gaitFor 39 = .ok (.iinc 2 1, 3) := by decide +kernel
theorem dX6_gaitFor_42 : decode cX6_gaitFor 42 = .ok (.goto (-22), 3) := by decide +kernel
theorem dX6_gaitFor_45 : decode cX6_gaitFor 45 = .ok (.aload_n 0, 1) := by decide +kernel
theorem dX6_gaitFor_46 : decode cX6_gaitFor 46 = .ok (.ldc 172, 2) := by decide +kernel
theorem dX6_gaitFor_48 : decode cX6_gaitFor 48 = .ok (.invokevirtual 69, 3) := by decide +kernel
theorem dX6_gaitFor_51 : decode cX6_gaitFor 51 = .ok (.ireturn, 1) := by decide +kernel
theorem dX6_kindsFor_0 : decode cX6_kindsFor 0 = .ok (.aload_n 0, 1) := by decide +kernel
theorem dX6_kindsFor_1 : decode cX6_kindsFor 1 = .ok (.getfield 12, 3) := by decide +kernel
theorem dX6_kindsFor_4 : decode cX6_kindsFor 4 = .ok (.iload_n 1, 1) := by decide +kernel
theorem dX6_kindsFor_5 : decode cX6_kindsFor 5 = .ok (.invokevirtual 88, 3) := by decide +kernel
theorem dX6_kindsFor_8 : decode cX6_kindsFor 8 = .ok (.ifCond .ne 10, 3) := by decide +kernel
theorem dX6_kindsFor_11 : decode cX6_kindsFor 11 = .ok (.aload_n 0, 1) := by decide +kernel
theorem dX6_kindsFor_12 : decode cX6_kindsFor 12 = .ok (.ldc 68, 2) := by decide +kernel
theorem dX6_kindsFor_14 : decode cX6_kindsFor 14 = .ok (.invokevirtual 69, 3) := by decide +kernel
theorem dX6_kindsFor_17 : decode cX6_kindsFor 17 = .ok (.ireturn, 1) := by decide +kernel
theorem dX6_kindsFor_18 : decode cX6_kindsFor 18 = .ok (.iconst 0, 1) := by decide +kernel
theorem dX6_kindsFor_19 : decode cX6_kindsFor 19 = .ok (.istore_n 2, 1) := by decide +kernel
theorem dX6_kindsFor_20 : decode cX6_kindsFor 20 = .ok (.iconst 0, 1) := by decide +kernel
theorem dX6_kindsFor_21 : decode cX6_kindsFor 21 = .ok (.istore_n 3, 1) := by decide +kernel
theorem dX6_kindsFor_22 : decode cX6_kindsFor 22 = .ok (.iload_n 3, 1) := by decide +kernel
theorem dX6_kindsFor_23 : decode cX6_kindsFor 23 = .ok (.bipush 6, 2) := by decide +kernel
theorem dX6_kindsFor_25 : decode cX6_kindsFor 25 = .ok (.if_icmp .gt 47, 3) := by decide +kernel
theorem dX6_kindsFor_28 : decode cX6_kindsFor 28 = .ok (.aload_n 0, 1) := by decide +kernel
theorem dX6_kindsFor_29 : decode cX6_kindsFor 29 = .ok (.iload_n 1, 1) := by decide +kernel
theorem dX6_kindsFor_30 : decode cX6_kindsFor 30 = .ok (.invokevirtual 165, 3) := by decide +kernel
theorem dX6_kindsFor_33 : decode cX6_kindsFor 33 = .ok (.aload_n 0, 1) := by decide +kernel
theorem dX6_kindsFor_34 : decode cX6_kindsFor 34 = .ok (.getfield 25, 3) := by decide +kernel
theorem dX6_kindsFor_37 : decode cX6_kindsFor 37 = .ok (.iload_n 3, 1) := by decide +kernel
theorem dX6_kindsFor_38 : decode cX6_kindsFor 38 = .ok (.putfield 177, 3) := by decide +kernel
theorem dX6_kindsFor_41 : decode cX6_kindsFor 41 = .ok (.aload_n 0, 1) := by decide +kernel
theorem dX6_kindsFor_42 : decode cX6_kindsFor 42 = .ok (.getfield 25, 3) := by decide +kernel
theorem dX6_kindsFor_45 : decode cX6_kindsFor 45 = .ok (.aload_n 0, 1) := by decide +kernel
theorem dX6_kindsFor_46 : decode cX6_kindsFor 46 = .ok (.getfield 25, 3) := by decide +kernel
theorem dX6_kindsFor_49 : decode cX6_kindsFor 49 = .ok (.getfield 154, 3) := by decide +kernel
theorem dX6_kindsFor_52 : decode cX6_kindsFor 52 = .ok (.invokevirtual 161, 3) := by decide +kernel
theorem dX6_kindsFor_55 : decode cX6_kindsFor 55 = .ok (.bipush 12, 2) := by decide +kernel
theorem dX6_kindsFor_57 : decode cX6_kindsFor 57 = .ok (.if_icmp .ne 9, 3) := by decide +kernel
theorem dX6_kindsFor_60 : decode cX6_kindsFor 60 = .ok (.iload_n 2, 1) := by decide +kernel
theorem dX6_kindsFor_61 : decode cX6_kindsFor 61 = .ok (.iconst 1, 1) := by decide +kernel
theorem dX6_kindsFor_62 : decode cX6_kindsFor 62 = .ok (.iload_n 3, 1) := by decide +kernel
theorem dX6_kindsFor_63 : decode cX6_kindsFor 63 = .ok (.ishl, 1) := by decide +kernel
theorem dX6_kindsFor_64 : decode cX6_kindsFor 64 = .ok (.ior, 1) := by decide +kernel
theorem dX6_kindsFor_65 : decode cX6_kindsFor 65 = .ok (.istore_n 2, 1) := by decide +kernel
theorem dX6_kindsFor_66 : decode cX6_kindsFor 66 = .ok (.iinc 3 1, 3) := by decide +kernel
theorem dX6_kindsFor_69 : decode cX6_kindsFor 69 = .ok (.goto (-47), 3) := by decide +kernel
theorem dX6_kindsFor_72 : decode cX6_kindsFor 72 = .ok (.iload_n 2, 1) := by decide +kernel
theorem dX6_kindsFor_73 : decode cX6_kindsFor 73 = .ok (.ireturn, 1) := by decide +kernel
theorem dX6_order_0 : decode cX6_order 0 = .ok (.aload_n 0, 1) := by decide +kernel
theorem dX6_order_1 : decode cX6_order 1 = .ok (.getfield 12, 3) := by decide +kernel
theorem dX6_order_4 : decode cX6_order 4 = .ok (.iload_n 1, 1) := by decide +kernel
theorem dX6_order_5 : decode cX6_order 5 = .ok (.invokevirtual 125, 3) := by decide +kernel
theorem dX6_order_8 : decode cX6_order 8 = .ok (.ifCond .eq 15, 3) := by decide +kernel
theorem dX6_order_11 : decode cX6_order 11 = .ok (.iload_n 2, 1) := by decide +kernel
theorem dX6_order_12 : decode cX6_order 12 = .ok (.ifCond .lt 11, 3) := by decide +kernel
theorem dX6_order_15 : decode cX6_order 15 = .ok (.iload_n 2, 1) := by decide +kernel
theorem dX6_order_16 : decode cX6_order 16 = .ok (.iload_n 1, 1) := by decide +kernel
theorem dX6_order_17 : decode cX6_order 17 = .ok (.invokestatic 128, 3) := by decide +kernel
theorem dX6_order_20 : decode cX6_order 20 = .ok (.if_icmp .lt 10, 3) := by decide +kernel
theorem dX6_order_23 : decode cX6_order 23 = .ok (.aload_n 0, 1) := by decide +kernel
theorem dX6_order_24 : decode cX6_order 24 = .ok (.ldc 68, 2) := by decide +kernel
theorem dX6_order_26 : decode cX6_order 26 = .ok (.invokevirtual 69, 3) := by decide +kernel
theorem dX6_order_29 : decode cX6_order 29 = .ok (.ireturn, 1) := by decide +kernel
theorem dX6_order_30 : decode cX6_order 30 = .ok (.aload_n 0, 1) := by decide +kernel
theorem dX6_order_31 : decode cX6_order 31 = .ok (.getfield 36, 3) := by decide +kernel
theorem dX6_order_34 : decode cX6_order 34 = .ok (.aload_n 0, 1) := by decide +kernel
theorem dX6_order_35 : decode cX6_order 35 = .ok (.getfield 12, 3) := by decide +kernel
theorem dX6_order_38 : decode cX6_order 38 = .ok (.iload_n 1, 1) := by decide +kernel
theorem dX6_order_39 : decode cX6_order 39 = .ok (.invokevirtual 180, 3) := by decide +kernel
theorem dX6_order_42 : decode cX6_order 42 = .ok (.ifCond .eq 14, 3) := by decide +kernel
theorem dX6_order_45 : decode cX6_order 45 = .ok (.aload_n 0, 1) := by decide +kernel
theorem dX6_order_46 : decode cX6_order 46 = .ok (.getfield 36, 3) := by decide +kernel
theorem dX6_order_49 : decode cX6_order 49 = .ok (.iload_n 2, 1) := by decide +kernel
theorem dX6_order_50 : decode cX6_order 50 = .ok (.invokevirtual 184, 3) := by decide +kernel
theorem dX6_order_53 : decode cX6_order 53 = .ok (.goto 9, 3) := by decide +kernel
theorem dX6_order_56 : decode cX6_order 56 = .ok (.aload_n 0, 1) := by decide +kernel
theorem dX6_order_57 : decode cX6_order 57 = .ok (.ldc 172, 2) := by decide +kernel
theorem dX6_order_59 : decode cX6_order 59 = .ok (.invokevirtual 69, 3) := by decide +kernel
theorem dX6_order_62 : decode cX6_order 62 = .ok (.ireturn, 1) := by decide +kernel
theorem dX6_orders_0 : decode cX6_orders 0 = .ok (.aload_n 0, 1) := by decide +kernel
theorem dX6_orders_1 : decode cX6_orders 1 = .ok (.getfield 12, 3) := by decide +kernel
theorem dX6_orders_4 : decode cX6_orders 4 = .ok (.iload_n 1, 1) := by decide +kernel
theorem dX6_orders_5 : decode cX6_orders 5 = .ok (.invokevirtual 125, 3) := by decide +kernel
theorem dX6_orders_8 : decode cX6_orders 8 = .ok (.ifCond .eq 18, 3) := by decide +kernel
theorem dX6_orders_11 : decode cX6_orders 11 = .ok (.aload_n 0, 1) := by decide +kernel
theorem dX6_orders_12 : decode cX6_orders 12 = .ok (.getfield 36, 3) := by decide +kernel
theorem dX6_orders_15 : decode cX6_orders 15 = .ok (.aload_n 0, 1) := by decide +kernel
theorem dX6_orders_16 : decode cX6_orders 16 = .ok (.getfield 12, 3) := by decide +kernel
theorem dX6_orders_19 : decode cX6_orders 19 = .ok (.iload_n 1, 1) := by decide +kernel
theorem dX6_orders_20 : decode cX6_orders 20 = .ok (.invokevirtual 187, 3) := by decide +kernel
theorem dX6_orders_23 : decode cX6_orders 23 = .ok (.goto 9, 3) := by decide +kernel
theorem dX6_orders_26 : decode cX6_orders 26 = .ok (.aload_n 0, 1) := by decide +kernel
theorem dX6_orders_27 : decode cX6_orders 27 = .ok (.ldc 68, 2) := by decide +kernel
theorem dX6_orders_29 : decode cX6_orders 29 = .ok (.invokevirtual 69, 3) := by decide +kernel
theorem dX6_orders_32 : decode cX6_orders 32 = .ok (.ireturn, 1) := by decide +kernel
theorem dX6_fewest_0 : decode cX6_fewest 0 = .ok (.aload_n 0, 1) := by decide +kernel
theorem dX6_fewest_1 : decode cX6_fewest 1 = .ok (.getfield 12, 3) := by decide +kernel
theorem dX6_fewest_4 : decode cX6_fewest 4 = .ok (.iload_n 1, 1) := by decide +kernel
theorem dX6_fewest_5 : decode cX6_fewest 5 = .ok (.invokevirtual 125, 3) := by decide +kernel
theorem dX6_fewest_8 : decode cX6_fewest 8 = .ok (.ifCond .eq 18, 3) := by decide +kernel
theorem dX6_fewest_11 : decode cX6_fewest 11 = .ok (.aload_n 0, 1) := by decide +kernel
theorem dX6_fewest_12 : decode cX6_fewest 12 = .ok (.getfield 36, 3) := by decide +kernel
theorem dX6_fewest_15 : decode cX6_fewest 15 = .ok (.aload_n 0, 1) := by decide +kernel
theorem dX6_fewest_16 : decode cX6_fewest 16 = .ok (.getfield 12, 3) := by decide +kernel
theorem dX6_fewest_19 : decode cX6_fewest 19 = .ok (.iload_n 1, 1) := by decide +kernel
theorem dX6_fewest_20 : decode cX6_fewest 20 = .ok (.invokevirtual 191, 3) := by decide +kernel
theorem dX6_fewest_23 : decode cX6_fewest 23 = .ok (.goto 9, 3) := by decide +kernel
theorem dX6_fewest_26 : decode cX6_fewest 26 = .ok (.aload_n 0, 1) := by decide +kernel
theorem dX6_fewest_27 : decode cX6_fewest 27 = .ok (.ldc 68, 2) := by decide +kernel
theorem dX6_fewest_29 : decode cX6_fewest 29 = .ok (.invokevirtual 69, 3) := by decide +kernel
theorem dX6_fewest_32 : decode cX6_fewest 32 = .ok (.ireturn, 1) := by decide +kernel
theorem dX6_most_0 : decode cX6_most 0 = .ok (.aload_n 0, 1) := by decide +kernel
theorem dX6_most_1 : decode cX6_most 1 = .ok (.getfield 36, 3) := by decide +kernel
theorem dX6_most_4 : decode cX6_most 4 = .ok (.aload_n 0, 1) := by decide +kernel
theorem dX6_most_5 : decode cX6_most 5 = .ok (.getfield 12, 3) := by decide +kernel
theorem dX6_most_8 : decode cX6_most 8 = .ok (.invokevirtual 194, 3) := by decide +kernel
theorem dX6_most_11 : decode cX6_most 11 = .ok (.ireturn, 1) := by decide +kernel
theorem dX6_lay_0 : decode cX6_lay 0 = .ok (.aload_n 0, 1) := by decide +kernel
theorem dX6_lay_1 : decode cX6_lay 1 = .ok (.getfield 12, 3) := by decide +kernel
theorem dX6_lay_4 : decode cX6_lay 4 = .ok (.iload_n 1, 1) := by decide +kernel
theorem dX6_lay_5 : decode cX6_lay 5 = .ok (.invokevirtual 88, 3) := by decide +kernel
theorem dX6_lay_8 : decode cX6_lay 8 = .ok (.ifCond .ne 10, 3) := by decide +kernel
theorem dX6_lay_11 : decode cX6_lay 11 = .ok (.aload_n 0, 1) := by decide +kernel
theorem dX6_lay_12 : decode cX6_lay 12 = .ok (.ldc 68, 2) := by decide +kernel
theorem dX6_lay_14 : decode cX6_lay 14 = .ok (.invokevirtual 69, 3) := by decide +kernel
theorem dX6_lay_17 : decode cX6_lay 17 = .ok (.ireturn, 1) := by decide +kernel
theorem dX6_lay_18 : decode cX6_lay 18 = .ok (.iconst 0, 1) := by decide +kernel
theorem dX6_lay_19 : decode cX6_lay 19 = .ok (.istore_n 2, 1) := by decide +kernel
theorem dX6_lay_20 : decode cX6_lay 20 = .ok (.iload_n 2, 1) := by decide +kernel
theorem dX6_lay_21 : decode cX6_lay 21 = .ok (.iconst 3, 1) := by decide +kernel
theorem dX6_lay_22 : decode cX6_lay 22 = .ok (.if_icmp .gt 25, 3) := by decide +kernel
theorem dX6_lay_25 : decode cX6_lay 25 = .ok (.aload_n 0, 1) := by decide +kernel
theorem dX6_lay_26 : decode cX6_lay 26 = .ok (.iload_n 1, 1) := by decide +kernel
theorem dX6_lay_27 : decode cX6_lay 27 = .ok (.iconst 0, 1) := by decide +kernel
theorem dX6_lay_28 : decode cX6_lay 28 = .ok (.bipush 12, 2) := by decide +kernel
theorem dX6_lay_30 : decode cX6_lay 30 = .ok (.iload_n 2, 1) := by decide +kernel
theorem dX6_lay_31 : decode cX6_lay 31 = .ok (.invokevirtual 198, 3) := by decide +kernel
theorem dX6_lay_34 : decode cX6_lay 34 = .ok (.istore_n 3, 1) := by decide +kernel
theorem dX6_lay_35 : decode cX6_lay 35 = .ok (.iload_n 3, 1) := by decide +kernel
theorem dX6_lay_36 : decode cX6_lay 36 = .ok (.ifCond .lt 5, 3) := by decide +kernel
theorem dX6_lay_39 : decode cX6_lay 39 = .ok (.iload_n 3, 1) := by decide +kernel
theorem dX6_lay_40 : decode cX6_lay 40 = .ok (.ireturn, 1) := by decide +kernel
theorem dX6_lay_41 : decode cX6_lay 41 = .ok (.iinc 2 1, 3) := by decide +kernel
theorem dX6_lay_44 : decode cX6_lay 44 = .ok (.goto (-24), 3) := by decide +kernel
theorem dX6_lay_47 : decode cX6_lay 47 = .ok (.aload_n 0, 1) := by decide +kernel
theorem dX6_lay_48 : decode cX6_lay 48 = .ok (.ldc 172, 2) := by decide +kernel
theorem dX6_lay_50 : decode cX6_lay 50 = .ok (.invokevirtual 69, 3) := by decide +kernel
theorem dX6_lay_53 : decode cX6_lay 53 = .ok (.ireturn, 1) := by decide +kernel
theorem dX6_best_0 : decode cX6_best 0 = .ok (.iconst 0, 1) := by decide +kernel
theorem dX6_best_1 : decode cX6_best 1 = .ok (.istore_n 1, 1) := by decide +kernel
theorem dX6_best_2 : decode cX6_best 2 = .ok (.bipush 7, 2) := by decide +kernel
theorem dX6_best_4 : decode cX6_best 4 = .ok (.istore_n 2, 1) := by decide +kernel
theorem dX6_best_5 : decode cX6_best 5 = .ok (.iconst 0, 1) := by decide +kernel
theorem dX6_best_6 : decode cX6_best 6 = .ok (.istore_n 3, 1) := by decide +kernel
theorem dX6_best_7 : decode cX6_best 7 = .ok (.iload_n 3, 1) := by decide +kernel
theorem dX6_best_8 : decode cX6_best 8 = .ok (.bipush 12, 2) := by decide +kernel
theorem dX6_best_10 : decode cX6_best 10 = .ok (.if_icmp .ge 59, 3) := by decide +kernel
theorem dX6_best_13 : decode cX6_best 13 = .ok (.iconst 0, 1) := by decide +kernel
theorem dX6_best_14 : decode cX6_best 14 = .ok (.istore 4, 2) := by decide +kernel
theorem dX6_best_16 : decode cX6_best 16 = .ok (.iconst 0, 1) := by decide +kernel
theorem dX6_best_17 : decode cX6_best 17 = .ok (.istore 5, 2) := by decide +kernel
theorem dX6_best_19 : decode cX6_best 19 = .ok (.iload 5, 2) := by decide +kernel
theorem dX6_best_21 : decode cX6_best 21 = .ok (.aload_n 0, 1) := by decide +kernel
theorem dX6_best_22 : decode cX6_best 22 = .ok (.getfield 12, 3) := by decide +kernel
theorem dX6_best_25 : decode cX6_best 25 = .ok (.getfield 145, 3) := by decide +kernel
theorem dX6_best_28 : decode cX6_best 28 = .ok (.if_icmp .ge 24, 3) := by decide +kernel
theorem dX6_best_31 : decode cX6_best 31 = .ok (.aload_n 0, 1) := by decide +kernel
theorem dX6_best_32 : decode cX6_best 32 = .ok (.iload 5, 2) := by decide +kernel
theorem dX6_best_34 : decode cX6_best 34 = .ok (.iconst 1, 1) := by decide +kernel
theorem dX6_best_35 : decode cX6_best 35 = .ok (.iload_n 3, 1) := by decide +kernel
theorem dX6_best_36 : decode cX6_best 36 = .ok (.ishl, 1) := by decide +kernel
theorem dX6_best_37 : decode cX6_best 37 = .ok (.invokevirtual 202, 3) := by decide +kernel
theorem dX6_best_40 : decode cX6_best 40 = .ok (.ifCond .ne 6, 3) := by decide +kernel
theorem dX6_best_43 : decode cX6_best 43 = .ok (.iinc 4 1, 3) := by decide +kernel
theorem dX6_best_46 : decode cX6_best 46 = .ok (.iinc 5 1, 3) := by decide +kernel
theorem dX6_best_49 : decode cX6_best 49 = .ok (.goto (-30), 3) := by decide +kernel
theorem dX6_best_52 : decode cX6_best 52 = .ok (.iload 4, 2) := by decide +kernel
theorem dX6_best_54 : decode cX6_best 54 = .ok (.iload_n 2, 1) := by decide +kernel
theorem dX6_best_55 : decode cX6_best 55 = .ok (.if_icmp .ge 8, 3) := by decide +kernel
theorem dX6_best_58 : decode cX6_best 58 = .ok (.iload 4, 2) := by decide +kernel
theorem dX6_best_60 : decode cX6_best 60 = .ok (.istore_n 2, 1) := by decide +kernel
theorem dX6_best_61 : decode cX6_best 61 = .ok (.iload_n 3, 1) := by decide +kernel
theorem dX6_best_62 : decode cX6_best 62 = .ok (.istore_n 1, 1) := by decide +kernel
theorem dX6_best_63 : decode cX6_best 63 = .ok (.iinc 3 1, 3) := by decide +kernel
theorem dX6_best_66 : decode cX6_best 66 = .ok (.goto (-59), 3) := by decide +kernel
theorem dX6_best_69 : decode cX6_best 69 = .ok (.iload_n 1, 1) := by decide +kernel
theorem dX6_best_70 : decode cX6_best 70 = .ok (.ireturn, 1) := by decide +kernel
theorem dX6_unlike_0 : decode cX6_unlike 0 = .ok (.aload_n 0, 1) := by decide +kernel
theorem dX6_unlike_1 : decode cX6_unlike 1 = .ok (.getfield 12, 3) := by decide +kernel
theorem dX6_unlike_4 : decode cX6_unlike 4 = .ok (.iload_n 1, 1) := by decide +kernel
theorem dX6_unlike_5 : decode cX6_unlike 5 = .ok (.invokevirtual 88, 3) := by decide +kernel
theorem dX6_unlike_8 : decode cX6_unlike 8 = .ok (.ifCond .eq 19, 3) := by decide +kernel
theorem dX6_unlike_11 : decode cX6_unlike 11 = .ok (.aload_n 0, 1) := by decide +kernel
theorem dX6_unlike_12 : decode cX6_unlike 12 = .ok (.getfield 12, 3) := by decide +kernel
theorem dX6_unlike_15 : decode cX6_unlike 15 = .ok (.iload_n 2, 1) := by decide +kernel
theorem dX6_unlike_16 : decode cX6_unlike 16 = .ok (.invokevirtual 88, 3) := by decide +kernel
theorem dX6_unlike_19 : decode cX6_unlike 19 = .ok (.ifCond .eq 8, 3) := by decide +kernel
theorem dX6_unlike_22 : decode cX6_unlike 22 = .ok (.iload_n 1, 1) := by decide +kernel
theorem dX6_unlike_23 : decode cX6_unlike 23 = .ok (.iload_n 2, 1) := by decide +kernel
theorem dX6_unlike_24 : decode cX6_unlike 24 = .ok (.if_icmp .ne 10, 3) := by decide +kernel
theorem dX6_unlike_27 : decode cX6_unlike 27 = .ok (.aload_n 0, 1) := by decide +kernel
theorem dX6_unlike_28 : decode cX6_unlike 28 = .ok (.ldc 68, 2) := by decide +kernel
theorem dX6_unlike_30 : decode cX6_unlike 30 = .ok (.invokevirtual 69, 3) := by decide +kernel
theorem dX6_unlike_33 : decode cX6_unlike 33 = .ok (.ireturn, 1) := by decide +kernel
theorem dX6_unlike_34 : decode cX6_unlike 34 = .ok (.aload_n 0, 1) := by decide +kernel
theorem dX6_unlike_35 : decode cX6_unlike 35 = .ok (.iload_n 1, 1) := by decide +kernel
theorem dX6_unlike_36 : decode cX6_unlike 36 = .ok (.iload_n 2, 1) := by decide +kernel
theorem dX6_unlike_37 : decode cX6_unlike 37 = .ok (.invokevirtual 205, 3) := by decide +kernel
theorem dX6_unlike_40 : decode cX6_unlike 40 = .ok (.ireturn, 1) := by decide +kernel
theorem dX6_taken_0 : decode cX6_taken 0 = .ok (.aload_n 0, 1) := by decide +kernel
theorem dX6_taken_1 : decode cX6_taken 1 = .ok (.getfield 12, 3) := by decide +kernel
theorem dX6_taken_4 : decode cX6_taken 4 = .ok (.iload_n 1, 1) := by decide +kernel
theorem dX6_taken_5 : decode cX6_taken 5 = .ok (.invokevirtual 88, 3) := by decide +kernel
theorem dX6_taken_8 : decode cX6_taken 8 = .ok (.ifCond .ne 10, 3) := by decide +kernel
theorem dX6_taken_11 : decode cX6_taken 11 = .ok (.aload_n 0, 1) := by decide +kernel
theorem dX6_taken_12 : decode cX6_taken 12 = .ok (.ldc 68, 2) := by decide +kernel
theorem dX6_taken_14 : decode cX6_taken 14 = .ok (.invokevirtual 69, 3) := by decide +kernel
theorem dX6_taken_17 : decode cX6_taken 17 = .ok (.ireturn, 1) := by decide +kernel
theorem dX6_taken_18 : decode cX6_taken 18 = .ok (.iconst (-1), 1) := by decide +kernel
theorem dX6_taken_19 : decode cX6_taken 19 = .ok (.istore_n 2, 1) := by decide +kernel
theorem dX6_taken_20 : decode cX6_taken 20 = .ok (.iconst 0, 1) := by decide +kernel
theorem dX6_taken_21 : decode cX6_taken 21 = .ok (.istore_n 3, 1) := by decide +kernel
theorem dX6_taken_22 : decode cX6_taken 22 = .ok (.iconst 0, 1) := by decide +kernel
theorem dX6_taken_23 : decode cX6_taken 23 = .ok (.istore 4, 2) := by decide +kernel
theorem dX6_taken_25 : decode cX6_taken 25 = .ok (.iload 4, 2) := by decide +kernel
theorem dX6_taken_27 : decode cX6_taken 27 = .ok (.aload_n 0, 1) := by decide +kernel
theorem dX6_taken_28 : decode cX6_taken 28 = .ok (.getfield 12, 3) := by decide +kernel
theorem dX6_taken_31 : decode cX6_taken 31 = .ok (.getfield 145, 3) := by decide +kernel
theorem dX6_taken_34 : decode cX6_taken 34 = .ok (.if_icmp .ge 41, 3) := by decide +kernel
theorem dX6_taken_37 : decode cX6_taken 37 = .ok (.iload 4, 2) := by decide +kernel
theorem dX6_taken_39 : decode cX6_taken 39 = .ok (.iload_n 1, 1) := by decide +kernel
theorem dX6_taken_40 : decode cX6_taken 40 = .ok (.if_icmp .eq 29, 3) := by decide +kernel
theorem dX6_taken_43 : decode cX6_taken 43 = .ok (.aload_n 0, 1) := by decide +kernel
theorem dX6_taken_44 : decode cX6_taken 44 = .ok (.iload_n 1, 1) := by decide +kernel
theorem dX6_taken_45 : decode cX6_taken 45 = .ok (.iload 4, 2) := by decide +kernel
theorem dX6_taken_47 : decode cX6_taken 47 = .ok (.invokevirtual 205, 3) := by decide +kernel
theorem dX6_taken_50 : decode cX6_taken 50 = .ok (.istore 5, 2) := by decide +kernel
theorem dX6_taken_52 : decode cX6_taken 52 = .ok (.iload_n 2, 1) := by decide +kernel
theorem dX6_taken_53 : decode cX6_taken 53 = .ok (.iconst (-1), 1) := by decide +kernel
theorem dX6_taken_54 : decode cX6_taken 54 = .ok (.if_icmp .eq 9, 3) := by decide +kernel
theorem dX6_taken_57 : decode cX6_taken 57 = .ok (.iload 5, 2) := by decide +kernel
theorem dX6_taken_59 : decode cX6_taken 59 = .ok (.iload_n 3, 1) := by decide +kernel
theorem dX6_taken_60 : decode cX6_taken 60 = .ok (.if_icmp .ge 9, 3) := by decide +kernel
theorem dX6_taken_63 : decode cX6_taken 63 = .ok (.iload 4, 2) := by decide +kernel
theorem dX6_taken_65 : decode cX6_taken 65 = .ok (.istore_n 2, 1) := by decide +kernel
theorem dX6_taken_66 : decode cX6_taken 66 = .ok (.iload 5, 2) := by decide +kernel
theorem dX6_taken_68 : decode cX6_taken 68 = .ok (.istore_n 3, 1) := by decide +kernel
theorem dX6_taken_69 : decode cX6_taken 69 = .ok (.iinc 4 1, 3) := by decide +kernel
theorem dX6_taken_72 : decode cX6_taken 72 = .ok (.goto (-47), 3) := by decide +kernel
theorem dX6_taken_75 : decode cX6_taken 75 = .ok (.iload_n 2, 1) := by decide +kernel
theorem dX6_taken_76 : decode cX6_taken 76 = .ok (.iconst (-1), 1) := by decide +kernel
theorem dX6_taken_77 : decode cX6_taken 77 = .ok (.if_icmp .ne 12, 3) := by decide +kernel
theorem dX6_taken_80 : decode cX6_taken 80 = .ok (.aload_n 0, 1) := by decide +kernel
theorem dX6_taken_81 : decode cX6_taken 81 = .ok (.ldc 172, 2) := by decide +kernel
theorem dX6_taken_83 : decode cX6_taken 83 = .ok (.invokevirtual 69, 3) := by decide +kernel
theorem dX6_taken_86 : decode cX6_taken 86 = .ok (.goto 4, 3) := by decide +kernel
theorem dX6_taken_89 : decode cX6_taken 89 = .ok (.iload_n 2, 1) := by decide +kernel
theorem dX6_taken_90 : decode cX6_taken 90 = .ok (.ireturn, 1) := by decide +kernel
theorem dX6_fits_0 : decode cX6_fits 0 = .ok (.aload_n 0, 1) := by decide +kernel
theorem dX6_fits_1 : decode cX6_fits 1 = .ok (.iload_n 1, 1) := by decide +kernel
theorem dX6_fits_2 : decode cX6_fits 2 = .ok (.iload_n 2, 1) := by decide +kernel
theorem dX6_fits_3 : decode cX6_fits 3 = .ok (.invokevirtual 208, 3) := by decide +kernel
theorem dX6_fits_6 : decode cX6_fits 6 = .ok (.istore_n 3, 1) := by decide +kernel
theorem dX6_fits_7 : decode cX6_fits 7 = .ok (.iload_n 3, 1) := by decide +kernel
theorem dX6_fits_8 : decode cX6_fits 8 = .ok (.ifCond .eq 9, 3) := by decide +kernel
theorem dX6_fits_11 : decode cX6_fits 11 = .ok (.aload_n 0, 1) := by decide +kernel
theorem dX6_fits_12 : decode cX6_fits 12 = .ok (.iload_n 3, 1) := by decide +kernel
theorem dX6_fits_13 : decode cX6_fits 13 = .ok (.invokevirtual 69, 3) := by decide +kernel
theorem dX6_fits_16 : decode cX6_fits 16 = .ok (.ireturn, 1) := by decide +kernel
theorem dX6_fits_17 : decode cX6_fits 17 = .ok (.iconst 0, 1) := by decide +kernel
theorem dX6_fits_18 : decode cX6_fits 18 = .ok (.istore 4, 2) := by decide +kernel
theorem dX6_fits_20 : decode cX6_fits 20 = .ok (.iconst 0, 1) := by decide +kernel
theorem dX6_fits_21 : decode cX6_fits 21 = .ok (.istore 5, 2) := by decide +kernel
theorem dX6_fits_23 : decode cX6_fits 23 = .ok (.iload 5, 2) := by decide +kernel
theorem dX6_fits_25 : decode cX6_fits 25 = .ok (.bipush 99, 2) := by decide +kernel
theorem dX6_fits_27 : decode cX6_fits 27 = .ok (.if_icmp .gt 38, 3) := by decide +kernel
theorem dX6_fits_30 : decode cX6_fits 30 = .ok (.aload_n 0, 1) := by decide +kernel
theorem dX6_fits_31 : decode cX6_fits 31 = .ok (.iload_n 2, 1) := by decide +kernel
theorem dX6_fits_32 : decode cX6_fits 32 = .ok (.iload 5, 2) := by decide +kernel
theorem dX6_fits_34 : decode cX6_fits 34 = .ok (.invokevirtual 173, 3) := by decide +kernel
theorem dX6_fits_37 : decode cX6_fits 37 = .ok (.pop, 1) := by decide +kernel
theorem dX6_fits_38 : decode cX6_fits 38 = .ok (.aload_n 0, 1) := by decide +kernel
theorem dX6_fits_39 : decode cX6_fits 39 = .ok (.getfield 50, 3) := by decide +kernel
theorem dX6_fits_42 : decode cX6_fits 42 = .ok (.iload_n 1, 1) := by decide +kernel
theorem dX6_fits_43 : decode cX6_fits 43 = .ok (.aload_n 0, 1) := by decide +kernel
theorem dX6_fits_44 : decode cX6_fits 44 = .ok (.getfield 25, 3) := by decide +kernel
theorem dX6_fits_47 : decode cX6_fits 47 = .ok (.getfield 154, 3) := by decide +kernel
theorem dX6_fits_50 : decode cX6_fits 50 = .ok (.invokevirtual 211, 3) := by decide +kernel
theorem dX6_fits_53 : decode cX6_fits 53 = .ok (.ifCond .eq 6, 3) := by decide +kernel
theorem dX6_fits_56 : decode cX6_fits 56 = .ok (.iinc 4 1, 3) := by decide +kernel
theorem dX6_fits_59 : decode cX6_fits 59 = .ok (.iinc 5 1, 3) := by decide +kernel
theorem dX6_fits_62 : decode cX6_fits 62 = .ok (.goto (-39), 3) := by decide +kernel
theorem dX6_fits_65 : decode cX6_fits 65 = .ok (.iload 4, 2) := by decide +kernel
theorem dX6_fits_67 : decode cX6_fits 67 = .ok (.ireturn, 1) := by decide +kernel
theorem dX6_gait_0 : decode cX6_gait 0 = .ok (.aload_n 0, 1) := by decide +kernel
theorem dX6_gait_1 : decode cX6_gait 1 = .ok (.iload_n 1, 1) := by decide +kernel
theorem dX6_gait_2 : decode cX6_gait 2 = .ok (.iload_n 2, 1) := by decide +kernel
theorem dX6_gait_3 : decode cX6_gait 3 = .ok (.invokevirtual 208, 3) := by decide +kernel
theorem dX6_gait_6 : decode cX6_gait 6 = .ok (.istore_n 3, 1) := by decide +kernel
theorem dX6_gait_7 : decode cX6_gait 7 = .ok (.iload_n 3, 1) := by decide +kernel
theorem dX6_gait_8 : decode cX6_gait 8 = .ok (.ifCond .eq 9, 3) := by decide +kernel
theorem dX6_gait_11 : decode cX6_gait 11 = .ok (.aload_n 0, 1) := by decide +kernel
theorem dX6_gait_12 : decode cX6_gait 12 = .ok (.iload_n 3, 1) := by decide +kernel
theorem dX6_gait_13 : decode cX6_gait 13 = .ok (.invokevirtual 69, 3) := by decide +kernel
theorem dX6_gait_16 : decode cX6_gait 16 = .ok (.ireturn, 1) := by decide +kernel
theorem dX6_gait_17 : decode cX6_gait 17 = .ok (.iconst 0, 1) := by decide +kernel
theorem dX6_gait_18 : decode cX6_gait 18 = .ok (.istore 4, 2) := by decide +kernel
theorem dX6_gait_20 : decode cX6_gait 20 = .ok (.iload 4, 2) := by decide +kernel
theorem dX6_gait_22 : decode cX6_gait 22 = .ok (.bipush 99, 2) := by decide +kernel
theorem dX6_gait_24 : decode cX6_gait 24 = .ok (.if_icmp .gt 38, 3) := by decide +kernel
theorem dX6_gait_27 : decode cX6_gait 27 = .ok (.aload_n 0, 1) := by decide +kernel
theorem dX6_gait_28 : decode cX6_gait 28 = .ok (.iload_n 2, 1) := by decide +kernel
theorem dX6_gait_29 : decode cX6_gait 29 = .ok (.iload 4, 2) := by decide +kernel
theorem dX6_gait_31 : decode cX6_gait 31 = .ok (.invokevirtual 173, 3) := by decide +kernel
theorem dX6_gait_34 : decode cX6_gait 34 = .ok (.pop, 1) := by decide +kernel
theorem dX6_gait_35 : decode cX6_gait 35 = .ok (.aload_n 0, 1) := by decide +kernel
theorem dX6_gait_36 : decode cX6_gait 36 = .ok (.getfield 50, 3) := by decide +kernel
theorem dX6_gait_39 : decode cX6_gait 39 = .ok (.iload_n 1, 1) := by decide +kernel
theorem dX6_gait_40 : decode cX6_gait 40 = .ok (.aload_n 0, 1) := by decide +kernel
theorem dX6_gait_41 : decode cX6_gait 41 = .ok (.getfield 25, 3) := by decide +kernel
theorem dX6_gait_44 : decode cX6_gait 44 = .ok (.getfield 154, 3) := by decide +kernel
theorem dX6_gait_47 : decode cX6_gait 47 = .ok (.invokevirtual 211, 3) := by decide +kernel
theorem dX6_gait_50 : decode cX6_gait 50 = .ok (.ifCond .eq 6, 3) := by decide +kernel
theorem dX6_gait_53 : decode cX6_gait 53 = .ok (.iload 4, 2) := by decide +kernel
theorem dX6_gait_55 : decode cX6_gait 55 = .ok (.ireturn, 1) := by decide +kernel
theorem dX6_gait_56 : decode cX6_gait 56 = .ok (.iinc 4 1, 3) := by decide +kernel
theorem dX6_gait_59 : decode cX6_gait 59 = .ok (.goto (-39), 3) := by decide +kernel
theorem dX6_gait_62 : decode cX6_gait 62 = .ok (.aload_n 0, 1) := by decide +kernel
theorem dX6_gait_63 : decode cX6_gait 63 = .ok (.ldc 172, 2) := by decide +kernel
theorem dX6_gait_65 : decode cX6_gait 65 = .ok (.invokevirtual 69, 3) := by decide +kernel
theorem dX6_gait_68 : decode cX6_gait 68 = .ok (.ireturn, 1) := by decide +kernel
theorem dX6_who_0 : decode cX6_who 0 = .ok (.aload_n 0, 1) := by decide +kernel
theorem dX6_who_1 : decode cX6_who 1 = .ok (.getfield 50, 3) := by decide +kernel
theorem dX6_who_4 : decode cX6_who 4 = .ok (.iload_n 1, 1) := by decide +kernel
theorem dX6_who_5 : decode cX6_who 5 = .ok (.invokevirtual 215, 3) := by decide +kernel
theorem dX6_who_8 : decode cX6_who 8 = .ok (.istore_n 2, 1) := by decide +kernel
theorem dX6_who_9 : decode cX6_who 9 = .ok (.iload_n 2, 1) := by decide +kernel
theorem dX6_who_10 : decode cX6_who 10 = .ok (.ifCond .eq 9, 3) := by decide +kernel
theorem dX6_who_13 : decode cX6_who 13 = .ok (.aload_n 0, 1) := by decide +kernel
theorem dX6_who_14 : decode cX6_who 14 = .ok (.iload_n 2, 1) := by decide +kernel
theorem dX6_who_15 : decode cX6_who 15 = .ok (.invokevirtual 69, 3) := by decide +kernel
theorem dX6_who_18 : decode cX6_who 18 = .ok (.ireturn, 1) := by decide +kernel
theorem dX6_who_19 : decode cX6_who 19 = .ok (.aload_n 0, 1) := by decide +kernel
theorem dX6_who_20 : decode cX6_who 20 = .ok (.getfield 50, 3) := by decide +kernel
theorem dX6_who_23 : decode cX6_who 23 = .ok (.getfield 218, 3) := by decide +kernel
theorem dX6_who_26 : decode cX6_who 26 = .ok (.iload_n 1, 1) := by decide +kernel
theorem dX6_who_27 : decode cX6_who 27 = .ok (.iaload, 1) := by decide +kernel
theorem dX6_who_28 : decode cX6_who 28 = .ok (.bipush 12, 2) := by decide +kernel
theorem dX6_who_30 : decode cX6_who 30 = .ok (.if_icmp .le 10, 3) := by decide +kernel
theorem dX6_who_33 : decode cX6_who 33 = .ok (.aload_n 0, 1) := by decide +kernel
theorem dX6_who_34 : decode cX6_who 34 = .ok (.ldc 121, 2) := by decide +kernel
theorem dX6_who_36 : decode cX6_who 36 = .ok (.invokevirtual 69, 3) := by decide +kernel
theorem dX6_who_39 : decode cX6_who 39 = .ok (.ireturn, 1) := by decide +kernel
theorem dX6_who_40 : decode cX6_who 40 = .ok (.iconst 0, 1) := by decide +kernel
theorem dX6_who_41 : decode cX6_who 41 = .ok (.istore_n 3, 1) := by decide +kernel
theorem dX6_who_42 : decode cX6_who 42 = .ok (.iconst 0, 1) := by decide +kernel
theorem dX6_who_43 : decode cX6_who 43 = .ok (.istore 4, 2) := by decide +kernel
theorem dX6_who_45 : decode cX6_who 45 = .ok (.iload 4, 2) := by decide +kernel
theorem dX6_who_47 : decode cX6_who 47 = .ok (.aload_n 0, 1) := by decide +kernel
theorem dX6_who_48 : decode cX6_who 48 = .ok (.getfield 12, 3) := by decide +kernel
theorem dX6_who_51 : decode cX6_who 51 = .ok (.getfield 145, 3) := by decide +kernel
theorem dX6_who_54 : decode cX6_who 54 = .ok (.if_icmp .ge 41, 3) := by decide +kernel
theorem dX6_who_57 : decode cX6_who 57 = .ok (.aload_n 0, 1) := by decide +kernel
theorem dX6_who_58 : decode cX6_who 58 = .ok (.iload 4, 2) := by decide +kernel
theorem dX6_who_60 : decode cX6_who 60 = .ok (.invokevirtual 148, 3) := by decide +kernel
theorem dX6_who_63 : decode cX6_who 63 = .ok (.pop, 1) := by decide +kernel
theorem dX6_who_64 : decode cX6_who 64 = .ok (.aload_n 0, 1) := by decide +kernel
theorem dX6_who_65 : decode cX6_who 65 = .ok (.getfield 50, 3) := by decide +kernel
theorem dX6_who_68 : decode cX6_who 68 = .ok (.iload_n 1, 1) := by decide +kernel
theorem dX6_who_69 : decode cX6_who 69 = .ok (.aload_n 0, 1) := by decide +kernel
theorem dX6_who_70 : decode cX6_who 70 = .ok (.getfield 25, 3) := by decide +kernel
theorem dX6_who_73 : decode cX6_who 73 = .ok (.getfield 154, 3) := by decide +kernel
theorem dX6_who_76 : decode cX6_who 76 = .ok (.invokevirtual 211, 3) := by decide +kernel
theorem dX6_who_79 : decode cX6_who 79 = .ok (.ifCond .eq 10, 3) := by decide +kernel
theorem dX6_who_82 : decode cX6_who 82 = .ok (.iload_n 3, 1) := by decide +kernel
theorem dX6_who_83 : decode cX6_who 83 = .ok (.iconst 1, 1) := by decide +kernel
theorem dX6_who_84 : decode cX6_who 84 = .ok (.iload 4, 2) := by decide +kernel
theorem dX6_who_86 : decode cX6_who 86 = .ok (.ishl, 1) := by decide +kernel
theorem dX6_who_87 : decode cX6_who 87 = .ok (.ior, 1) := by decide +kernel
theorem dX6_who_88 : decode cX6_who 88 = .ok (.istore_n 3, 1) := by decide +kernel
theorem dX6_who_89 : decode cX6_who 89 = .ok (.iinc 4 1, 3) := by decide +kernel
theorem dX6_who_92 : decode cX6_who 92 = .ok (.goto (-47), 3) := by decide +kernel
theorem dX6_who_95 : decode cX6_who 95 = .ok (.iload_n 3, 1) := by decide +kernel
theorem dX6_who_96 : decode cX6_who 96 = .ok (.ireturn, 1) := by decide +kernel
theorem dX6_strangers_0 : decode cX6_strangers 0 = .ok (.iload_n 1, 1) := by decide +kernel
theorem dX6_strangers_1 : decode cX6_strangers 1 = .ok (.iconst 1, 1) := by decide +kernel
theorem dX6_strangers_2 : decode cX6_strangers 2 = .ok (.if_icmp .lt 9, 3) := by decide +kernel
theorem dX6_strangers_5 : decode cX6_strangers 5 = .ok (.iload_n 1, 1) := by decide +kernel
theorem dX6_strangers_6 : decode cX6_strangers 6 = .ok (.bipush 20, 2) := by decide +kernel
theorem dX6_strangers_8 : decode cX6_strangers 8 = .ok (.if_icmp .le 10, 3) := by decide +kernel
theorem dX6_strangers_11 : decode cX6_strangers 11 = .ok (.aload_n 0, 1) := by decide +kernel
theorem dX6_strangers_12 : decode cX6_strangers 12 = .ok (.ldc 68, 2) := by decide +kernel
theorem dX6_strangers_14 : decode cX6_strangers 14 = .ok (.invokevirtual 69, 3) := by decide +kernel
theorem dX6_strangers_17 : decode cX6_strangers 17 = .ok (.ireturn, 1) := by decide +kernel
theorem dX6_strangers_18 : decode cX6_strangers 18 = .ok (.iconst 0, 1) := by decide +kernel
theorem dX6_strangers_19 : decode cX6_strangers 19 = .ok (.istore_n 2, 1) := by decide +kernel
theorem dX6_strangers_20 : decode cX6_strangers 20 = .ok (.iload_n 2, 1) := by decide +kernel
theorem dX6_strangers_21 : decode cX6_strangers 21 = .ok (.iload_n 1, 1) := by decide +kernel
theorem dX6_strangers_22 : decode cX6_strangers 22 = .ok (.if_icmp .ge 50, 3) := by decide +kernel
theorem dX6_strangers_25 : decode cX6_strangers 25 = .ok (.aload_n 0, 1) := by decide +kernel
theorem dX6_strangers_26 : decode cX6_strangers 26 = .ok (.getfield 12, 3) := by decide +kernel
theorem dX6_strangers_29 : decode cX6_strangers 29 = .ok (.invokevirtual 221, 3) := by decide +kernel
theorem dX6_strangers_32 : decode cX6_strangers 32 = .ok (.bipush 12, 2) := by decide +kernel
theorem dX6_strangers_34 : decode cX6_strangers 34 = .ok (.irem, 1) := by decide +kernel
theorem dX6_strangers_35 : decode cX6_strangers 35 = .ok (.istore_n 3, 1) := by decide +kernel
theorem dX6_strangers_36 : decode cX6_strangers 36 = .ok (.aload_n 0, 1) := by decide +kernel
theorem dX6_strangers_37 : decode cX6_strangers 37 = .ok (.getfield 12, 3) := by decide +kernel
theorem dX6_strangers_40 : decode cX6_strangers 40 = .ok (.invokevirtual 221, 3) := by decide +kernel
theorem dX6_strangers_43 : decode cX6_strangers 43 = .ok (.bipush 100, 2) := by decide +kernel
theorem dX6_strangers_45 : decode cX6_strangers 45 = .ok (.irem, 1) := by decide +kernel
theorem dX6_strangers_46 : decode cX6_strangers 46 = .ok (.istore 4, 2) := by decide +kernel
theorem dX6_strangers_48 : decode cX6_strangers 48 = .ok (.iload_n 3, 1) := by decide +kernel
theorem dX6_strangers_49 : decode cX6_strangers 49 = .ok (.invokestatic 61, 3) := by decide +kernel
theorem dX6_strangers_52 : decode cX6_strangers 52 = .ok (.ifCond .eq 14, 3) := by decide +kernel
theorem dX6_strangers_55 : decode cX6_strangers 55 = .ok (.aload_n 0, 1) := by decide +kernel
theorem dX6_strangers_56 : decode cX6_strangers 56 = .ok (.getfield 12, 3) := by decide +kernel
theorem dX6_strangers_59 : decode cX6_strangers 59 = .ok (.getfield 73, 3) := by decide +kernel
theorem dX6_strangers_62 : decode cX6_strangers 62 = .ok (.iload_n 3, 1) := by decide +kernel
theorem dX6_strangers_63 : decode cX6_strangers 63 = .ok (.iload 4, 2) := by decide +kernel
theorem dX6_strangers_65 : decode cX6_strangers 65 = .ok (.iastore, 1) := by decide +kernel
theorem dX6_strangers_66 : decode cX6_strangers 66 = .ok (.iinc 2 1, 3) := by decide +kernel
theorem dX6_strangers_69 : decode cX6_strangers 69 = .ok (.goto (-49), 3) := by decide +kernel
theorem dX6_strangers_72 : decode cX6_strangers 72 = .ok (.aload_n 0, 1) := by decide +kernel
theorem dX6_strangers_73 : decode cX6_strangers 73 = .ok (.getfield 12, 3) := by decide +kernel
theorem dX6_strangers_76 : decode cX6_strangers 76 = .ok (.getfield 73, 3) := by decide +kernel
theorem dX6_strangers_79 : decode cX6_strangers 79 = .ok (.bipush 12, 2) := by decide +kernel
theorem dX6_strangers_81 : decode cX6_strangers 81 = .ok (.invokestatic 137, 3) := by decide +kernel
theorem dX6_strangers_84 : decode cX6_strangers 84 = .ok (.ireturn, 1) := by decide +kernel
theorem dX6_odds_0 : decode cX6_odds 0 = .ok (.aload_n 0, 1) := by decide +kernel
theorem dX6_odds_1 : decode cX6_odds 1 = .ok (.getfield 12, 3) := by decide +kernel
theorem dX6_odds_4 : decode cX6_odds 4 = .ok (.iload_n 1, 1) := by decide +kernel
theorem dX6_odds_5 : decode cX6_odds 5 = .ok (.invokevirtual 88, 3) := by decide +kernel
theorem dX6_odds_8 : decode cX6_odds 8 = .ok (.ifCond .eq 22, 3) := by decide +kernel
theorem dX6_odds_11 : decode cX6_odds 11 = .ok (.iload_n 2, 1) := by decide +kernel
theorem dX6_odds_12 : decode cX6_odds 12 = .ok (.ifCond .lt 18, 3) := by decide +kernel
theorem dX6_odds_15 : decode cX6_odds 15 = .ok (.iload_n 2, 1) := by decide +kernel
theorem dX6_odds_16 : decode cX6_odds 16 = .ok (.bipush 14, 2) := by decide +kernel
theorem dX6_odds_18 : decode cX6_odds 18 = .ok (.if_icmp .gt 12, 3) := by decide +kernel
theorem dX6_odds_21 : decode cX6_odds 21 = .ok (.iload_n 3, 1) := by decide +kernel
theorem dX6_odds_22 : decode cX6_odds 22 = .ok (.ifCond .eq 16, 3) := by decide +kernel
theorem dX6_odds_25 : decode cX6_odds 25 = .ok (.iload_n 3, 1) := by decide +kernel
theorem dX6_odds_26 : decode cX6_odds 26 = .ok (.iconst 1, 1) := by decide +kernel
theorem dX6_odds_27 : decode cX6_odds 27 = .ok (.if_icmp .eq 11, 3) := by decide +kernel
theorem dX6_odds_30 : decode cX6_odds 30 = .ok (.aload_n 0, 1) := by decide +kernel
theorem dX6_odds_31 : decode cX6_odds 31 = .ok (.ldc 68, 2) := by decide +kernel
theorem dX6_odds_33 : decode cX6_odds 33 = .ok (.invokevirtual 69, 3) := by decide +kernel
theorem dX6_odds_36 : decode cX6_odds 36 = .ok (.i2l, 1) := by decide +kernel
theorem dX6_odds_37 : decode cX6_odds 37 = .ok (.lreturn, 1) := by decide +kernel
theorem dX6_odds_38 : decode cX6_odds 38 = .ok (.bipush 12, 2) := by decide +kernel
theorem dX6_odds_40 : decode cX6_odds 40 = .ok (.aload_n 0, 1) := by decide +kernel
theorem dX6_odds_41 : decode cX6_odds 41 = .ok (.getfield 12, 3) := by decide +kernel
theorem dX6_odds_44 : decode cX6_odds 44 = .ok (.iload_n 1, 1) := by decide +kernel
theorem dX6_odds_45 : decode cX6_odds 45 = .ok (.invokevirtual 106, 3) := by decide +kernel
theorem dX6_odds_48 : decode cX6_odds 48 = .ok (.invokestatic 128, 3) := by decide +kernel
theorem dX6_odds_51 : decode cX6_odds 51 = .ok (.isub, 1) := by decide +kernel
theorem dX6_odds_52 : decode cX6_odds 52 = .ok (.istore 4, 2) := by decide +kernel
theorem dX6_odds_54 : decode cX6_odds 54 = .ok (.bipush 12, 2) := by decide +kernel
theorem dX6_odds_56 : decode cX6_odds 56 = .ok (.iload 4, 2) := by decide +kernel
theorem dX6_odds_58 : decode cX6_odds 58 = .ok (.invokestatic 224, 3) := by decide +kernel
theorem dX6_odds_61 : decode cX6_odds 61 = .ok (.istore 5, 2) := by decide +kernel
theorem dX6_odds_63 : decode cX6_odds 63 = .ok (.iload 5, 2) := by decide +kernel
theorem dX6_odds_65 : decode cX6_odds 65 = .ok (.ifCond .ne 7, 3) := by decide +kernel
theorem dX6_odds_68 : decode cX6_odds 68 = .ok (.lconst 0, 1) := by decide +kernel
theorem dX6_odds_69 : decode cX6_odds 69 = .ok (.goto 22, 3) := by decide +kernel
theorem dX6_odds_72 : decode cX6_odds 72 = .ok (.iload_n 3, 1) := by decide +kernel
theorem dX6_odds_73 : decode cX6_odds 73 = .ok (.ifCond .ne 8, 3) := by decide +kernel
theorem dX6_odds_76 : decode cX6_odds 76 = .ok (.iload 4, 2) := by decide +kernel
theorem dX6_odds_78 : decode cX6_odds 78 = .ok (.goto 5, 3) := by decide +kernel
theorem dX6_odds_81 : decode cX6_odds 81 = .ok (.bipush 12, 2) := by decide +kernel
theorem dX6_odds_83 : decode cX6_odds 83 = .ok (.iload 5, 2) := by decide +kernel
theorem dX6_odds_85 : decode cX6_odds 85 = .ok (.idiv, 1) := by decide +kernel
theorem dX6_odds_86 : decode cX6_odds 86 = .ok (.i2l, 1) := by decide +kernel
theorem dX6_odds_87 : decode cX6_odds 87 = .ok (.iload_n 2, 1) := by decide +kernel
theorem dX6_odds_88 : decode cX6_odds 88 = .ok (.invokestatic 227, 3) := by decide +kernel
theorem dX6_odds_91 : decode cX6_odds 91 = .ok (.lreturn, 1) := by decide +kernel
theorem dX6_seed_0 : decode cX6_seed 0 = .ok (.aload_n 0, 1) := by decide +kernel
theorem dX6_seed_1 : decode cX6_seed 1 = .ok (.getfield 12, 3) := by decide +kernel
theorem dX6_seed_4 : decode cX6_seed 4 = .ok (.getfield 231, 3) := by decide +kernel
theorem dX6_seed_7 : decode cX6_seed 7 = .ok (.istore_n 2, 1) := by decide +kernel
theorem dX6_seed_8 : decode cX6_seed 8 = .ok (.aload_n 0, 1) := by decide +kernel
theorem dX6_seed_9 : decode cX6_seed 9 = .ok (.getfield 12, 3) := by decide +kernel
theorem dX6_seed_12 : decode cX6_seed 12 = .ok (.iload_n 1, 1) := by decide +kernel
theorem dX6_seed_13 : decode cX6_seed 13 = .ok (.putfield 231, 3) := by decide +kernel
theorem dX6_seed_16 : decode cX6_seed 16 = .ok (.iload_n 2, 1) := by decide +kernel
theorem dX6_seed_17 : decode cX6_seed 17 = .ok (.ireturn, 1) := by decide +kernel
theorem dX6_feed_0 : decode cX6_feed 0 = .ok (.iload_n 2, 1) := by decide +kernel
theorem dX6_feed_1 : decode cX6_feed 1 = .ok (.iconst 1, 1) := by decide +kernel
theorem dX6_feed_2 : decode cX6_feed 2 = .ok (.if_icmp .lt 8, 3) := by decide +kernel
theorem dX6_feed_5 : decode cX6_feed 5 = .ok (.iload_n 2, 1) := by decide +kernel
theorem dX6_feed_6 : decode cX6_feed 6 = .ok (.iconst 4, 1) := by decide +kernel
theorem dX6_feed_7 : decode cX6_feed 7 = .ok (.if_icmp .le 10, 3) := by decide +kernel
theorem dX6_feed_10 : decode cX6_feed 10 = .ok (.aload_n 0, 1) := by decide +kernel
theorem dX6_feed_11 : decode cX6_feed 11 = .ok (.ldc 68, 2) := by decide +kernel
theorem dX6_feed_13 : decode cX6_feed 13 = .ok (.invokevirtual 69, 3) := by decide +kernel
theorem dX6_feed_16 : decode cX6_feed 16 = .ok (.ireturn, 1) := by decide +kernel
theorem dX6_feed_17 : decode cX6_feed 17 = .ok (.aload_n 0, 1) := by decide +kernel
theorem dX6_feed_18 : decode cX6_feed 18 = .ok (.getfield 43, 3) := by decide +kernel
theorem dX6_feed_21 : decode cX6_feed 21 = .ok (.getfield 234, 3) := by decide +kernel
theorem dX6_feed_24 : decode cX6_feed 24 = .ok (.iload_n 2, 1) := by decide +kernel
theorem dX6_feed_25 : decode cX6_feed 25 = .ok (.iadd, 1) := by decide +kernel
theorem dX6_feed_26 : decode cX6_feed 26 = .ok (.bipush 120, 2) := by decide +kernel
theorem dX6_feed_28 : decode cX6_feed 28 = .ok (.if_icmp .le 10, 3) := by decide +kernel
theorem dX6_feed_31 : decode cX6_feed 31 = .ok (.aload_n 0, 1) := by decide +kernel
theorem dX6_feed_32 : decode cX6_feed 32 = .ok (.ldc 83, 2) := by decide +kernel
theorem dX6_feed_34 : decode cX6_feed 34 = .ok (.invokevirtual 69, 3) := by decide +kernel
theorem dX6_feed_37 : decode cX6_feed 37 = .ok (.ireturn, 1) := by decide +kernel
theorem dX6_feed_38 : decode cX6_feed 38 = .ok (.iload_n 2, 1) := by decide +kernel
theorem dX6_feed_39 : decode cX6_feed 39 = .ok (.iconst 1, 1) := by decide +kernel
theorem dX6_feed_40 : decode cX6_feed 40 = .ok (.isub, 1) := by decide +kernel
theorem dX6_feed_41 : decode cX6_feed 41 = .ok (.istore_n 3, 1) := by decide +kernel
theorem dX6_feed_42 : decode cX6_feed 42 = .ok (.iload_n 3, 1) := by decide +kernel
theorem dX6_feed_43 : decode cX6_feed 43 = .ok (.ifCond .lt 26, 3) := by decide +kernel
theorem dX6_feed_46 : decode cX6_feed 46 = .ok (.aload_n 0, 1) := by decide +kernel
theorem dX6_feed_47 : decode cX6_feed 47 = .ok (.getfield 43, 3) := by decide +kernel
theorem dX6_feed_50 : decode cX6_feed 50 = .ok (.iload_n 1, 1) := by decide +kernel
theorem dX6_feed_51 : decode cX6_feed 51 = .ok (.bipush 8, 2) := by decide +kernel
theorem dX6_feed_53 : decode cX6_feed 53 = .ok (.iload_n 3, 1) := by decide +kernel
theorem dX6_feed_54 : decode cX6_feed 54 = .ok (.imul, 1) := by decide +kernel
theorem dX6_feed_55 : decode cX6_feed 55 = .ok (.iushr, 1) := by decide +kernel
theorem dX6_feed_56 : decode cX6_feed 56 = .ok (.sipush 255, 3) := by decide +kernel
theorem dX6_feed_59 : decode cX6_feed 59 = .ok (.iand, 1) := by decide +kernel
theorem dX6_feed_60 : decode cX6_feed 60 = .ok (.invokevirtual 237, 3) := by decide +kernel
theorem dX6_feed_63 : decode cX6_feed 63 = .ok (.iinc 3 (-1), 3) := by decide +kernel
theorem dX6_feed_66 : decode cX6_feed 66 = .ok (.goto (-24), 3) := by decide +kernel
theorem dX6_feed_69 : decode cX6_feed 69 = .ok (.aload_n 0, 1) := by decide +kernel
theorem dX6_feed_70 : decode cX6_feed 70 = .ok (.getfield 43, 3) := by decide +kernel
theorem dX6_feed_73 : decode cX6_feed 73 = .ok (.getfield 234, 3) := by decide +kernel
theorem dX6_feed_76 : decode cX6_feed 76 = .ok (.ireturn, 1) := by decide +kernel
theorem dX6_wipe_0 : decode cX6_wipe 0 = .ok (.aload_n 0, 1) := by decide +kernel
theorem dX6_wipe_1 : decode cX6_wipe 1 = .ok (.getfield 43, 3) := by decide +kernel
theorem dX6_wipe_4 : decode cX6_wipe 4 = .ok (.getfield 234, 3) := by decide +kernel
theorem dX6_wipe_7 : decode cX6_wipe 7 = .ok (.istore_n 1, 1) := by decide +kernel
theorem dX6_wipe_8 : decode cX6_wipe 8 = .ok (.aload_n 0, 1) := by decide +kernel
theorem dX6_wipe_9 : decode cX6_wipe 9 = .ok (.getfield 43, 3) := by decide +kernel
theorem dX6_wipe_12 : decode cX6_wipe 12 = .ok (.iconst 0, 1) := by decide +kernel
theorem dX6_wipe_13 : decode cX6_wipe 13 = .ok (.putfield 234, 3) := by decide +kernel
theorem dX6_wipe_16 : decode cX6_wipe 16 = .ok (.iload_n 1, 1) := by decide +kernel
theorem dX6_wipe_17 : decode cX6_wipe 17 = .ok (.ireturn, 1) := by decide +kernel
theorem dX6_text_0 : decode cX6_text 0 = .ok (.aload_n 0, 1) := by decide +kernel
theorem dX6_text_1 : decode cX6_text 1 = .ok (.getfield 19, 3) := by decide +kernel
theorem dX6_text_4 : decode cX6_text 4 = .ok (.aload_n 0, 1) := by decide +kernel
theorem dX6_text_5 : decode cX6_text 5 = .ok (.getfield 12, 3) := by decide +kernel
theorem dX6_text_8 : decode cX6_text 8 = .ok (.invokevirtual 240, 3) := by decide +kernel
theorem dX6_text_11 : decode cX6_text 11 = .ok (.aload_n 0, 1) := by decide +kernel
theorem dX6_text_12 : decode cX6_text 12 = .ok (.getfield 43, 3) := by decide +kernel
theorem dX6_text_15 : decode cX6_text 15 = .ok (.aload_n 0, 1) := by decide +kernel
theorem dX6_text_16 : decode cX6_text 16 = .ok (.getfield 19, 3) := by decide +kernel
theorem dX6_text_19 : decode cX6_text 19 = .ok (.invokevirtual 243, 3) := by decide +kernel
theorem dX6_text_22 : decode cX6_text 22 = .ok (.istore_n 1, 1) := by decide +kernel
theorem dX6_text_23 : decode cX6_text 23 = .ok (.aload_n 0, 1) := by decide +kernel
theorem dX6_text_24 : decode cX6_text 24 = .ok (.getfield 43, 3) := by decide +kernel
theorem dX6_text_27 : decode cX6_text 27 = .ok (.iconst 0, 1) := by decide +kernel
theorem dX6_text_28 : decode cX6_text 28 = .ok (.putfield 234, 3) := by decide +kernel
theorem dX6_text_31 : decode cX6_text 31 = .ok (.iload_n 1, 1) := by decide +kernel
theorem dX6_text_32 : decode cX6_text 32 = .ok (.ifCond .lt 14, 3) := by decide +kernel
theorem dX6_text_35 : decode cX6_text 35 = .ok (.aload_n 0, 1) := by decide +kernel
theorem dX6_text_36 : decode cX6_text 36 = .ok (.getfield 12, 3) := by decide +kernel
theorem dX6_text_39 : decode cX6_text 39 = .ok (.aload_n 0, 1) := by decide +kernel
theorem dX6_text_40 : decode cX6_text 40 = .ok (.getfield 19, 3) := by decide +kernel
theorem dX6_text_43 : decode cX6_text 43 = .ok (.invokevirtual 240, 3) := by decide +kernel
theorem dX6_text_46 : decode cX6_text 46 = .ok (.iload_n 1, 1) := by decide +kernel
theorem dX6_text_47 : decode cX6_text 47 = .ok (.ireturn, 1) := by decide +kernel
theorem dX6_hold_0 : decode cX6_hold 0 = .ok (.iload_n 1, 1) := by decide +kernel
theorem dX6_hold_1 : decode cX6_hold 1 = .ok (.invokestatic 246, 3) := by decide +kernel
theorem dX6_hold_4 : decode cX6_hold 4 = .ok (.ifCond .eq 19, 3) := by decide +kernel
theorem dX6_hold_7 : decode cX6_hold 7 = .ok (.iload_n 2, 1) := by decide +kernel
theorem dX6_hold_8 : decode cX6_hold 8 = .ok (.iconst (-1), 1) := by decide +kernel
theorem dX6_hold_9 : decode cX6_hold 9 = .ok (.if_icmp .eq 21, 3) := by decide +kernel
theorem dX6_hold_12 : decode cX6_hold 12 = .ok (.aload_n 0, 1) := by decide +kernel
theorem dX6_hold_13 : decode cX6_hold 13 = .ok (.getfield 12, 3) := by decide +kernel
theorem dX6_hold_16 : decode cX6_hold 16 = .ok (.iload_n 2, 1) := by decide +kernel
theorem dX6_hold_17 : decode cX6_hold 17 = .ok (.invokevirtual 88, 3) := by decide +kernel
theorem dX6_hold_20 : decode cX6_hold 20 = .ok (.ifCond .ne 10, 3) := by decide +kernel
theorem dX6_hold_23 : decode cX6_hold 23 = .ok (.aload_n 0, 1) := by decide +kernel
theorem dX6_hold_24 : decode cX6_hold 24 = .ok (.ldc 68, 2) := by decide +kernel
theorem dX6_hold_26 : decode cX6_hold 26 = .ok (.invokevirtual 69, 3) := by decide +kernel
theorem dX6_hold_29 : decode cX6_hold 29 = .ok (.ireturn, 1) := by decide +kernel
theorem dX6_hold_30 : decode cX6_hold 30 = .ok (.aload_n 0, 1) := by decide +kernel
theorem dX6_hold_31 : decode cX6_hold 31 = .ok (.getfield 12, 3) := by decide +kernel
theorem dX6_hold_34 : decode cX6_hold 34 = .ok (.getfield 249, 3) := by decide +kernel
theorem dX6_hold_37 : decode cX6_hold 37 = .ok (.iload_n 1, 1) := by decide +kernel
theorem dX6_hold_38 : decode cX6_hold 38 = .ok (.iload_n 2, 1) := by decide +kernel
theorem dX6_hold_39 : decode cX6_hold 39 = .ok (.iastore, 1) := by decide +kernel
theorem dX6_hold_40 : decode cX6_hold 40 = .ok (.iconst 1, 1) := by decide +kernel
theorem dX6_hold_41 : decode cX6_hold 41 = .ok (.ireturn, 1) := by decide +kernel
theorem dX6_as_0 : decode cX6_as 0 = .ok (.iload_n 1, 1) := by decide +kernel
theorem dX6_as_1 : decode cX6_as 1 = .ok (.invokestatic 246, 3) := by decide +kernel
theorem dX6_as_4 : decode cX6_as 4 = .ok (.ifCond .eq 10, 3) := by decide +kernel
theorem dX6_as_7 : decode cX6_as 7 = .ok (.iload_n 2, 1) := by decide +kernel
theorem dX6_as_8 : decode cX6_as 8 = .ok (.invokestatic 76, 3) := by decide +kernel
theorem dX6_as_11 : decode cX6_as 11 = .ok (.ifCond .ne 10, 3) := by decide +kernel
theorem dX6_as_14 : decode cX6_as 14 = .ok (.aload_n 0, 1) := by decide +kernel
theorem dX6_as_15 : decode cX6_as 15 = .ok (.ldc 68, 2) := by decide +kernel
theorem dX6_as_17 : decode cX6_as 17 = .ok (.invokevirtual 69, 3) := by decide +kernel
theorem dX6_as_20 : decode cX6_as 20 = .ok (.ireturn, 1) := by decide +kernel
theorem dX6_as_21 : decode cX6_as 21 = .ok (.aload_n 0, 1) := by decide +kernel
theorem dX6_as_22 : decode cX6_as 22 = .ok (.getfield 12, 3) := by decide +kernel
theorem dX6_as_25 : decode cX6_as 25 = .ok (.getfield 249, 3) := by decide +kernel
theorem dX6_as_28 : decode cX6_as 28 = .ok (.iload_n 1, 1) := by decide +kernel
theorem dX6_as_29 : decode cX6_as 29 = .ok (.iaload, 1) := by decide +kernel
theorem dX6_as_30 : decode cX6_as 30 = .ok (.istore_n 3, 1) := by decide +kernel
theorem dX6_as_31 : decode cX6_as 31 = .ok (.aload_n 0, 1) := by decide +kernel
theorem dX6_as_32 : decode cX6_as 32 = .ok (.getfield 12, 3) := by decide +kernel
theorem dX6_as_35 : decode cX6_as 35 = .ok (.iload_n 3, 1) := by decide +kernel
theorem dX6_as_36 : decode cX6_as 36 = .ok (.invokevirtual 88, 3) := by decide +kernel
theorem dX6_as_39 : decode cX6_as 39 = .ok (.ifCond .ne 10, 3) := by decide +kernel
theorem dX6_as_42 : decode cX6_as 42 = .ok (.aload_n 0, 1) := by decide +kernel
theorem dX6_as_43 : decode cX6_as 43 = .ok (.ldc 252, 2) := by decide +kernel
theorem dX6_as_45 : decode cX6_as 45 = .ok (.invokevirtual 69, 3) := by decide +kernel
theorem dX6_as_48 : decode cX6_as 48 = .ok (.ireturn, 1) := by decide +kernel
theorem dX6_as_49 : decode cX6_as 49 = .ok (.aload_n 0, 1) := by decide +kernel
theorem dX6_as_50 : decode cX6_as 50 = .ok (.getfield 12, 3) := by decide +kernel
theorem dX6_as_53 : decode cX6_as 53 = .ok (.getfield 91, 3) := by decide +kernel
theorem dX6_as_56 : decode cX6_as 56 = .ok (.iload_n 3, 1) := by decide +kernel
theorem dX6_as_57 : decode cX6_as 57 = .ok (.iaload, 1) := by decide +kernel
theorem dX6_as_58 : decode cX6_as 58 = .ok (.iload_n 2, 1) := by decide +kernel
theorem dX6_as_59 : decode cX6_as 59 = .ok (.invokestatic 253, 3) := by decide +kernel
theorem dX6_as_62 : decode cX6_as 62 = .ok (.ifCond .eq 7, 3) := by decide +kernel
theorem dX6_as_65 : decode cX6_as 65 = .ok (.iload_n 3, 1) := by decide +kernel
theorem dX6_as_66 : decode cX6_as 66 = .ok (.goto 10, 3) := by decide +kernel
theorem dX6_as_69 : decode cX6_as 69 = .ok (.aload_n 0, 1) := by decide +kernel
theorem dX6_as_70 : decode cX6_as 70 = .ok (.ldc_w 258, 3) := by decide +kernel
theorem dX6_as_73 : decode cX6_as 73 = .ok (.invokevirtual 69, 3) := by decide +kernel
theorem dX6_as_76 : decode cX6_as 76 = .ok (.ireturn, 1) := by decide +kernel
theorem dX6_sheet_0 : decode cX6_sheet 0 = .ok (.iload_n 1, 1) := by decide +kernel
theorem dX6_sheet_1 : decode cX6_sheet 1 = .ok (.invokestatic 259, 3) := by decide +kernel
theorem dX6_sheet_4 : decode cX6_sheet 4 = .ok (.ifCond .eq 25, 3) := by decide +kernel
theorem dX6_sheet_7 : decode cX6_sheet 7 = .ok (.iload_n 2, 1) := by decide +kernel
theorem dX6_sheet_8 : decode cX6_sheet 8 = .ok (.ifCond .eq 28, 3) := by decide +kernel
theorem dX6_sheet_11 : decode cX6_sheet 11 = .ok (.iload_n 2, 1) := by decide +kernel
theorem dX6_sheet_12 : decode cX6_sheet 12 = .ok (.bipush 8, 2) := by decide +kernel
theorem dX6_sheet_14 : decode cX6_sheet 14 = .ok (.if_icmp .eq 22, 3) := by decide +kernel
theorem dX6_sheet_17 : decode cX6_sheet 17 = .ok (.iload_n 2, 1) := by decide +kernel
theorem dX6_sheet_18 : decode cX6_sheet 18 = .ok (.bipush 16, 2) := by decide +kernel
theorem dX6_sheet_20 : decode cX6_sheet 20 = .ok (.if_icmp .eq 16, 3) := by decide +kernel
theorem dX6_sheet_23 : decode cX6_sheet 23 = .ok (.iload_n 2, 1) := by decide +kernel
theorem dX6_sheet_24 : decode cX6_sheet 24 = .ok (.bipush 32, 2) := by decide +kernel
theorem dX6_sheet_26 : decode cX6_sheet 26 = .ok (.if_icmp .eq 10, 3) := by decide +kernel
theorem dX6_sheet_29 : decode cX6_sheet 29 = .ok (.aload_n 0, 1) := by decide +kernel
theorem dX6_sheet_30 : decode cX6_sheet 30 = .ok (.ldc 68, 2) := by decide +kernel
theorem dX6_sheet_32 : decode cX6_sheet 32 = .ok (.invokevirtual 69, 3) := by decide +kernel
theorem dX6_sheet_35 : decode cX6_sheet 35 = .ok (.ireturn, 1) := by decide +kernel
theorem dX6_sheet_36 : decode cX6_sheet 36 = .ok (.iload_n 3, 1) := by decide +kernel
theorem dX6_sheet_37 : decode cX6_sheet 37 = .ok (.ifCond .ge 11, 3) := by decide +kernel
theorem dX6_sheet_40 : decode cX6_sheet 40 = .ok (.aload_n 0, 1) := by decide +kernel
theorem dX6_sheet_41 : decode cX6_sheet 41 = .ok (.ldc_w 262, 3) := by decide +kernel
theorem dX6_sheet_44 : decode cX6_sheet 44 = .ok (.invokevirtual 69, 3) := by decide +kernel
theorem dX6_sheet_47 : decode cX6_sheet 47 = .ok (.ireturn, 1) := by decide +kernel
theorem dX6_sheet_48 : decode cX6_sheet 48 = .ok (.iload_n 3, 1) := by decide +kernel
theorem dX6_sheet_49 : decode cX6_sheet 49 = .ok (.bipush 40, 2) := by decide +kernel
theorem dX6_sheet_51 : decode cX6_sheet 51 = .ok (.if_icmp .le 10, 3) := by decide +kernel
theorem dX6_sheet_54 : decode cX6_sheet 54 = .ok (.aload_n 0, 1) := by decide +kernel
theorem dX6_sheet_55 : decode cX6_sheet 55 = .ok (.ldc 68, 2) := by decide +kernel
theorem dX6_sheet_57 : decode cX6_sheet 57 = .ok (.invokevirtual 69, 3) := by decide +kernel
theorem dX6_sheet_60 : decode cX6_sheet 60 = .ok (.ireturn, 1) := by decide +kernel
theorem dX6_sheet_61 : decode cX6_sheet 61 = .ok (.aload_n 0, 1) := by decide +kernel
theorem dX6_sheet_62 : decode cX6_sheet 62 = .ok (.getfield 50, 3) := by decide +kernel
theorem dX6_sheet_65 : decode cX6_sheet 65 = .ok (.iload_n 1, 1) := by decide +kernel
theorem dX6_sheet_66 : decode cX6_sheet 66 = .ok (.iload_n 2, 1) := by decide +kernel
theorem dX6_sheet_67 : decode cX6_sheet 67 = .ok (.iload_n 2, 1) := by decide +kernel
theorem dX6_sheet_68 : decode cX6_sheet 68 = .ok (.ifCond .ne 7, 3) := by decide +kernel
theorem dX6_sheet_71 : decode cX6_sheet 71 = .ok (.iconst 0, 1) := by decide +kernel
theorem dX6_sheet_72 : decode cX6_sheet 72 = .ok (.goto 4, 3) := by decide +kernel
theorem dX6_sheet_75 : decode cX6_sheet 75 = .ok (.iload_n 3, 1) := by decide +kernel
theorem dX6_sheet_76 : decode cX6_sheet 76 = .ok (.invokevirtual 263, 3) := by decide +kernel
theorem dX6_sheet_79 : decode cX6_sheet 79 = .ok (.aload_n 0, 1) := by decide +kernel
theorem dX6_sheet_80 : decode cX6_sheet 80 = .ok (.getfield 50, 3) := by decide +kernel
theorem dX6_sheet_83 : decode cX6_sheet 83 = .ok (.getfield 218, 3) := by decide +kernel
theorem dX6_sheet_86 : decode cX6_sheet 86 = .ok (.iload_n 1, 1) := by decide +kernel
theorem dX6_sheet_87 : decode cX6_sheet 87 = .ok (.iaload, 1) := by decide +kernel
theorem dX6_sheet_88 : decode cX6_sheet 88 = .ok (.ireturn, 1) := by decide +kernel
theorem dX6_write_0 : decode cX6_write 0 = .ok (.aload_n 0, 1) := by decide +kernel
theorem dX6_write_1 : decode cX6_write 1 = .ok (.getfield 50, 3) := by decide +kernel
theorem dX6_write_4 : decode cX6_write 4 = .ok (.iload_n 1, 1) := by decide +kernel
theorem dX6_write_5 : decode cX6_write 5 = .ok (.invokevirtual 215, 3) := by decide +kernel
theorem dX6_write_8 : decode cX6_write 8 = .ok (.istore 4, 2) := by decide +kernel
theorem dX6_write_10 : decode cX6_write 10 = .ok (.iload 4, 2) := by decide +kernel
theorem dX6_write_12 : decode cX6_write 12 = .ok (.ifCond .eq 10, 3) := by decide +kernel
theorem dX6_write_15 : decode cX6_write 15 = .ok (.aload_n 0, 1) := by decide +kernel
theorem dX6_write_16 : decode cX6_write 16 = .ok (.iload 4, 2) := by decide +kernel
theorem dX6_write_18 : decode cX6_write 18 = .ok (.invokevirtual 69, 3) := by decide +kernel
theorem dX6_write_21 : decode cX6_write 21 = .ok (.ireturn, 1) := by decide +kernel
theorem dX6_write_22 : decode cX6_write 22 = .ok (.iload_n 2, 1) := by decide +kernel
theorem dX6_write_23 : decode cX6_write 23 = .ok (.ifCond .lt 16, 3) := by decide +kernel
theorem dX6_write_26 : decode cX6_write 26 = .ok (.iload_n 2, 1) := by decide +kernel
theorem dX6_write_27 : decode cX6_write 27 = .ok (.aload_n 0, 1) := by decide +kernel
theorem dX6_write_28 : decode cX6_write 28 = .ok (.getfield 50, 3) := by decide +kernel
theorem dX6_write_31 : decode cX6_write 31 = .ok (.getfield 218, 3) := by decide +kernel
theorem dX6_write_34 : decode cX6_write 34 = .ok (.iload_n 1, 1) := by decide +kernel
theorem dX6_write_35 : decode cX6_write 35 = .ok (.iaload, 1) := by decide +kernel
theorem dX6_write_36 : decode cX6_write 36 = .ok (.if_icmp .lt 10, 3) := by decide +kernel
theorem dX6_write_39 : decode cX6_write 39 = .ok (.aload_n 0, 1) := by decide +kernel
theorem dX6_write_40 : decode cX6_write 40 = .ok (.ldc 68, 2) := by decide +kernel
theorem dX6_write_42 : decode cX6_write 42 = .ok (.invokevirtual 69, 3) := by decide +kernel
theorem dX6_write_45 : decode cX6_write 45 = .ok (.ireturn, 1) := by decide +kernel
theorem dX6_write_46 : decode cX6_write 46 = .ok (.aload_n 0, 1) := by decide +kernel
theorem dX6_write_47 : decode cX6_write 47 = .ok (.getfield 50, 3) := by decide +kernel
theorem dX6_write_50 : decode cX6_write 50 = .ok (.iload_n 1, 1) := by decide +kernel
theorem dX6_write_51 : decode cX6_write 51 = .ok (.iload_n 2, 1) := by decide +kernel
theorem dX6_write_52 : decode cX6_write 52 = .ok (.iload_n 3, 1) := by decide +kernel
theorem dX6_write_53 : decode cX6_write 53 = .ok (.invokevirtual 267, 3) := by decide +kernel
theorem dX6_write_56 : decode cX6_write 56 = .ok (.iconst 1, 1) := by decide +kernel
theorem dX6_write_57 : decode cX6_write 57 = .ok (.ireturn, 1) := by decide +kernel
theorem dX6_copy_0 : decode cX6_copy 0 = .ok (.iload_n 1, 1) := by decide +kernel
theorem dX6_copy_1 : decode cX6_copy 1 = .ok (.invokestatic 259, 3) := by decide +kernel
theorem dX6_copy_4 : decode cX6_copy 4 = .ok (.ifCond .eq 10, 3) := by decide +kernel
theorem dX6_copy_7 : decode cX6_copy 7 = .ok (.iload_n 3, 1) := by decide +kernel
theorem dX6_copy_8 : decode cX6_copy 8 = .ok (.invokestatic 259, 3) := by decide +kernel
theorem dX6_copy_11 : decode cX6_copy 11 = .ok (.ifCond .ne 10, 3) := by decide +kernel
theorem dX6_copy_14 : decode cX6_copy 14 = .ok (.aload_n 0, 1) := by decide +kernel
theorem dX6_copy_15 : decode cX6_copy 15 = .ok (.ldc 68, 2) := by decide +kernel
theorem dX6_copy_17 : decode cX6_copy 17 = .ok (.invokevirtual 69, 3) := by decide +kernel
theorem dX6_copy_20 : decode cX6_copy 20 = .ok (.ireturn, 1) := by decide +kernel
theorem dX6_copy_21 : decode cX6_copy 21 = .ok (.aload_n 0, 1) := by decide +kernel
theorem dX6_copy_22 : decode cX6_copy 22 = .ok (.getfield 50, 3) := by decide +kernel
theorem dX6_copy_25 : decode cX6_copy 25 = .ok (.iload_n 1, 1) := by decide +kernel
theorem dX6_copy_26 : decode cX6_copy 26 = .ok (.invokevirtual 215, 3) := by decide +kernel
theorem dX6_copy_29 : decode cX6_copy 29 = .ok (.ifCond .ne 14, 3) := by decide +kernel
theorem dX6_copy_32 : decode cX6_copy 32 = .ok (.aload_n 0, 1) := by decide +kernel
theorem dX6_copy_33 : decode cX6_copy 33 = .ok (.getfield 50, 3) := by decide +kernel
theorem dX6_copy_36 : decode cX6_copy 36 = .ok (.iload_n 3, 1) := by decide +kernel
theorem dX6_copy_37 : decode cX6_copy 37 = .ok (.invokevirtual 215, 3) := by decide +kernel
theorem dX6_copy_40 : decode cX6_copy 40 = .ok (.ifCond .eq 10, 3) := by decide +kernel
theorem dX6_copy_43 : decode cX6_copy 43 = .ok (.aload_n 0, 1) := by decide +kernel
theorem dX6_copy_44 : decode cX6_copy 44 = .ok (.ldc 252, 2) := by decide +kernel
theorem dX6_copy_46 : decode cX6_copy 46 = .ok (.invokevirtual 69, 3) := by decide +kernel
theorem dX6_copy_49 : decode cX6_copy 49 = .ok (.ireturn, 1) := by decide +kernel
theorem dX6_copy_50 : decode cX6_copy 50 = .ok (.aload_n 0, 1) := by decide +kernel
theorem dX6_copy_51 : decode cX6_copy 51 = .ok (.getfield 50, 3) := by decide +kernel
theorem dX6_copy_54 : decode cX6_copy 54 = .ok (.getfield 269, 3) := by decide +kernel
theorem dX6_copy_57 : decode cX6_copy 57 = .ok (.iload_n 1, 1) := by decide +kernel
theorem dX6_copy_58 : decode cX6_copy 58 = .ok (.iaload, 1) := by decide +kernel
theorem dX6_copy_59 : decode cX6_copy 59 = .ok (.aload_n 0, 1) := by decide +kernel
theorem dX6_copy_60 : decode cX6_copy 60 = .ok (.getfield 50, 3) := by decide +kernel
theorem dX6_copy_63 : decode cX6_copy 63 = .ok (.getfield 269, 3) := by decide +kernel
theorem dX6_copy_66 : decode cX6_copy 66 = .ok (.iload_n 3, 1) := by decide +kernel
theorem dX6_copy_67 : decode cX6_copy 67 = .ok (.iaload, 1) := by decide +kernel
theorem dX6_copy_68 : decode cX6_copy 68 = .ok (.if_icmp .eq 11, 3) := by decide +kernel
theorem dX6_copy_71 : decode cX6_copy 71 = .ok (.aload_n 0, 1) := by decide +kernel
theorem dX6_copy_72 : decode cX6_copy 72 = .ok (.ldc_w 258, 3) := by decide +kernel
theorem dX6_copy_75 : decode cX6_copy 75 = .ok (.invokevirtual 69, 3) := by decide +kernel
theorem dX6_copy_78 : decode cX6_copy 78 = .ok (.ireturn, 1) := by decide +kernel
theorem dX6_copy_79 : decode cX6_copy 79 = .ok (.aload_n 0, 1) := by decide +kernel
theorem dX6_copy_80 : decode cX6_copy 80 = .ok (.getfield 50, 3) := by decide +kernel
theorem dX6_copy_83 : decode cX6_copy 83 = .ok (.iload_n 1, 1) := by decide +kernel
theorem dX6_copy_84 : decode cX6_copy 84 = .ok (.iload_n 2, 1) := by decide +kernel
theorem dX6_copy_85 : decode cX6_copy 85 = .ok (.iload 5, 2) := by decide +kernel
theorem dX6_copy_87 : decode cX6_copy 87 = .ok (.invokevirtual 272, 3) := by decide +kernel
theorem dX6_copy_90 : decode cX6_copy 90 = .ok (.ifCond .eq 18, 3) := by decide +kernel
theorem dX6_copy_93 : decode cX6_copy 93 = .ok (.aload_n 0, 1) := by decide +kernel
theorem dX6_copy_94 : decode cX6_copy 94 = .ok (.getfield 50, 3) := by decide +kernel
theorem dX6_copy_97 : decode cX6_copy 97 = .ok (.iload_n 3, 1) := by decide +kernel
theorem dX6_copy_98 : decode cX6_copy 98 = .ok (.iload 4, 2) := by decide +kernel
theorem dX6_copy_100 : decode cX6_copy 100 = .ok (.iload 5, 2) := by decide +kernel
theorem dX6_copy_102 : decode cX6_copy 102 = .ok (.invokevirtual 272, 3) := by decide +kernel
theorem dX6_copy_105 : decode cX6_copy 105 = .ok (.ifCond .ne 10, 3) := by decide +kernel
theorem dX6_copy_108 : decode cX6_copy 108 = .ok (.aload_n 0, 1) := by decide +kernel
theorem dX6_copy_109 : decode cX6_copy 109 = .ok (.ldc 68, 2) := by decide +kernel
theorem dX6_copy_111 : decode cX6_copy 111 = .ok (.invokevirtual 69, 3) := by decide +kernel
theorem dX6_copy_114 : decode cX6_copy 114 = .ok (.ireturn, 1) := by decide +kernel
theorem dX6_copy_115 : decode cX6_copy 115 = .ok (.aload_n 0, 1) := by decide +kernel
theorem dX6_copy_116 : decode cX6_copy 116 = .ok (.getfield 50, 3) := by decide +kernel
theorem dX6_copy_119 : decode cX6_copy 119 = .ok (.getfield 276, 3) := by decide +kernel
theorem dX6_copy_122 : decode cX6_copy 122 = .ok (.iload_n 1, 1) := by decide +kernel
theorem dX6_copy_123 : decode cX6_copy 123 = .ok (.aaload, 1) := by decide +kernel
theorem dX6_copy_124 : decode cX6_copy 124 = .ok (.iload_n 2, 1) := by decide +kernel
theorem dX6_copy_125 : decode cX6_copy 125 = .ok (.aload_n 0, 1) := by decide +kernel
theorem dX6_copy_126 : decode cX6_copy 126 = .ok (.getfield 50, 3) := by decide +kernel
theorem dX6_copy_129 : decode cX6_copy 129 = .ok (.getfield 276, 3) := by decide +kernel
theorem dX6_copy_132 : decode cX6_copy 132 = .ok (.iload_n 3, 1) := by decide +kernel
theorem dX6_copy_133 : decode cX6_copy 133 = .ok (.aaload, 1) := by decide +kernel
theorem dX6_copy_134 : decode cX6_copy 134 = .ok (.iload 4, 2) := by decide +kernel
theorem dX6_copy_136 : decode cX6_copy 136 = .ok (.iload 5, 2) := by decide +kernel
theorem dX6_copy_138 : decode cX6_copy 138 = .ok (.invokestatic 280, 3) := by decide +kernel
theorem dX6_copy_141 : decode cX6_copy 141 = .ok (.iload 5, 2) := by decide +kernel
theorem dX6_copy_143 : decode cX6_copy 143 = .ok (.ireturn, 1) := by decide +kernel
theorem dX6_load_0 : decode cX6_load 0 = .ok (.aload_n 0, 1) := by decide +kernel
theorem dX6_load_1 : decode cX6_load 1 = .ok (.getfield 50, 3) := by decide +kernel
theorem dX6_load_4 : decode cX6_load 4 = .ok (.iload_n 1, 1) := by decide +kernel
theorem dX6_load_5 : decode cX6_load 5 = .ok (.invokevirtual 215, 3) := by decide +kernel
theorem dX6_load_8 : decode cX6_load 8 = .ok (.istore_n 2, 1) := by decide +kernel
theorem dX6_load_9 : decode cX6_load 9 = .ok (.iload_n 2, 1) := by decide +kernel
theorem dX6_load_10 : decode cX6_load 10 = .ok (.ifCond .eq 9, 3) := by decide +kernel
theorem dX6_load_13 : decode cX6_load 13 = .ok (.aload_n 0, 1) := by decide +kernel
theorem dX6_load_14 : decode cX6_load 14 = .ok (.iload_n 2, 1) := by decide +kernel
theorem dX6_load_15 : decode cX6_load 15 = .ok (.invokevirtual 69, 3) := by decide +kernel
theorem dX6_load_18 : decode cX6_load 18 = .ok (.ireturn, 1) := by decide +kernel
theorem dX6_load_19 : decode cX6_load 19 = .ok (.iconst 0, 1) := by decide +kernel
theorem dX6_load_20 : decode cX6_load 20 = .ok (.istore_n 3, 1) := by decide +kernel
theorem dX6_load_21 : decode cX6_load 21 = .ok (.iload_n 3, 1) := by decide +kernel
theorem dX6_load_22 : decode cX6_load 22 = .ok (.bipush 12, 2) := by decide +kernel
theorem dX6_load_24 : decode cX6_load 24 = .ok (.if_icmp .ge 59, 3) := by decide +kernel
theorem dX6_load_27 : decode cX6_load 27 = .ok (.iload_n 3, 1) := by decide +kernel
theorem dX6_load_28 : decode cX6_load 28 = .ok (.aload_n 0, 1) := by decide +kernel
theorem dX6_load_29 : decode cX6_load 29 = .ok (.getfield 50, 3) := by decide +kernel
theorem dX6_load_32 : decode cX6_load 32 = .ok (.getfield 218, 3) := by decide +kernel
theorem dX6_load_35 : decode cX6_load 35 = .ok (.iload_n 1, 1) := by decide +kernel
theorem dX6_load_36 : decode cX6_load 36 = .ok (.iaload, 1) := by decide +kernel
theorem dX6_load_37 : decode cX6_load 37 = .ok (.if_icmp .ge 46, 3) := by decide +kernel
theorem dX6_load_40 : decode cX6_load 40 = .ok (.aload_n 0, 1) := by decide +kernel
theorem dX6_load_41 : decode cX6_load 41 = .ok (.getfield 50, 3) := by decide +kernel
theorem dX6_load_44 : decode cX6_load 44 = .ok (.getfield 276, 3) := by decide +kernel
theorem dX6_load_47 : decode cX6_load 47 = .ok (.iload_n 1, 1) := by decide +kernel
theorem dX6_load_48 : decode cX6_load 48 = .ok (.aaload, 1) := by decide +kernel
theorem dX6_load_49 : decode cX6_load 49 = .ok (.iload_n 3, 1) := by decide +kernel
theorem dX6_load_50 : decode cX6_load 50 = .ok (.iaload, 1) := by decide +kernel
theorem dX6_load_51 : decode cX6_load 51 = .ok (.invokestatic 65, 3) := by decide +kernel
theorem dX6_load_54 : decode cX6_load 54 = .ok (.ifCond .eq 29, 3) := by decide +kernel
theorem dX6_load_57 : decode cX6_load 57 = .ok (.aload_n 0, 1) := by decide +kernel
theorem dX6_load_58 : decode cX6_load 58 = .ok (.getfield 12, 3) := by decide +kernel
theorem dX6_load_61 : decode cX6_load 61 = .ok (.getfield 73, 3) := by decide +kernel
theorem dX6_load_64 : decode cX6_load 64 = .ok (.iload_n 3, 1) := by decide +kernel
theorem dX6_load_65 : decode cX6_load 65 = .ok (.aload_n 0, 1) := by decide +kernel
theorem dX6_load_66 : decode cX6_load 66 = .ok (.getfield 50, 3) := by decide +kernel
theorem dX6_load_69 : decode cX6_load 69 = .ok (.getfield 276, 3) := by decide +kernel
theorem dX6_load_72 : decode cX6_load 72 = .ok (.iload_n 1, 1) := by decide +kernel
theorem dX6_load_73 : decode cX6_load 73 = .ok (.aaload, 1) := by decide +kernel
theorem dX6_load_74 : decode cX6_load 74 = .ok (.iload_n 3, 1) := by decide +kernel
theorem dX6_load_75 : decode cX6_load 75 = .ok (.iaload, 1) := by decide +kernel
theorem dX6_load_76 : decode cX6_load 76 = .ok (.iastore, 1) := by decide +kernel
theorem dX6_load_77 : decode cX6_load 77 = .ok (.iinc 3 1, 3) := by decide +kernel
theorem dX6_load_80 : decode cX6_load 80 = .ok (.goto (-59), 3) := by decide +kernel
theorem dX6_load_83 : decode cX6_load 83 = .ok (.iload_n 3, 1) := by decide +kernel
theorem dX6_load_84 : decode cX6_load 84 = .ok (.ireturn, 1) := by decide +kernel
theorem dX6_judge_0 : decode cX6_judge 0 = .ok (.aload_n 0, 1) := by decide +kernel
theorem dX6_judge_1 : decode cX6_judge 1 = .ok (.getfield 50, 3) := by decide +kernel
theorem dX6_judge_4 : decode cX6_judge 4 = .ok (.iload_n 1, 1) := by decide +kernel
theorem dX6_judge_5 : decode cX6_judge 5 = .ok (.invokevirtual 215, 3) := by decide +kernel
theorem dX6_judge_8 : decode cX6_judge 8 = .ok (.istore_n 2, 1) := by decide +kernel
theorem dX6_judge_9 : decode cX6_judge 9 = .ok (.iload_n 2, 1) := by decide +kernel
theorem dX6_judge_10 : decode cX6_judge 10 = .ok (.ifCond .eq 9, 3) := by decide +kernel
theorem dX6_judge_13 : decode cX6_judge 13 = .ok (.aload_n 0, 1) := by decide +kernel
theorem dX6_judge_14 : decode cX6_judge 14 = .ok (.iload_n 2, 1) := by decide +kernel
theorem dX6_judge_15 : decode cX6_judge 15 = .ok (.invokevirtual 69, 3) := by decide +kernel
theorem dX6_judge_18 : decode cX6_judge 18 = .ok (.ireturn, 1) := by decide +kernel
theorem dX6_judge_19 : decode cX6_judge 19 = .ok (.iconst 0, 1) := by decide +kernel
theorem dX6_judge_20 : decode cX6_judge 20 = .ok (.istore_n 3, 1) := by decide +kernel
theorem dX6_judge_21 : decode cX6_judge 21 = .ok (.aload_n 0, 1) := by decide +kernel
theorem dX6_judge_22 : decode cX6_judge 22 = .ok (.getfield 25, 3) := by decide +kernel
theorem dX6_judge_25 : decode cX6_judge 25 = .ok (.aload_n 0, 1) := by decide +kernel
theorem dX6_judge_26 : decode cX6_judge 26 = .ok (.getfield 12, 3) := by decide +kernel
theorem dX6_judge_29 : decode cX6_judge 29 = .ok (.getfield 73, 3) := by decide +kernel
theorem dX6_judge_32 : decode cX6_judge 32 = .ok (.invokevirtual 286, 3) := by decide +kernel
theorem dX6_judge_35 : decode cX6_judge 35 = .ok (.iconst 0, 1) := by decide +kernel
theorem dX6_judge_36 : decode cX6_judge 36 = .ok (.istore 4, 2) := by decide +kernel
theorem dX6_judge_38 : decode cX6_judge 38 = .ok (.iload 4, 2) := by decide +kernel
theorem dX6_judge_40 : decode cX6_judge 40 = .ok (.aload_n 0, 1) := by decide +kernel
theorem dX6_judge_41 : decode cX6_judge 41 = .ok (.getfield 50, 3) := by decide +kernel
theorem dX6_judge_44 : decode cX6_judge 44 = .ok (.getfield 218, 3) := by decide +kernel
theorem dX6_judge_47 : decode cX6_judge 47 = .ok (.iload_n 1, 1) := by decide +kernel
theorem dX6_judge_48 : decode cX6_judge 48 = .ok (.iaload, 1) := by decide +kernel
theorem dX6_judge_49 : decode cX6_judge 49 = .ok (.if_icmp .ge 93, 3) := by decide +kernel
theorem dX6_judge_52 : decode cX6_judge 52 = .ok (.aload_n 0, 1) := by decide +kernel
theorem dX6_judge_53 : decode cX6_judge 53 = .ok (.getfield 50, 3) := by decide +kernel
theorem dX6_judge_56 : decode cX6_judge 56 = .ok (.getfield 276, 3) := by decide +kernel
theorem dX6_judge_59 : decode cX6_judge 59 = .ok (.iload_n 1, 1) := by decide +kernel
theorem dX6_judge_60 : decode cX6_judge 60 = .ok (.aaload, 1) := by decide +kernel
theorem dX6_judge_61 : decode cX6_judge 61 = .ok (.iload 4, 2) := by decide +kernel
theorem dX6_judge_63 : decode cX6_judge 63 = .ok (.iaload, 1) := by decide +kernel
theorem dX6_judge_64 : decode cX6_judge 64 = .ok (.istore 5, 2) := by decide +kernel
theorem dX6_judge_66 : decode cX6_judge 66 = .ok (.aload_n 0, 1) := by decide +kernel
theorem dX6_judge_67 : decode cX6_judge 67 = .ok (.getfield 12, 3) := by decide +kernel
theorem dX6_judge_70 : decode cX6_judge 70 = .ok (.iload 5, 2) := by decide +kernel
theorem dX6_judge_72 : decode cX6_judge 72 = .ok (.invokevirtual 88, 3) := by decide +kernel
theorem dX6_judge_75 : decode cX6_judge 75 = .ok (.ifCond .eq 12, 3) := by decide +kernel
theorem dX6_judge_78 : decode cX6_judge 78 = .ok (.iload_n 3, 1) := by decide +kernel
theorem dX6_judge_79 : decode cX6_judge 79 = .ok (.iload 5, 2) := by decide +kernel
theorem dX6_judge_81 : decode cX6_judge 81 = .ok (.invokestatic 133, 3) := by decide +kernel
theorem dX6_judge_84 : decode cX6_judge 84 = .ok (.ifCond .eq 8, 3) := by decide +kernel
theorem dX6_judge_87 : decode cX6_judge 87 = .ok (.iconst 1, 1) := by decide +kernel
theorem dX6_judge_88 : decode cX6_judge 88 = .ok (.iload 4, 2) := by decide +kernel
theorem dX6_judge_90 : decode cX6_judge 90 = .ok (.iadd, 1) := by decide +kernel
theorem dX6_judge_91 : decode cX6_judge 91 = .ok (.ireturn, 1) := by decide +kernel
theorem dX6_judge_92 : decode cX6_judge 92 = .ok (.aload_n 0, 1) := by decide +kernel
theorem dX6_judge_93 : decode cX6_judge 93 = .ok (.getfield 25, 3) := by decide +kernel
theorem dX6_judge_96 : decode cX6_judge 96 = .ok (.aload_n 0, 1) := by decide +kernel
theorem dX6_judge_97 : decode cX6_judge 97 = .ok (.getfield 12, 3) := by decide +kernel
theorem dX6_judge_100 : decode cX6_judge 100 = .ok (.iload 5, 2) := by decide +kernel
theorem dX6_judge_102 : decode cX6_judge 102 = .ok (.invokevirtual 157, 3) := by decide +kernel
theorem dX6_judge_105 : decode cX6_judge 105 = .ok (.aload_n 0, 1) := by decide +kernel
theorem dX6_judge_106 : decode cX6_judge 106 = .ok (.getfield 25, 3) := by decide +kernel
theorem dX6_judge_109 : decode cX6_judge 109 = .ok (.aload_n 0, 1) := by decide +kernel
theorem dX6_judge_110 : decode cX6_judge 110 = .ok (.getfield 25, 3) := by decide +kernel
theorem dX6_judge_113 : decode cX6_judge 113 = .ok (.getfield 154, 3) := by decide +kernel
theorem dX6_judge_116 : decode cX6_judge 116 = .ok (.invokevirtual 161, 3) := by decide +kernel
theorem dX6_judge_119 : decode cX6_judge 119 = .ok (.bipush 12, 2) := by decide +kernel
theorem dX6_judge_121 : decode cX6_judge 121 = .ok (.if_icmp .ge 8, 3) := by decide +kernel
theorem dX6_judge_124 : decode cX6_judge 124 = .ok (.iconst 1, 1) := by decide +kernel
theorem dX6_judge_125 : decode cX6_judge 125 = .ok (.iload 4, 2) := by decide +kernel
theorem dX6_judge_127 : decode cX6_judge 127 = .ok (.iadd, 1) := by decide +kernel
theorem dX6_judge_128 : decode cX6_judge 128 = .ok (.ireturn, 1) := by decide +kernel
theorem dX6_judge_129 : decode cX6_judge 129 = .ok (.iload_n 3, 1) := by decide +kernel
theorem dX6_judge_130 : decode cX6_judge 130 = .ok (.iconst 1, 1) := by decide +kernel
theorem dX6_judge_131 : decode cX6_judge 131 = .ok (.iload 5, 2) := by decide +kernel
theorem dX6_judge_133 : decode cX6_judge 133 = .ok (.ishl, 1) := by decide +kernel
theorem dX6_judge_134 : decode cX6_judge 134 = .ok (.ior, 1) := by decide +kernel
theorem dX6_judge_135 : decode cX6_judge 135 = .ok (.istore_n 3, 1) := by decide +kernel
theorem dX6_judge_136 : decode cX6_judge 136 = .ok (.iinc 4 1, 3) := by decide +kernel
theorem dX6_judge_139 : decode cX6_judge 139 = .ok (.goto (-101), 3) := by decide +kernel
theorem dX6_judge_142 : decode cX6_judge 142 = .ok (.iconst 0, 1) := by decide +kernel
theorem dX6_judge_143 : decode cX6_judge 143 = .ok (.ireturn, 1) := by decide +kernel
theorem dX6_image_0 : decode cX6_image 0 = .ok (.aload_n 0, 1) := by decide +kernel
theorem dX6_image_1 : decode cX6_image 1 = .ok (.getfield 16, 3) := by decide +kernel
theorem dX6_image_4 : decode cX6_image 4 = .ok (.aload_n 0, 1) := by decide +kernel
theorem dX6_image_5 : decode cX6_image 5 = .ok (.getfield 12, 3) := by decide +kernel
theorem dX6_image_8 : decode cX6_image 8 = .ok (.invokevirtual 240, 3) := by decide +kernel
theorem dX6_image_11 : decode cX6_image 11 = .ok (.aload_n 0, 1) := by decide +kernel
theorem dX6_image_12 : decode cX6_image 12 = .ok (.iconst 1, 1) := by decide +kernel
theorem dX6_image_13 : decode cX6_image 13 = .ok (.putfield 57, 3) := by decide +kernel
theorem dX6_image_16 : decode cX6_image 16 = .ok (.iconst 1, 1) := by decide +kernel
theorem dX6_image_17 : decode cX6_image 17 = .ok (.ireturn, 1) := by decide +kernel
theorem dX6_undo_0 : decode cX6_undo 0 = .ok (.aload_n 0, 1) := by decide +kernel
theorem dX6_undo_1 : decode cX6_undo 1 = .ok (.getfield 57, 3) := by decide +kernel
theorem dX6_undo_4 : decode cX6_undo 4 = .ok (.ifCond .ne 10, 3) := by decide +kernel
theorem dX6_undo_7 : decode cX6_undo 7 = .ok (.aload_n 0, 1) := by decide +kernel
theorem dX6_undo_8 : decode cX6_undo 8 = .ok (.ldc 172, 2) := by decide +kernel
theorem dX6_undo_10 : decode cX6_undo 10 = .ok (.invokevirtual 69, 3) := by decide +kernel
theorem dX6_undo_13 : decode cX6_undo 13 = .ok (.ireturn, 1) := by decide +kernel
theorem dX6_undo_14 : decode cX6_undo 14 = .ok (.aload_n 0, 1) := by decide +kernel
theorem dX6_undo_15 : decode cX6_undo 15 = .ok (.getfield 12, 3) := by decide +kernel
theorem dX6_undo_18 : decode cX6_undo 18 = .ok (.aload_n 0, 1) := by decide +kernel
theorem dX6_undo_19 : decode cX6_undo 19 = .ok (.getfield 16, 3) := by decide +kernel
theorem dX6_undo_22 : decode cX6_undo 22 = .ok (.invokevirtual 240, 3) := by decide +kernel
theorem dX6_undo_25 : decode cX6_undo 25 = .ok (.aload_n 0, 1) := by decide +kernel
theorem dX6_undo_26 : decode cX6_undo 26 = .ok (.getfield 12, 3) := by decide +kernel
theorem dX6_undo_29 : decode cX6_undo 29 = .ok (.getfield 117, 3) := by decide +kernel
theorem dX6_undo_32 : decode cX6_undo 32 = .ok (.ireturn, 1) := by decide +kernel
theorem dX6_tear_0 : decode cX6_tear 0 = .ok (.aload_n 0, 1) := by decide +kernel
theorem dX6_tear_1 : decode cX6_tear 1 = .ok (.getfield 57, 3) := by decide +kernel
theorem dX6_tear_4 : decode cX6_tear 4 = .ok (.ifCond .eq 7, 3) := by decide +kernel
theorem dX6_tear_7 : decode cX6_tear 7 = .ok (.iconst 1, 1) := by decide +kernel
theorem dX6_tear_8 : decode cX6_tear 8 = .ok (.goto 4, 3) := by decide +kernel
theorem dX6_tear_11 : decode cX6_tear 11 = .ok (.iconst 0, 1) := by decide +kernel
theorem dX6_tear_12 : decode cX6_tear 12 = .ok (.istore_n 1, 1) := by decide +kernel
theorem dX6_tear_13 : decode cX6_tear 13 = .ok (.aload_n 0, 1) := by decide +kernel
theorem dX6_tear_14 : decode cX6_tear 14 = .ok (.iconst 0, 1) := by decide +kernel
theorem dX6_tear_15 : decode cX6_tear 15 = .ok (.putfield 57, 3) := by decide +kernel
theorem dX6_tear_18 : decode cX6_tear 18 = .ok (.iload_n 1, 1) := by decide +kernel
theorem dX6_tear_19 : decode cX6_tear 19 = .ok (.ireturn, 1) := by decide +kernel
theorem dX6_count_0 : decode cX6_count 0 = .ok (.iload_n 1, 1) := by decide +kernel
theorem dX6_count_1 : decode cX6_count 1 = .ok (.tableswitch 136 0 7 #[47, 55, 63, 81, 99, 112, 120, 128], 47) := by decide +kernel
theorem dX6_count_48 : decode cX6_count 48 = .ok (.aload_n 0, 1) := by decide +kernel
theorem dX6_count_49 : decode cX6_count 49 = .ok (.getfield 12, 3) := by decide +kernel
theorem dX6_count_52 : decode cX6_count 52 = .ok (.getfield 117, 3) := by decide +kernel
theorem dX6_count_55 : decode cX6_count 55 = .ok (.ireturn, 1) := by decide +kernel
theorem dX6_count_56 : decode cX6_count 56 = .ok (.aload_n 0, 1) := by decide +kernel
theorem dX6_count_57 : decode cX6_count 57 = .ok (.getfield 12, 3) := by decide +kernel
theorem dX6_count_60 : decode cX6_count 60 = .ok (.getfield 145, 3) := by decide +kernel
theorem dX6_count_63 : decode cX6_count 63 = .ok (.ireturn, 1) := by decide +kernel
theorem dX6_count_64 : decode cX6_count 64 = .ok (.aload_n 0, 1) := by decide +kernel
theorem dX6_count_65 : decode cX6_count 65 = .ok (.getfield 12, 3) := by decide +kernel
theorem dX6_count_68 : decode cX6_count 68 = .ok (.getfield 100, 3) := by decide +kernel
theorem dX6_count_71 : decode cX6_count 71 = .ok (.aload_n 0, 1) := by decide +kernel
theorem dX6_count_72 : decode cX6_count 72 = .ok (.getfield 12, 3) := by decide +kernel
theorem dX6_count_75 : decode cX6_count 75 = .ok (.getfield 145, 3) := by decide +kernel
theorem dX6_count_78 : decode cX6_count 78 = .ok (.invokestatic 137, 3) := by decide +kernel
theorem dX6_count_81 : decode cX6_count 81 = .ok (.ireturn, 1) := by decide +kernel
theorem dX6_count_82 : decode cX6_count 82 = .ok (.aload_n 0, 1) := by decide +kernel
theorem dX6_count_83 : decode cX6_count 83 = .ok (.getfield 12, 3) := by decide +kernel
theorem dX6_count_86 : decode cX6_count 86 = .ok (.getfield 94, 3) := by decide +kernel
theorem dX6_count_89 : decode cX6_count 89 = .ok (.aload_n 0, 1) := by decide +kernel
theorem dX6_count_90 : decode cX6_count 90 = .ok (.getfield 12, 3) := by decide +kernel
theorem dX6_count_93 : decode cX6_count 93 = .ok (.getfield 145, 3) := by decide +kernel
theorem dX6_count_96 : decode cX6_count 96 = .ok (.invokestatic 137, 3) := by decide +kernel
theorem dX6_count_99 : decode cX6_count 99 = .ok (.ireturn, 1) := by decide +kernel
theorem dX6_count_100 : decode cX6_count 100 = .ok (.aload_n 0, 1) := by decide +kernel
theorem dX6_count_101 : decode cX6_count 101 = .ok (.getfield 12, 3) := by decide +kernel
theorem dX6_count_104 : decode cX6_count 104 = .ok (.getfield 73, 3) := by decide +kernel
theorem dX6_count_107 : decode cX6_count 107 = .ok (.bipush 12, 2) := by decide +kernel
theorem dX6_count_109 : decode cX6_count 109 = .ok (.invokestatic 137, 3) := by decide +kernel
theorem dX6_count_112 : decode cX6_count 112 = .ok (.ireturn, 1) := by decide +kernel
theorem dX6_count_113 : decode cX6_count 113 = .ok (.aload_n 0, 1) := by decide +kernel
theorem dX6_count_114 : decode cX6_count 114 = .ok (.getfield 43, 3) := by decide +kernel
theorem dX6_count_117 : decode cX6_count 117 = .ok (.getfield 234, 3) := by decide +kernel
theorem dX6_count_120 : decode cX6_count 120 = .ok (.ireturn, 1) := by decide +kernel
theorem dX6_count_121 : decode cX6_count 121 = .ok (.aload_n 0, 1) := by decide +kernel
theorem dX6_count_122 : decode cX6_count 122 = .ok (.getfield 12, 3) := by decide +kernel
theorem dX6_count_125 : decode cX6_count 125 = .ok (.getfield 231, 3) := by decide +kernel
theorem dX6_count_128 : decode cX6_count 128 = .ok (.ireturn, 1) := by decide +kernel
theorem dX6_count_129 : decode cX6_count 129 = .ok (.aload_n 0, 1) := by decide +kernel
theorem dX6_count_130 : decode cX6_count 130 = .ok (.getfield 12, 3) := by decide +kernel
theorem dX6_count_133 : decode cX6_count 133 = .ok (.invokevirtual 290, 3) := by decide +kernel
theorem dX6_count_136 : decode cX6_count 136 = .ok (.ireturn, 1) := by decide +kernel
theorem dX6_count_137 : decode cX6_count 137 = .ok (.aload_n 0, 1) := by decide +kernel
theorem dX6_count_138 : decode cX6_count 138 = .ok (.ldc 68, 2) := by decide +kernel
theorem dX6_count_140 : decode cX6_count 140 = .ok (.invokevirtual 69, 3) := by decide +kernel
theorem dX6_count_143 : decode cX6_count 143 = .ok (.ireturn, 1) := by decide +kernel
theorem dX6_status_0 : decode cX6_status 0 = .ok (.iload_n 1, 1) := by decide +kernel
theorem dX6_status_1 : decode cX6_status 1 = .ok (.iconst (-1), 1) := by decide +kernel
theorem dX6_status_2 : decode cX6_status 2 = .ok (.if_icmp .ne 13, 3) := by decide +kernel
theorem dX6_status_5 : decode cX6_status 5 = .ok (.aload_n 0, 1) := by decide +kernel
theorem dX6_status_6 : decode cX6_status 6 = .ok (.getfield 54, 3) := by decide +kernel
theorem dX6_status_9 : decode cX6_status 9 = .ok (.bipush 7, 2) := by decide +kernel
theorem dX6_status_11 : decode cX6_status 11 = .ok (.invokestatic 137, 3) := by decide +kernel
theorem dX6_status_14 : decode cX6_status 14 = .ok (.ireturn, 1) := by decide +kernel
theorem dX6_status_15 : decode cX6_status 15 = .ok (.iload_n 1, 1) := by decide +kernel
theorem dX6_status_16 : decode cX6_status 16 = .ok (.ifCond .lt 18, 3) := by decide +kernel
theorem dX6_status_19 : decode cX6_status 19 = .ok (.iload_n 1, 1) := by decide +kernel
theorem dX6_status_20 : decode cX6_status 20 = .ok (.bipush 7, 2) := by decide +kernel
theorem dX6_status_22 : decode cX6_status 22 = .ok (.if_icmp .ge 12, 3) := by decide +kernel
theorem dX6_status_25 : decode cX6_status 25 = .ok (.aload_n 0, 1) := by decide +kernel
theorem dX6_status_26 : decode cX6_status 26 = .ok (.getfield 54, 3) := by decide +kernel
theorem dX6_status_29 : decode cX6_status 29 = .ok (.iload_n 1, 1) := by decide +kernel
theorem dX6_status_30 : decode cX6_status 30 = .ok (.iaload, 1) := by decide +kernel
theorem dX6_status_31 : decode cX6_status 31 = .ok (.goto 9, 3) := by decide +kernel
theorem dX6_status_34 : decode cX6_status 34 = .ok (.aload_n 0, 1) := by decide +kernel
theorem dX6_status_35 : decode cX6_status 35 = .ok (.ldc 68, 2) := by decide +kernel
theorem dX6_status_37 : decode cX6_status 37 = .ok (.invokevirtual 69, 3) := by decide +kernel
theorem dX6_status_40 : decode cX6_status 40 = .ok (.ireturn, 1) := by decide +kernel
theorem dX6_tell_0 : decode cX6_tell 0 = .ok (.ldc 68, 2) := by decide +kernel
theorem dX6_tell_2 : decode cX6_tell 2 = .ok (.iload_n 1, 1) := by decide +kernel
theorem dX6_tell_3 : decode cX6_tell 3 = .ok (.isub, 1) := by decide +kernel
theorem dX6_tell_4 : decode cX6_tell 4 = .ok (.istore_n 2, 1) := by decide +kernel
theorem dX6_tell_5 : decode cX6_tell 5 = .ok (.iload_n 2, 1) := by decide +kernel
theorem dX6_tell_6 : decode cX6_tell 6 = .ok (.ifCond .lt 19, 3) := by decide +kernel
theorem dX6_tell_9 : decode cX6_tell 9 = .ok (.iload_n 2, 1) := by decide +kernel
theorem dX6_tell_10 : decode cX6_tell 10 = .ok (.bipush 7, 2) := by decide +kernel
theorem dX6_tell_12 : decode cX6_tell 12 = .ok (.if_icmp .ge 13, 3) := by decide +kernel
theorem dX6_tell_15 : decode cX6_tell 15 = .ok (.aload_n 0, 1) := by decide +kernel
theorem dX6_tell_16 : decode cX6_tell 16 = .ok (.getfield 54, 3) := by decide +kernel
theorem dX6_tell_19 : decode cX6_tell 19 = .ok (.iload_n 2, 1) := by decide +kernel
theorem dX6_tell_20 : decode cX6_tell 20 = .ok (.dup2, 1) := by decide +kernel
theorem dX6_tell_21 : decode cX6_tell 21 = .ok (.iaload, 1) := by decide +kernel
theorem dX6_tell_22 : decode cX6_tell 22 = .ok (.iconst 1, 1) := by decide +kernel
theorem dX6_tell_23 : decode cX6_tell 23 = .ok (.iadd, 1) := by decide +kernel
theorem dX6_tell_24 : decode cX6_tell 24 = .ok (.iastore, 1) := by decide +kernel
theorem dX6_tell_25 : decode cX6_tell 25 = .ok (.iload_n 1, 1) := by decide +kernel
theorem dX6_tell_26 : decode cX6_tell 26 = .ok (.ireturn, 1) := by decide +kernel
theorem dX6_isPlank_0 : decode cX6_isPlank 0 = .ok (.iload_n 0, 1) := by decide +kernel
theorem dX6_isPlank_1 : decode cX6_isPlank 1 = .ok (.ifCond .lt 13, 3) := by decide +kernel
theorem dX6_isPlank_4 : decode cX6_isPlank 4 = .ok (.iload_n 0, 1) := by decide +kernel
theorem dX6_isPlank_5 : decode cX6_isPlank 5 = .ok (.bipush 12, 2) := by decide +kernel
theorem dX6_isPlank_7 : decode cX6_isPlank 7 = .ok (.if_icmp .ge 7, 3) := by decide +kernel
theorem dX6_isPlank_10 : decode cX6_isPlank 10 = .ok (.iconst 1, 1) := by decide +kernel
theorem dX6_isPlank_11 : decode cX6_isPlank 11 = .ok (.goto 4, 3) := by decide +kernel
theorem dX6_isPlank_14 : decode cX6_isPlank 14 = .ok (.iconst 0, 1) := by decide +kernel
theorem dX6_isPlank_15 : decode cX6_isPlank 15 = .ok (.ireturn, 1) := by decide +kernel
theorem dX6_isGait_0 : decode cX6_isGait 0 = .ok (.iload_n 0, 1) := by decide +kernel
theorem dX6_isGait_1 : decode cX6_isGait 1 = .ok (.ifCond .lt 13, 3) := by decide +kernel
theorem dX6_isGait_4 : decode cX6_isGait 4 = .ok (.iload_n 0, 1) := by decide +kernel
theorem dX6_isGait_5 : decode cX6_isGait 5 = .ok (.bipush 99, 2) := by decide +kernel
theorem dX6_isGait_7 : decode cX6_isGait 7 = .ok (.if_icmp .gt 7, 3) := by decide +kernel
theorem dX6_isGait_10 : decode cX6_isGait 10 = .ok (.iconst 1, 1) := by decide +kernel
theorem dX6_isGait_11 : decode cX6_isGait 11 = .ok (.goto 4, 3) := by decide +kernel
theorem dX6_isGait_14 : decode cX6_isGait 14 = .ok (.iconst 0, 1) := by decide +kernel
theorem dX6_isGait_15 : decode cX6_isGait 15 = .ok (.ireturn, 1) := by decide +kernel
theorem dX6_isKind_0 : decode cX6_isKind 0 = .ok (.iload_n 0, 1) := by decide +kernel
theorem dX6_isKind_1 : decode cX6_isKind 1 = .ok (.ifCond .lt 13, 3) := by decide +kernel
theorem dX6_isKind_4 : decode cX6_isKind 4 = .ok (.iload_n 0, 1) := by decide +kernel
theorem dX6_isKind_5 : decode cX6_isKind 5 = .ok (.bipush 6, 2) := by decide +kernel
theorem dX6_isKind_7 : decode cX6_isKind 7 = .ok (.if_icmp .gt 7, 3) := by decide +kernel
theorem dX6_isKind_10 : decode cX6_isKind 10 = .ok (.iconst 1, 1) := by decide +kernel
theorem dX6_isKind_11 : decode cX6_isKind 11 = .ok (.goto 4, 3) := by decide +kernel
theorem dX6_isKind_14 : decode cX6_isKind 14 = .ok (.iconst 0, 1) := by decide +kernel
theorem dX6_isKind_15 : decode cX6_isKind 15 = .ok (.ireturn, 1) := by decide +kernel
theorem dX6_isSpot_0 : decode cX6_isSpot 0 = .ok (.iload_n 0, 1) := by decide +kernel
theorem dX6_isSpot_1 : decode cX6_isSpot 1 = .ok (.ifCond .lt 13, 3) := by decide +kernel
theorem dX6_isSpot_4 : decode cX6_isSpot 4 = .ok (.iload_n 0, 1) := by decide +kernel
theorem dX6_isSpot_5 : decode cX6_isSpot 5 = .ok (.bipush 10, 2) := by decide +kernel
theorem dX6_isSpot_7 : decode cX6_isSpot 7 = .ok (.if_icmp .ge 7, 3) := by decide +kernel
theorem dX6_isSpot_10 : decode cX6_isSpot 10 = .ok (.iconst 1, 1) := by decide +kernel
theorem dX6_isSpot_11 : decode cX6_isSpot 11 = .ok (.goto 4, 3) := by decide +kernel
theorem dX6_isSpot_14 : decode cX6_isSpot 14 = .ok (.iconst 0, 1) := by decide +kernel
theorem dX6_isSpot_15 : decode cX6_isSpot 15 = .ok (.ireturn, 1) := by decide +kernel
theorem dX6_isSheet_0 : decode cX6_isSheet 0 = .ok (.iload_n 0, 1) := by decide +kernel
theorem dX6_isSheet_1 : decode cX6_isSheet 1 = .ok (.ifCond .lt 12, 3) := by decide +kernel
theorem dX6_isSheet_4 : decode cX6_isSheet 4 = .ok (.iload_n 0, 1) := by decide +kernel
theorem dX6_isSheet_5 : decode cX6_isSheet 5 = .ok (.iconst 4, 1) := by decide +kernel
theorem dX6_isSheet_6 : decode cX6_isSheet 6 = .ok (.if_icmp .ge 7, 3) := by decide +kernel
theorem dX6_isSheet_9 : decode cX6_isSheet 9 = .ok (.iconst 1, 1) := by decide +kernel
theorem dX6_isSheet_10 : decode cX6_isSheet 10 = .ok (.goto 4, 3) := by decide +kernel
theorem dX6_isSheet_13 : decode cX6_isSheet 13 = .ok (.iconst 0, 1) := by decide +kernel
theorem dX6_isSheet_14 : decode cX6_isSheet 14 = .ok (.ireturn, 1) := by decide +kernel
theorem dX6_isIn_0 : decode cX6_isIn 0 = .ok (.iload_n 0, 1) := by decide +kernel
theorem dX6_isIn_1 : decode cX6_isIn 1 = .ok (.iload_n 1, 1) := by decide +kernel
theorem dX6_isIn_2 : decode cX6_isIn 2 = .ok (.ishr, 1) := by decide +kernel
theorem dX6_isIn_3 : decode cX6_isIn 3 = .ok (.iconst 1, 1) := by decide +kernel
theorem dX6_isIn_4 : decode cX6_isIn 4 = .ok (.iand, 1) := by decide +kernel
theorem dX6_isIn_5 : decode cX6_isIn 5 = .ok (.ifCond .eq 7, 3) := by decide +kernel
theorem dX6_isIn_8 : decode cX6_isIn 8 = .ok (.iconst 1, 1) := by decide +kernel
theorem dX6_isIn_9 : decode cX6_isIn 9 = .ok (.goto 4, 3) := by decide +kernel
theorem dX6_isIn_12 : decode cX6_isIn 12 = .ok (.iconst 0, 1) := by decide +kernel
theorem dX6_isIn_13 : decode cX6_isIn 13 = .ok (.ireturn, 1) := by decide +kernel
theorem dX6_held_0 : decode cX6_held 0 = .ok (.iconst 0, 1) := by decide +kernel
theorem dX6_held_1 : decode cX6_held 1 = .ok (.bipush 99, 2) := by decide +kernel
theorem dX6_held_3 : decode cX6_held 3 = .ok (.iload_n 0, 1) := by decide +kernel
theorem dX6_held_4 : decode cX6_held 4 = .ok (.invokestatic 293, 3) := by decide +kernel
theorem dX6_held_7 : decode cX6_held 7 = .ok (.invokestatic 298, 3) := by decide +kernel
theorem dX6_held_10 : decode cX6_held 10 = .ok (.ireturn, 1) := by decide +kernel
theorem dX6_sum_0 : decode cX6_sum 0 = .ok (.iconst 0, 1) := by decide +kernel
theorem dX6_sum_1 : decode cX6_sum 1 = .ok (.istore_n 2, 1) := by decide +kernel
theorem dX6_sum_2 : decode cX6_sum 2 = .ok (.iconst 0, 1) := by decide +kernel
theorem dX6_sum_3 : decode cX6_sum 3 = .ok (.istore_n 3, 1) := by decide +kernel
theorem dX6_sum_4 : decode cX6_sum 4 = .ok (.iload_n 3, 1) := by decide +kernel
theorem dX6_sum_5 : decode cX6_sum 5 = .ok (.iload_n 1, 1) := by decide +kernel
theorem dX6_sum_6 : decode cX6_sum 6 = .ok (.if_icmp .ge 21, 3) := by decide +kernel
theorem dX6_sum_9 : decode cX6_sum 9 = .ok (.iload_n 3, 1) := by decide +kernel
theorem dX6_sum_10 : decode cX6_sum 10 = .ok (.aload_n 0, 1) := by decide +kernel
theorem dX6_sum_11 : decode cX6_sum 11 = .ok (.arraylength, 1) := by decide +kernel
theorem dX6_sum_12 : decode cX6_sum 12 = .ok (.if_icmp .ge 15, 3) := by decide +kernel
theorem dX6_sum_15 : decode cX6_sum 15 = .ok (.iload_n 2, 1) := by decide +kernel
theorem dX6_sum_16 : decode cX6_sum 16 = .ok (.aload_n 0, 1) := by decide +kernel
theorem dX6_sum_17 : decode cX6_sum 17 = .ok (.iload_n 3, 1) := by decide +kernel
theorem dX6_sum_18 : decode cX6_sum 18 = .ok (.iaload, 1) := by decide +kernel
theorem dX6_sum_19 : decode cX6_sum 19 = .ok (.iadd, 1) := by decide +kernel
theorem dX6_sum_20 : decode cX6_sum 20 = .ok (.istore_n 2, 1) := by decide +kernel
theorem dX6_sum_21 : decode cX6_sum 21 = .ok (.iinc 3 1, 3) := by decide +kernel
theorem dX6_sum_24 : decode cX6_sum 24 = .ok (.goto (-20), 3) := by decide +kernel
theorem dX6_sum_27 : decode cX6_sum 27 = .ok (.iload_n 2, 1) := by decide +kernel
theorem dX6_sum_28 : decode cX6_sum 28 = .ok (.ireturn, 1) := by decide +kernel
theorem dX6_replace_0 : decode cX6_replace 0 = .ok (.iload_n 1, 1) := by decide +kernel
theorem dX6_replace_1 : decode cX6_replace 1 = .ok (.ifCond .lt 9, 3) := by decide +kernel
theorem dX6_replace_4 : decode cX6_replace 4 = .ok (.iload_n 1, 1) := by decide +kernel
theorem dX6_replace_5 : decode cX6_replace 5 = .ok (.aload_n 0, 1) := by decide +kernel
theorem dX6_replace_6 : decode cX6_replace 6 = .ok (.arraylength, 1) := by decide +kernel
theorem dX6_replace_7 : decode cX6_replace 7 = .ok (.if_icmp .lt 5, 3) := by decide +kernel
theorem dX6_replace_10 : decode cX6_replace 10 = .ok (.iconst 0, 1) := by decide +kernel
theorem dX6_replace_11 : decode cX6_replace 11 = .ok (.ireturn, 1) := by decide +kernel
theorem dX6_replace_12 : decode cX6_replace 12 = .ok (.aload_n 0, 1) := by decide +kernel
theorem dX6_replace_13 : decode cX6_replace 13 = .ok (.iload_n 1, 1) := by decide +kernel
theorem dX6_replace_14 : decode cX6_replace 14 = .ok (.iaload, 1) := by decide +kernel
theorem dX6_replace_15 : decode cX6_replace 15 = .ok (.istore_n 3, 1) := by decide +kernel
theorem dX6_replace_16 : decode cX6_replace 16 = .ok (.aload_n 0, 1) := by decide +kernel
theorem dX6_replace_17 : decode cX6_replace 17 = .ok (.iload_n 1, 1) := by decide +kernel
theorem dX6_replace_18 : decode cX6_replace 18 = .ok (.iload_n 2, 1) := by decide +kernel
theorem dX6_replace_19 : decode cX6_replace 19 = .ok (.iastore, 1) := by decide +kernel
theorem dX6_replace_20 : decode cX6_replace 20 = .ok (.iload_n 3, 1) := by decide +kernel
theorem dX6_replace_21 : decode cX6_replace 21 = .ok (.ireturn, 1) := by decide +kernel
theorem dX6_reallyCross_0 : decode cX6_reallyCross 0 = .ok (.aload_n 0, 1) := by decide +kernel
theorem dX6_reallyCross_1 : decode cX6_reallyCross 1 = .ok (.getfield 12, 3) := by decide +kernel
theorem dX6_reallyCross_4 : decode cX6_reallyCross 4 = .ok (.iload_n 1, 1) := by decide +kernel
theorem dX6_reallyCross_5 : decode cX6_reallyCross 5 = .ok (.invokevirtual 88, 3) := by decide +kernel
theorem dX6_reallyCross_8 : decode cX6_reallyCross 8 = .ok (.ifCond .ne 6, 3) := by decide +kernel
theorem dX6_reallyCross_11 : decode cX6_reallyCross 11 = .ok (.bipush 12, 2) := by decide +kernel
theorem dX6_reallyCross_13 : decode cX6_reallyCross 13 = .ok (.ireturn, 1) := by decide +kernel
theorem dX6_reallyCross_14 : decode cX6_reallyCross 14 = .ok (.aload_n 0, 1) := by decide +kernel
theorem dX6_reallyCross_15 : decode cX6_reallyCross 15 = .ok (.getfield 25, 3) := by decide +kernel
theorem dX6_reallyCross_18 : decode cX6_reallyCross 18 = .ok (.aload_n 0, 1) := by decide +kernel
theorem dX6_reallyCross_19 : decode cX6_reallyCross 19 = .ok (.getfield 12, 3) := by decide +kernel
theorem dX6_reallyCross_22 : decode cX6_reallyCross 22 = .ok (.iload_n 1, 1) := by decide +kernel
theorem dX6_reallyCross_23 : decode cX6_reallyCross 23 = .ok (.invokevirtual 157, 3) := by decide +kernel
theorem dX6_reallyCross_26 : decode cX6_reallyCross 26 = .ok (.aload_n 0, 1) := by decide +kernel
theorem dX6_reallyCross_27 : decode cX6_reallyCross 27 = .ok (.getfield 25, 3) := by decide +kernel
theorem dX6_reallyCross_30 : decode cX6_reallyCross 30 = .ok (.aload_n 0, 1) := by decide +kernel
theorem dX6_reallyCross_31 : decode cX6_reallyCross 31 = .ok (.getfield 12, 3) := by decide +kernel
theorem dX6_reallyCross_34 : decode cX6_reallyCross 34 = .ok (.getfield 73, 3) := by decide +kernel
theorem dX6_reallyCross_37 : decode cX6_reallyCross 37 = .ok (.invokevirtual 161, 3) := by decide +kernel
theorem dX6_reallyCross_40 : decode cX6_reallyCross 40 = .ok (.istore_n 2, 1) := by decide +kernel
theorem dX6_reallyCross_41 : decode cX6_reallyCross 41 = .ok (.aload_n 0, 1) := by decide +kernel
theorem dX6_reallyCross_42 : decode cX6_reallyCross 42 = .ok (.getfield 12, 3) := by decide +kernel
theorem dX6_reallyCross_45 : decode cX6_reallyCross 45 = .ok (.getfield 94, 3) := by decide +kernel
theorem dX6_reallyCross_48 : decode cX6_reallyCross 48 = .ok (.iload_n 1, 1) := by decide +kernel
theorem dX6_reallyCross_49 : decode cX6_reallyCross 49 = .ok (.aload_n 0, 1) := by decide +kernel
theorem dX6_reallyCross_50 : decode cX6_reallyCross 50 = .ok (.getfield 25, 3) := by decide +kernel
theorem dX6_reallyCross_53 : decode cX6_reallyCross 53 = .ok (.getfield 151, 3) := by decide +kernel
theorem dX6_reallyCross_56 : decode cX6_reallyCross 56 = .ok (.iastore, 1) := by decide +kernel
theorem dX6_reallyCross_57 : decode cX6_reallyCross 57 = .ok (.iload_n 2, 1) := by decide +kernel
theorem dX6_reallyCross_58 : decode cX6_reallyCross 58 = .ok (.bipush 12, 2) := by decide +kernel
theorem dX6_reallyCross_60 : decode cX6_reallyCross 60 = .ok (.if_icmp .ge 29, 3) := by decide +kernel
theorem dX6_reallyCross_63 : decode cX6_reallyCross 63 = .ok (.aload_n 0, 1) := by decide +kernel
theorem dX6_reallyCross_64 : decode cX6_reallyCross 64 = .ok (.getfield 12, 3) := by decide +kernel
theorem dX6_reallyCross_67 : decode cX6_reallyCross 67 = .ok (.getfield 100, 3) := by decide +kernel
theorem dX6_reallyCross_70 : decode cX6_reallyCross 70 = .ok (.iload_n 1, 1) := by decide +kernel
theorem dX6_reallyCross_71 : decode cX6_reallyCross 71 = .ok (.sipush 9999, 3) := by decide +kernel
theorem dX6_reallyCross_74 : decode cX6_reallyCross 74 = .ok (.aload_n 0, 1) := by decide +kernel
theorem dX6_reallyCross_75 : decode cX6_reallyCross 75 = .ok (.getfield 12, 3) := by decide +kernel
theorem dX6_reallyCross_78 : decode cX6_reallyCross 78 = .ok (.getfield 100, 3) := by decide +kernel
theorem dX6_reallyCross_81 : decode cX6_reallyCross 81 = .ok (.iload_n 1, 1) := by decide +kernel
theorem dX6_reallyCross_82 : decode cX6_reallyCross 82 = .ok (.iaload, 1) := by decide +kernel
theorem dX6_reallyCross_83 : decode cX6_reallyCross 83 = .ok (.iconst 1, 1) := by decide +kernel
theorem dX6_reallyCross_84 : decode cX6_reallyCross 84 = .ok (.iadd, 1) := by decide +kernel
theorem dX6_reallyCross_85 : decode cX6_reallyCross 85 = .ok (.invokestatic 293, 3) := by decide +kernel
theorem dX6_reallyCross_88 : decode cX6_reallyCross 88 = .ok (.iastore, 1) := by decide +kernel
theorem dX6_reallyCross_89 : decode cX6_reallyCross 89 = .ok (.aload_n 0, 1) := by decide +kernel
theorem dX6_reallyCross_90 : decode cX6_reallyCross 90 = .ok (.getfield 12, 3) := by decide +kernel
theorem dX6_reallyCross_93 : decode cX6_reallyCross 93 = .ok (.dup, 1) := by decide +kernel
theorem dX6_reallyCross_94 : decode cX6_reallyCross 94 = .ok (.getfield 117, 3) := by decide +kernel
theorem dX6_reallyCross_97 : decode cX6_reallyCross 97 = .ok (.iconst 1, 1) := by decide +kernel
theorem dX6_reallyCross_98 : decode cX6_reallyCross 98 = .ok (.iadd, 1) := by decide +kernel
theorem dX6_reallyCross_99 : decode cX6_reallyCross 99 = .ok (.putfield 117, 3) := by decide +kernel
theorem dX6_reallyCross_102 : decode cX6_reallyCross 102 = .ok (.iload_n 2, 1) := by decide +kernel
theorem dX6_reallyCross_103 : decode cX6_reallyCross 103 = .ok (.ireturn, 1) := by decide +kernel
theorem dX6_fallers_0 : decode cX6_fallers 0 = .ok (.iconst 0, 1) := by decide +kernel
theorem dX6_fallers_1 : decode cX6_fallers 1 = .ok (.istore_n 1, 1) := by decide +kernel
theorem dX6_fallers_2 : decode cX6_fallers 2 = .ok (.iconst 0, 1) := by decide +kernel
theorem dX6_fallers_3 : decode cX6_fallers 3 = .ok (.istore_n 2, 1) := by decide +kernel
theorem dX6_fallers_4 : decode cX6_fallers 4 = .ok (.iload_n 2, 1) := by decide +kernel
theorem dX6_fallers_5 : decode cX6_fallers 5 = .ok (.aload_n 0, 1) := by decide +kernel
theorem dX6_fallers_6 : decode cX6_fallers 6 = .ok (.getfield 12, 3) := by decide +kernel
theorem dX6_fallers_9 : decode cX6_fallers 9 = .ok (.getfield 145, 3) := by decide +kernel
theorem dX6_fallers_12 : decode cX6_fallers 12 = .ok (.if_icmp .ge 25, 3) := by decide +kernel
theorem dX6_fallers_15 : decode cX6_fallers 15 = .ok (.aload_n 0, 1) := by decide +kernel
theorem dX6_fallers_16 : decode cX6_fallers 16 = .ok (.iload_n 2, 1) := by decide +kernel
theorem dX6_fallers_17 : decode cX6_fallers 17 = .ok (.invokevirtual 148, 3) := by decide +kernel
theorem dX6_fallers_20 : decode cX6_fallers 20 = .ok (.bipush 12, 2) := by decide +kernel
theorem dX6_fallers_22 : decode cX6_fallers 22 = .ok (.if_icmp .ge 9, 3) := by decide +kernel
theorem dX6_fallers_25 : decode cX6_fallers 25 = .ok (.iload_n 1, 1) := by decide +kernel
theorem dX6_fallers_26 : decode cX6_fallers 26 = .ok (.iconst 1, 1) := by decide +kernel
theorem dX6_fallers_27 : decode cX6_fallers 27 = .ok (.iload_n 2, 1) := by decide +kernel
theorem dX6_fallers_28 : decode cX6_fallers 28 = .ok (.ishl, 1) := by decide +kernel
theorem dX6_fallers_29 : decode cX6_fallers 29 = .ok (.ior, 1) := by decide +kernel
theorem dX6_fallers_30 : decode cX6_fallers 30 = .ok (.istore_n 1, 1) := by decide +kernel
theorem dX6_fallers_31 : decode cX6_fallers 31 = .ok (.iinc 2 1, 3) := by decide +kernel
theorem dX6_fallers_34 : decode cX6_fallers 34 = .ok (.goto (-30), 3) := by decide +kernel
theorem dX6_fallers_37 : decode cX6_fallers 37 = .ok (.iload_n 1, 1) := by decide +kernel
theorem dX6_fallers_38 : decode cX6_fallers 38 = .ok (.ireturn, 1) := by decide +kernel
theorem dX6_prepare_0 : decode cX6_prepare 0 = .ok (.aload_n 0, 1) := by decide +kernel
theorem dX6_prepare_1 : decode cX6_prepare 1 = .ok (.getfield 25, 3) := by decide +kernel
theorem dX6_prepare_4 : decode cX6_prepare 4 = .ok (.aload_n 0, 1) := by decide +kernel
theorem dX6_prepare_5 : decode cX6_prepare 5 = .ok (.getfield 12, 3) := by decide +kernel
theorem dX6_prepare_8 : decode cX6_prepare 8 = .ok (.iload_n 1, 1) := by decide +kernel
theorem dX6_prepare_9 : decode cX6_prepare 9 = .ok (.invokevirtual 157, 3) := by decide +kernel
theorem dX6_prepare_12 : decode cX6_prepare 12 = .ok (.aload_n 0, 1) := by decide +kernel
theorem dX6_prepare_13 : decode cX6_prepare 13 = .ok (.getfield 25, 3) := by decide +kernel
theorem dX6_prepare_16 : decode cX6_prepare 16 = .ok (.aload_n 0, 1) := by decide +kernel
theorem dX6_prepare_17 : decode cX6_prepare 17 = .ok (.getfield 12, 3) := by decide +kernel
theorem dX6_prepare_20 : decode cX6_prepare 20 = .ok (.getfield 73, 3) := by decide +kernel
theorem dX6_prepare_23 : decode cX6_prepare 23 = .ok (.invokevirtual 286, 3) := by decide +kernel
theorem dX6_prepare_26 : decode cX6_prepare 26 = .ok (.return_, 1) := by decide +kernel
theorem dX6_tryWalk_0 : decode cX6_tryWalk 0 = .ok (.aload_n 0, 1) := by decide +kernel
theorem dX6_tryWalk_1 : decode cX6_tryWalk 1 = .ok (.iload_n 1, 1) := by decide +kernel
theorem dX6_tryWalk_2 : decode cX6_tryWalk 2 = .ok (.invokevirtual 165, 3) := by decide +kernel
theorem dX6_tryWalk_5 : decode cX6_tryWalk 5 = .ok (.aload_n 0, 1) := by decide +kernel
theorem dX6_tryWalk_6 : decode cX6_tryWalk 6 = .ok (.getfield 25, 3) := by decide +kernel
theorem dX6_tryWalk_9 : decode cX6_tryWalk 9 = .ok (.aload_n 0, 1) := by decide +kernel
theorem dX6_tryWalk_10 : decode cX6_tryWalk 10 = .ok (.getfield 25, 3) := by decide +kernel
theorem dX6_tryWalk_13 : decode cX6_tryWalk 13 = .ok (.getfield 154, 3) := by decide +kernel
theorem dX6_tryWalk_16 : decode cX6_tryWalk 16 = .ok (.invokevirtual 161, 3) := by decide +kernel
theorem dX6_tryWalk_19 : decode cX6_tryWalk 19 = .ok (.ireturn, 1) := by decide +kernel
theorem dX6_tryGait_0 : decode cX6_tryGait 0 = .ok (.aload_n 0, 1) := by decide +kernel
theorem dX6_tryGait_1 : decode cX6_tryGait 1 = .ok (.iload_n 1, 1) := by decide +kernel
theorem dX6_tryGait_2 : decode cX6_tryGait 2 = .ok (.invokevirtual 165, 3) := by decide +kernel
theorem dX6_tryGait_5 : decode cX6_tryGait 5 = .ok (.aload_n 0, 1) := by decide +kernel
theorem dX6_tryGait_6 : decode cX6_tryGait 6 = .ok (.getfield 25, 3) := by decide +kernel
theorem dX6_tryGait_9 : decode cX6_tryGait 9 = .ok (.iload_n 2, 1) := by decide +kernel
theorem dX6_tryGait_10 : decode cX6_tryGait 10 = .ok (.putfield 151, 3) := by decide +kernel
theorem dX6_tryGait_13 : decode cX6_tryGait 13 = .ok (.aload_n 0, 1) := by decide +kernel
theorem dX6_tryGait_14 : decode cX6_tryGait 14 = .ok (.getfield 25, 3) := by decide +kernel
theorem dX6_tryGait_17 : decode cX6_tryGait 17 = .ok (.aload_n 0, 1) := by decide +kernel
theorem dX6_tryGait_18 : decode cX6_tryGait 18 = .ok (.getfield 25, 3) := by decide +kernel
theorem dX6_tryGait_21 : decode cX6_tryGait 21 = .ok (.getfield 154, 3) := by decide +kernel
theorem dX6_tryGait_24 : decode cX6_tryGait 24 = .ok (.invokevirtual 161, 3) := by decide +kernel
theorem dX6_tryGait_27 : decode cX6_tryGait 27 = .ok (.ireturn, 1) := by decide +kernel
theorem dX6_crossesLaid_0 : decode cX6_crossesLaid 0 = .ok (.aload_n 0, 1) := by decide +kernel
theorem dX6_crossesLaid_1 : decode cX6_crossesLaid 1 = .ok (.iload_n 1, 1) := by decide +kernel
theorem dX6_crossesLaid_2 : decode cX6_crossesLaid 2 = .ok (.invokevirtual 165, 3) := by decide +kernel
theorem dX6_crossesLaid_5 : decode cX6_crossesLaid 5 = .ok (.iconst 0, 1) := by decide +kernel
theorem dX6_crossesLaid_6 : decode cX6_crossesLaid 6 = .ok (.istore_n 3, 1) := by decide +kernel
theorem dX6_crossesLaid_7 : decode cX6_crossesLaid 7 = .ok (.iload_n 3, 1) := by decide +kernel
theorem dX6_crossesLaid_8 : decode cX6_crossesLaid 8 = .ok (.bipush 12, 2) := by decide +kernel
theorem dX6_crossesLaid_10 : decode cX6_crossesLaid 10 = .ok (.if_icmp .ge 28, 3) := by decide +kernel
theorem dX6_crossesLaid_13 : decode cX6_crossesLaid 13 = .ok (.iload_n 2, 1) := by decide +kernel
theorem dX6_crossesLaid_14 : decode cX6_crossesLaid 14 = .ok (.iload_n 3, 1) := by decide +kernel
theorem dX6_crossesLaid_15 : decode cX6_crossesLaid 15 = .ok (.invokestatic 133, 3) := by decide +kernel
theorem dX6_crossesLaid_18 : decode cX6_crossesLaid 18 = .ok (.ifCond .eq 14, 3) := by decide +kernel
theorem dX6_crossesLaid_21 : decode cX6_crossesLaid 21 = .ok (.aload_n 0, 1) := by decide +kernel
theorem dX6_crossesLaid_22 : decode cX6_crossesLaid 22 = .ok (.getfield 25, 3) := by decide +kernel
theorem dX6_crossesLaid_25 : decode cX6_crossesLaid 25 = .ok (.getfield 154, 3) := by decide +kernel
theorem dX6_crossesLaid_28 : decode cX6_crossesLaid 28 = .ok (.iload_n 3, 1) := by decide +kernel
theorem dX6_crossesLaid_29 : decode cX6_crossesLaid 29 = .ok (.bipush 50, 2) := by decide +kernel
theorem dX6_crossesLaid_31 : decode cX6_crossesLaid 31 = .ok (.iastore, 1) := by decide +kernel
theorem dX6_crossesLaid_32 : decode cX6_crossesLaid 32 = .ok (.iinc 3 1, 3) := by decide +kernel
theorem dX6_crossesLaid_35 : decode cX6_crossesLaid 35 = .ok (.goto (-28), 3) := by decide +kernel
theorem dX6_crossesLaid_38 : decode cX6_crossesLaid 38 = .ok (.aload_n 0, 1) := by decide +kernel
theorem dX6_crossesLaid_39 : decode cX6_crossesLaid 39 = .ok (.getfield 25, 3) := by decide +kernel
theorem dX6_crossesLaid_42 : decode cX6_crossesLaid 42 = .ok (.aload_n 0, 1) := by decide +kernel
theorem dX6_crossesLaid_43 : decode cX6_crossesLaid 43 = .ok (.getfield 25, 3) := by decide +kernel
theorem dX6_crossesLaid_46 : decode cX6_crossesLaid 46 = .ok (.getfield 154, 3) := by decide +kernel
theorem dX6_crossesLaid_49 : decode cX6_crossesLaid 49 = .ok (.invokevirtual 161, 3) := by decide +kernel
theorem dX6_crossesLaid_52 : decode cX6_crossesLaid 52 = .ok (.bipush 12, 2) := by decide +kernel
theorem dX6_crossesLaid_54 : decode cX6_crossesLaid 54 = .ok (.if_icmp .ne 7, 3) := by decide +kernel
theorem dX6_crossesLaid_57 : decode cX6_crossesLaid 57 = .ok (.iconst 1, 1) := by decide +kernel
theorem dX6_crossesLaid_58 : decode cX6_crossesLaid 58 = .ok (.goto 4, 3) := by decide +kernel
theorem dX6_crossesLaid_61 : decode cX6_crossesLaid 61 = .ok (.iconst 0, 1) := by decide +kernel
theorem dX6_crossesLaid_62 : decode cX6_crossesLaid 62 = .ok (.ireturn, 1) := by decide +kernel
theorem dX6_layMore_0 : decode cX6_layMore 0 = .ok (.iload 4, 2) := by decide +kernel
theorem dX6_layMore_2 : decode cX6_layMore 2 = .ok (.ifCond .gt 18, 3) := by decide +kernel
theorem dX6_layMore_5 : decode cX6_layMore 5 = .ok (.aload_n 0, 1) := by decide +kernel
theorem dX6_layMore_6 : decode cX6_layMore 6 = .ok (.iload_n 1, 1) := by decide +kernel
theorem dX6_layMore_7 : decode cX6_layMore 7 = .ok (.iload_n 2, 1) := by decide +kernel
theorem dX6_layMore_8 : decode cX6_layMore 8 = .ok (.invokevirtual 202, 3) := by decide +kernel
theorem dX6_layMore_11 : decode cX6_layMore 11 = .ok (.ifCond .eq 7, 3) := by decide +kernel
theorem dX6_layMore_14 : decode cX6_layMore 14 = .ok (.iload_n 2, 1) := by decide +kernel
theorem dX6_layMore_15 : decode cX6_layMore 15 = .ok (.goto 4, 3) := by decide +kernel
theorem dX6_layMore_18 : decode cX6_layMore 18 = .ok (.iconst (-1), 1) := by decide +kernel
theorem dX6_layMore_19 : decode cX6_layMore 19 = .ok (.ireturn, 1) := by decide +kernel
theorem dX6_layMore_20 : decode cX6_layMore 20 = .ok (.iconst 0, 1) := by decide +kernel
theorem dX6_layMore_21 : decode cX6_layMore 21 = .ok (.istore 5, 2) := by decide +kernel
theorem dX6_layMore_23 : decode cX6_layMore 23 = .ok (.iload 5, 2) := by decide +kernel
theorem dX6_layMore_25 : decode cX6_layMore 25 = .ok (.iload_n 3, 1) := by decide +kernel
theorem dX6_layMore_26 : decode cX6_layMore 26 = .ok (.if_icmp .ge 36, 3) := by decide +kernel
theorem dX6_layMore_29 : decode cX6_layMore 29 = .ok (.aload_n 0, 1) := by decide +kernel
theorem dX6_layMore_30 : decode cX6_layMore 30 = .ok (.iload_n 1, 1) := by decide +kernel
theorem dX6_layMore_31 : decode cX6_layMore 31 = .ok (.iload_n 2, 1) := by decide +kernel
theorem dX6_layMore_32 : decode cX6_layMore 32 = .ok (.iconst 1, 1) := by decide +kernel
theorem dX6_layMore_33 : decode cX6_layMore 33 = .ok (.iload 5, 2) := by decide +kernel
theorem dX6_layMore_35 : decode cX6_layMore 35 = .ok (.ishl, 1) := by decide +kernel
theorem dX6_layMore_36 : decode cX6_layMore 36 = .ok (.ior, 1) := by decide +kernel
theorem dX6_layMore_37 : decode cX6_layMore 37 = .ok (.iload 5, 2) := by decide +kernel
theorem dX6_layMore_39 : decode cX6_layMore 39 = .ok (.iload 4, 2) := by decide +kernel
theorem dX6_layMore_41 : decode cX6_layMore 41 = .ok (.iconst 1, 1) := by decide +kernel
theorem dX6_layMore_42 : decode cX6_layMore 42 = .ok (.isub, 1) := by decide +kernel
theorem dX6_layMore_43 : decode cX6_layMore 43 = .ok (.invokevirtual 198, 3) := by decide +kernel
theorem dX6_layMore_46 : decode cX6_layMore 46 = .ok (.istore 6, 2) := by decide +kernel
theorem dX6_layMore_48 : decode cX6_layMore 48 = .ok (.iload 6, 2) := by decide +kernel
theorem dX6_layMore_50 : decode cX6_layMore 50 = .ok (.ifCond .lt 6, 3) := by decide +kernel
theorem dX6_layMore_53 : decode cX6_layMore 53 = .ok (.iload 6, 2) := by decide +kernel
theorem dX6_layMore_55 : decode cX6_layMore 55 = .ok (.ireturn, 1) := by decide +kernel
theorem dX6_layMore_56 : decode cX6_layMore 56 = .ok (.iinc 5 1, 3) := by decide +kernel
theorem dX6_layMore_59 : decode cX6_layMore 59 = .ok (.goto (-36), 3) := by decide +kernel
theorem dX6_layMore_62 : decode cX6_layMore 62 = .ok (.iconst (-1), 1) := by decide +kernel
theorem dX6_layMore_63 : decode cX6_layMore 63 = .ok (.ireturn, 1) := by decide +kernel
theorem dX6_difference_0 : decode cX6_difference 0 = .ok (.aload_n 0, 1) := by decide +kernel
theorem dX6_difference_1 : decode cX6_difference 1 = .ok (.iload_n 1, 1) := by decide +kernel
theorem dX6_difference_2 : decode cX6_difference 2 = .ok (.invokevirtual 148, 3) := by decide +kernel
theorem dX6_difference_5 : decode cX6_difference 5 = .ok (.pop, 1) := by decide +kernel
theorem dX6_difference_6 : decode cX6_difference 6 = .ok (.aload_n 0, 1) := by decide +kernel
theorem dX6_difference_7 : decode cX6_difference 7 = .ok (.getfield 25, 3) := by decide +kernel
theorem dX6_difference_10 : decode cX6_difference 10 = .ok (.getfield 154, 3) := by decide +kernel
theorem dX6_difference_13 : decode cX6_difference 13 = .ok (.iconst 0, 1) := by decide +kernel
theorem dX6_difference_14 : decode cX6_difference 14 = .ok (.aload_n 0, 1) := by decide +kernel
theorem dX6_difference_15 : decode cX6_difference 15 = .ok (.getfield 29, 3) := by decide +kernel
theorem dX6_difference_18 : decode cX6_difference 18 = .ok (.iconst 0, 1) := by decide +kernel
theorem dX6_difference_19 : decode cX6_difference 19 = .ok (.bipush 12, 2) := by decide +kernel
theorem dX6_difference_21 : decode cX6_difference 21 = .ok (.invokestatic 280, 3) := by decide +kernel
theorem dX6_difference_24 : decode cX6_difference 24 = .ok (.aload_n 0, 1) := by decide +kernel
theorem dX6_difference_25 : decode cX6_difference 25 = .ok (.iload_n 2, 1) := by decide +kernel
theorem dX6_difference_26 : decode cX6_difference 26 = .ok (.invokevirtual 148, 3) := by decide +kernel
theorem dX6_difference_29 : decode cX6_difference 29 = .ok (.pop, 1) := by decide +kernel
theorem dX6_difference_30 : decode cX6_difference 30 = .ok (.iconst 0, 1) := by decide +kernel
theorem dX6_difference_31 : decode cX6_difference 31 = .ok (.istore_n 3, 1) := by decide +kernel
theorem dX6_difference_32 : decode cX6_difference 32 = .ok (.iconst 0, 1) := by decide +kernel
theorem dX6_difference_33 : decode cX6_difference 33 = .ok (.istore 4, 2) := by decide +kernel
theorem dX6_difference_35 : decode cX6_difference 35 = .ok (.iload 4, 2) := by decide +kernel
theorem dX6_difference_37 : decode cX6_difference 37 = .ok (.bipush 12, 2) := by decide +kernel
theorem dX6_difference_39 : decode cX6_difference 39 = .ok (.if_icmp .ge 33, 3) := by decide +kernel
theorem dX6_difference_42 : decode cX6_difference 42 = .ok (.iload_n 3, 1) := by decide +kernel
theorem dX6_difference_43 : decode cX6_difference 43 = .ok (.aload_n 0, 1) := by decide +kernel
theorem dX6_difference_44 : decode cX6_difference 44 = .ok (.getfield 25, 3) := by decide +kernel
theorem dX6_difference_47 : decode cX6_difference 47 = .ok (.getfield 154, 3) := by decide +kernel
theorem dX6_difference_50 : decode cX6_difference 50 = .ok (.iload 4, 2) := by decide +kernel
theorem dX6_difference_52 : decode cX6_difference 52 = .ok (.iaload, 1) := by decide +kernel
theorem dX6_difference_53 : decode cX6_difference 53 = .ok (.aload_n 0, 1) := by decide +kernel
theorem dX6_difference_54 : decode cX6_difference 54 = .ok (.getfield 29, 3) := by decide +kernel
theorem dX6_difference_57 : decode cX6_difference 57 = .ok (.iload 4, 2) := by decide +kernel
theorem dX6_difference_59 : decode cX6_difference 59 = .ok (.iaload, 1) := by decide +kernel
theorem dX6_difference_60 : decode cX6_difference 60 = .ok (.isub, 1) := by decide +kernel
theorem dX6_difference_61 : decode cX6_difference 61 = .ok (.invokestatic 301, 3) := by decide +kernel
theorem dX6_difference_64 : decode cX6_difference 64 = .ok (.iadd, 1) := by decide +kernel
theorem dX6_difference_65 : decode cX6_difference 65 = .ok (.istore_n 3, 1) := by decide +kernel
theorem dX6_difference_66 : decode cX6_difference 66 = .ok (.iinc 4 1, 3) := by decide +kernel
theorem dX6_difference_69 : decode cX6_difference 69 = .ok (.goto (-34), 3) := by decide +kernel
theorem dX6_difference_72 : decode cX6_difference 72 = .ok (.iload_n 3, 1) := by decide +kernel
theorem dX6_difference_73 : decode cX6_difference 73 = .ok (.ireturn, 1) := by decide +kernel
theorem dX6_swayFinding_0 : decode cX6_swayFinding 0 = .ok (.aload_n 0, 1) := by decide +kernel
theorem dX6_swayFinding_1 : decode cX6_swayFinding 1 = .ok (.getfield 50, 3) := by decide +kernel
theorem dX6_swayFinding_4 : decode cX6_swayFinding 4 = .ok (.iload_n 1, 1) := by decide +kernel
theorem dX6_swayFinding_5 : decode cX6_swayFinding 5 = .ok (.invokevirtual 215, 3) := by decide +kernel
theorem dX6_swayFinding_8 : decode cX6_swayFinding 8 = .ok (.istore_n 3, 1) := by decide +kernel
theorem dX6_swayFinding_9 : decode cX6_swayFinding 9 = .ok (.iload_n 3, 1) := by decide +kernel
theorem dX6_swayFinding_10 : decode cX6_swayFinding 10 = .ok (.ifCond .eq 5, 3) := by decide +kernel
theorem dX6_swayFinding_13 : decode cX6_swayFinding 13 = .ok (.iload_n 3, 1) := by decide +kernel
theorem dX6_swayFinding_14 : decode cX6_swayFinding 14 = .ok (.ireturn, 1) := by decide +kernel
theorem dX6_swayFinding_15 : decode cX6_swayFinding 15 = .ok (.aload_n 0, 1) := by decide +kernel
theorem dX6_swayFinding_16 : decode cX6_swayFinding 16 = .ok (.getfield 12, 3) := by decide +kernel
theorem dX6_swayFinding_19 : decode cX6_swayFinding 19 = .ok (.iload_n 2, 1) := by decide +kernel
theorem dX6_swayFinding_20 : decode cX6_swayFinding 20 = .ok (.invokevirtual 88, 3) := by decide +kernel
theorem dX6_swayFinding_23 : decode cX6_swayFinding 23 = .ok (.ifCond .ne 6, 3) := by decide +kernel
theorem dX6_swayFinding_26 : decode cX6_swayFinding 26 = .ok (.ldc 68, 2) := by decide +kernel
theorem dX6_swayFinding_28 : decode cX6_swayFinding 28 = .ok (.ireturn, 1) := by decide +kernel
theorem dX6_swayFinding_29 : decode cX6_swayFinding 29 = .ok (.aload_n 0, 1) := by decide +kernel
theorem dX6_swayFinding_30 : decode cX6_swayFinding 30 = .ok (.getfield 50, 3) := by decide +kernel
theorem dX6_swayFinding_33 : decode cX6_swayFinding 33 = .ok (.getfield 218, 3) := by decide +kernel
theorem dX6_swayFinding_36 : decode cX6_swayFinding 36 = .ok (.iload_n 1, 1) := by decide +kernel
theorem dX6_swayFinding_37 : decode cX6_swayFinding 37 = .ok (.iaload, 1) := by decide +kernel
theorem dX6_swayFinding_38 : decode cX6_swayFinding 38 = .ok (.bipush 12, 2) := by decide +kernel
theorem dX6_swayFinding_40 : decode cX6_swayFinding 40 = .ok (.if_icmp .le 8, 3) := by decide +kernel
theorem dX6_swayFinding_43 : decode cX6_swayFinding 43 = .ok (.ldc 121, 2) := by decide +kernel
theorem dX6_swayFinding_45 : decode cX6_swayFinding 45 = .ok (.goto 4, 3) := by decide +kernel
theorem dX6_swayFinding_48 : decode cX6_swayFinding 48 = .ok (.iconst 0, 1) := by decide +kernel
theorem dX6_swayFinding_49 : decode cX6_swayFinding 49 = .ok (.ireturn, 1) := by decide +kernel
theorem dX6_commonDivisor_0 : decode cX6_commonDivisor 0 = .ok (.iload_n 0, 1) := by decide +kernel
theorem dX6_commonDivisor_1 : decode cX6_commonDivisor 1 = .ok (.istore_n 2, 1) := by decide +kernel
theorem dX6_commonDivisor_2 : decode cX6_commonDivisor 2 = .ok (.iload_n 1, 1) := by decide +kernel
theorem dX6_commonDivisor_3 : decode cX6_commonDivisor 3 = .ok (.istore_n 3, 1) := by decide +kernel
theorem dX6_commonDivisor_4 : decode cX6_commonDivisor 4 = .ok (.iconst 0, 1) := by decide +kernel
theorem dX6_commonDivisor_5 : decode cX6_commonDivisor 5 = .ok (.istore 4, 2) := by decide +kernel
theorem dX6_commonDivisor_7 : decode cX6_commonDivisor 7 = .ok (.iload 4, 2) := by decide +kernel
theorem dX6_commonDivisor_9 : decode cX6_commonDivisor 9 = .ok (.bipush 12, 2) := by decide +kernel
theorem dX6_commonDivisor_11 : decode cX6_commonDivisor 11 = .ok (.if_icmp .ge 23, 3) := by decide +kernel
theorem dX6_commonDivisor_14 : decode cX6_commonDivisor 14 = .ok (.iload_n 3, 1) := by decide +kernel
theorem dX6_commonDivisor_15 : decode cX6_commonDivisor 15 = .ok (.ifCond .le 19, 3) := by decide +kernel
theorem dX6_commonDivisor_18 : decode cX6_commonDivisor 18 = .ok (.iload_n 2, 1) := by decide +kernel
theorem dX6_commonDivisor_19 : decode cX6_commonDivisor 19 = .ok (.iload_n 3, 1) := by decide +kernel
theorem dX6_commonDivisor_20 : decode cX6_commonDivisor 20 = .ok (.irem, 1) := by decide +kernel
theorem dX6_commonDivisor_21 : decode cX6_commonDivisor 21 = .ok (.istore 5, 2) := by decide +kernel
theorem dX6_commonDivisor_23 : decode cX6_commonDivisor 23 = .ok (.iload_n 3, 1) := by decide +kernel
theorem dX6_commonDivisor_24 : decode cX6_commonDivisor 24 = .ok (.istore_n 2, 1) := by decide +kernel
theorem dX6_commonDivisor_25 : decode cX6_commonDivisor 25 = .ok (.iload 5, 2) := by decide +kernel
theorem dX6_commonDivisor_27 : decode cX6_commonDivisor 27 = .ok (.istore_n 3, 1) := by decide +kernel
theorem dX6_commonDivisor_28 : decode cX6_commonDivisor 28 = .ok (.iinc 4 1, 3) := by decide +kernel
theorem dX6_commonDivisor_31 : decode cX6_commonDivisor 31 = .ok (.goto (-24), 3) := by decide +kernel
theorem dX6_commonDivisor_34 : decode cX6_commonDivisor 34 = .ok (.iload_n 2, 1) := by decide +kernel
theorem dX6_commonDivisor_35 : decode cX6_commonDivisor 35 = .ok (.ireturn, 1) := by decide +kernel
theorem dX6_power_0 : decode cX6_power 0 = .ok (.lconst 1, 1) := by decide +kernel
theorem dX6_power_1 : decode cX6_power 1 = .ok (.lstore_n 3, 1) := by decide +kernel
theorem dX6_power_2 : decode cX6_power 2 = .ok (.iconst 0, 1) := by decide +kernel
theorem dX6_power_3 : decode cX6_power 3 = .ok (.istore 5, 2) := by decide +kernel
theorem dX6_power_5 : decode cX6_power 5 = .ok (.iload 5, 2) := by decide +kernel
theorem dX6_power_7 : decode cX6_power 7 = .ok (.iload_n 2, 1) := by decide +kernel
theorem dX6_power_8 : decode cX6_power 8 = .ok (.if_icmp .ge 13, 3) := by decide +kernel
theorem dX6_power_11 : decode cX6_power 11 = .ok (.lload_n 3, 1) := by decide +kernel
theorem dX6_power_12 : decode cX6_power 12 = .ok (.lload_n 0, 1) := by decide +kernel
theorem dX6_power_13 : decode cX6_power 13 = .ok (.lmul, 1) := by decide +kernel
theorem dX6_power_14 : decode cX6_power 14 = .ok (.lstore_n 3, 1) := by decide +kernel
theorem dX6_power_15 : decode cX6_power 15 = .ok (.iinc 5 1, 3) := by decide +kernel
theorem dX6_power_18 : decode cX6_power 18 = .ok (.goto (-13), 3) := by decide +kernel
theorem dX6_power_21 : decode cX6_power 21 = .ok (.lload_n 3, 1) := by decide +kernel
theorem dX6_power_22 : decode cX6_power 22 = .ok (.lreturn, 1) := by decide +kernel
end
section
theorem dX7_init_0 : decode cX7_init 0 = .ok (.aload_n 0, 1) := by decide +kernel
theorem dX7_init_1 : decode cX7_init 1 = .ok (.invokespecial 1, 3) := by decide +kernel
theorem dX7_init_4 : decode cX7_init 4 = .ok (.aload_n 0, 1) := by decide +kernel
theorem dX7_init_5 : decode cX7_init 5 = .ok (.bipush 50, 2) := by decide +kernel
theorem dX7_init_7 : decode cX7_init 7 = .ok (.newarray .int, 2) := by decide +kernel
theorem dX7_init_9 : decode cX7_init 9 = .ok (.putfield 9, 3) := by decide +kernel
theorem dX7_init_12 : decode cX7_init 12 = .ok (.aload_n 0, 1) := by decide +kernel
theorem dX7_init_13 : decode cX7_init 13 = .ok (.bipush 50, 2) := by decide +kernel
theorem dX7_init_15 : decode cX7_init 15 = .ok (.newarray .int, 2) := by decide +kernel
theorem dX7_init_17 : decode cX7_init 17 = .ok (.putfield 13, 3) := by decide +kernel
theorem dX7_init_20 : decode cX7_init 20 = .ok (.aload_n 0, 1) := by decide +kernel
theorem dX7_init_21 : decode cX7_init 21 = .ok (.bipush 50, 2) := by decide +kernel
theorem dX7_init_23 : decode cX7_init 23 = .ok (.newarray .int, 2) := by decide +kernel
theorem dX7_init_25 : decode cX7_init 25 = .ok (.putfield 16, 3) := by decide +kernel
theorem dX7_init_28 : decode cX7_init 28 = .ok (.aload_n 0, 1) := by decide +kernel
theorem dX7_init_29 : decode cX7_init 29 = .ok (.bipush 8, 2) := by decide +kernel
theorem dX7_init_31 : decode cX7_init 31 = .ok (.newarray .int, 2) := by decide +kernel
theorem dX7_init_33 : decode cX7_init 33 = .ok (.putfield 19, 3) := by decide +kernel
theorem dX7_init_36 : decode cX7_init 36 = .ok (.aload_n 0, 1) := by decide +kernel
theorem dX7_init_37 : decode cX7_init 37 = .ok (.sipush 350, 3) := by decide +kernel
theorem dX7_init_40 : decode cX7_init 40 = .ok (.newarray .int, 2) := by decide +kernel
theorem dX7_init_42 : decode cX7_init 42 = .ok (.putfield 22, 3) := by decide +kernel
theorem dX7_init_45 : decode cX7_init 45 = .ok (.aload_n 0, 1) := by decide +kernel
theorem dX7_init_46 : decode cX7_init 46 = .ok (.bipush 6, 2) := by decide +kernel
theorem dX7_init_48 : decode cX7_init 48 = .ok (.newarray .int, 2) := by decide +kernel
theorem dX7_init_50 : decode cX7_init 50 = .ok (.putfield 25, 3) := by decide +kernel
theorem dX7_init_53 : decode cX7_init 53 = .ok (.aload_n 0, 1) := by decide +kernel
theorem dX7_init_54 : decode cX7_init 54 = .ok (.bipush 6, 2) := by decide +kernel
theorem dX7_init_56 : decode cX7_init 56 = .ok (.newarray .int, 2) := by decide +kernel
theorem dX7_init_58 : decode cX7_init 58 = .ok (.putfield 28, 3) := by decide +kernel
theorem dX7_init_61 : decode cX7_init 61 = .ok (.aload_n 0, 1) := by decide +kernel
theorem dX7_init_62 : decode cX7_init 62 = .ok (.bipush 120, 2) := by decide +kernel
theorem dX7_init_64 : decode cX7_init 64 = .ok (.newarray .int, 2) := by decide +kernel
theorem dX7_init_66 : decode cX7_init 66 = .ok (.putfield 31, 3) := by decide +kernel
theorem dX7_init_69 : decode cX7_init 69 = .ok (.aload_n 0, 1) := by decide +kernel
theorem dX7_init_70 : decode cX7_init 70 = .ok (.bipush 7, 2) := by decide +kernel
theorem dX7_init_72 : decode cX7_init 72 = .ok (.anewarray 34, 3) := by decide +kernel
theorem dX7_init_75 : decode cX7_init 75 = .ok (.dup, 1) := by decide +kernel
theorem dX7_init_76 : decode cX7_init 76 = .ok (.iconst 0, 1) := by decide +kernel
theorem dX7_init_77 : decode cX7_init 77 = .ok (.ldc 36, 2) := by decide +kernel
theorem dX7_init_79 : decode cX7_init 79 = .ok (.aastore, 1) := by decide +kernel
theorem dX7_init_80 : decode cX7_init 80 = .ok (.dup, 1) := by decide +kernel
theorem dX7_init_81 : decode cX7_init 81 = .ok (.iconst 1, 1) := by decide +kernel
theorem dX7_init_82 : decode cX7_init 82 = .ok (.ldc 38, 2) := by decide +kernel
theorem dX7_init_84 : decode cX7_init 84 = .ok (.aastore, 1) := by decide +kernel
theorem dX7_init_85 : decode cX7_init 85 = .ok (.dup, 1) := by decide +kernel
theorem dX7_init_86 : decode cX7_init 86 = .ok (.iconst 2, 1) := by decide +kernel
theorem dX7_init_87 : decode cX7_init 87 = .ok (.ldc 40, 2) := by decide +kernel
theorem dX7_init_89 : decode cX7_init 89 = .ok (.aastore, 1) := by decide +kernel
theorem dX7_init_90 : decode cX7_init 90 = .ok (.dup, 1) := by decide +kernel
theorem dX7_init_91 : decode cX7_init 91 = .ok (.iconst 3, 1) := by decide +kernel
theorem dX7_init_92 : decode cX7_init 92 = .ok (.ldc 42, 2) := by decide +kernel
theorem dX7_init_94 : decode cX7_init 94 = .ok (.aastore, 1) := by decide +kernel
theorem dX7_init_95 : decode cX7_init 95 = .ok (.dup, 1) := by decide +kernel
theorem dX7_init_96 : decode cX7_init 96 = .ok (.iconst 4, 1) := by decide +kernel
theorem dX7_init_97 : decode cX7_init 97 = .ok (.ldc 44, 2) := by decide +kernel
theorem dX7_init_99 : decode cX7_init 99 = .ok (.aastore, 1) := by decide +kernel
theorem dX7_init_100 : decode cX7_init 100 = .ok (.dup, 1) := by decide +kernel
theorem dX7_init_101 : decode cX7_init 101 = .ok (.iconst 5, 1) := by decide +kernel
theorem dX7_init_102 : decode cX7_init 102 = .ok (.ldc 46, 2) := by decide +kernel
theorem dX7_init_104 : decode cX7_init 104 = .ok (.aastore, 1) := by decide +kernel
theorem dX7_init_105 : decode cX7_init 105 = .ok (.dup, 1) := by decide +kernel
theorem dX7_init_106 : decode cX7_init 106 = .ok (.bipush 6, 2) := by decide +kernel
theorem dX7_init_108 : decode cX7_init 108 = .ok (.ldc 48, 2) := by decide +kernel
theorem dX7_init_110 : decode cX7_init 110 = .ok (.aastore, 1) := by decide +kernel
theorem dX7_init_111 : decode cX7_init 111 = .ok (.putfield 50, 3) := by decide +kernel
theorem dX7_init_114 : decode cX7_init 114 = .ok (.aload_n 0, 1) := by decide +kernel
theorem dX7_init_115 : decode cX7_init 115 = .ok (.sipush 360, 3) := by decide +kernel
theorem dX7_init_118 : decode cX7_init 118 = .ok (.newarray .int, 2) := by decide +kernel
theorem dX7_init_120 : decode cX7_init 120 = .ok (.putfield 54, 3) := by decide +kernel
theorem dX7_init_123 : decode cX7_init 123 = .ok (.aload_n 0, 1) := by decide +kernel
theorem dX7_init_124 : decode cX7_init 124 = .ok (.iconst 4, 1) := by decide +kernel
theorem dX7_init_125 : decode cX7_init 125 = .ok (.newarray .int, 2) := by decide +kernel
theorem dX7_init_127 : decode cX7_init 127 = .ok (.putfield 57, 3) := by decide +kernel
theorem dX7_init_130 : decode cX7_init 130 = .ok (.aload_n 0, 1) := by decide +kernel
theorem dX7_init_131 : decode cX7_init 131 = .ok (.iconst 4, 1) := by decide +kernel
theorem dX7_init_132 : decode cX7_init 132 = .ok (.newarray .int, 2) := by decide +kernel
theorem dX7_init_134 : decode cX7_init 134 = .ok (.putfield 60, 3) := by decide +kernel
theorem dX7_init_137 : decode cX7_init 137 = .ok (.aload_n 0, 1) := by decide +kernel
theorem dX7_init_138 : decode cX7_init 138 = .ok (.sipush 160, 3) := by decide +kernel
theorem dX7_init_141 : decode cX7_init 141 = .ok (.newarray .int, 2) := by decide +kernel
theorem dX7_init_143 : decode cX7_init 143 = .ok (.putfield 63, 3) := by decide +kernel
theorem dX7_init_146 : decode cX7_init 146 = .ok (.aload_n 0, 1) := by decide +kernel
theorem dX7_init_147 : decode cX7_init 147 = .ok (.bipush 40, 2) := by decide +kernel
theorem dX7_init_149 : decode cX7_init 149 = .ok (.newarray .int, 2) := by decide +kernel
theorem dX7_init_151 : decode cX7_init 151 = .ok (.putfield 66, 3) := by decide +kernel
theorem dX7_init_154 : decode cX7_init 154 = .ok (.aload_n 0, 1) := by decide +kernel
theorem dX7_init_155 : decode cX7_init 155 = .ok (.getfield 9, 3) := by decide +kernel
theorem dX7_init_158 : decode cX7_init 158 = .ok (.iconst 2, 1) := by decide +kernel
theorem dX7_init_159 : decode cX7_init 159 = .ok (.iconst 1, 1) := by decide +kernel
theorem dX7_init_160 : decode cX7_init 160 = .ok (.iastore, 1) := by decide +kernel
theorem dX7_init_161 : decode cX7_init 161 = .ok (.iconst 0, 1) := by decide +kernel
theorem dX7_init_162 : decode cX7_init 162 = .ok (.istore_n 1, 1) := by decide +kernel
theorem dX7_init_163 : decode cX7_init 163 = .ok (.iload_n 1, 1) := by decide +kernel
theorem dX7_init_164 : decode cX7_init 164 = .ok (.bipush 12, 2) := by decide +kernel
theorem dX7_init_166 : decode cX7_init 166 = .ok (.if_icmp .ge 20, 3) := by decide +kernel
theorem dX7_init_169 : decode cX7_init 169 = .ok (.aload_n 0, 1) := by decide +kernel
theorem dX7_init_170 : decode cX7_init 170 = .ok (.getfield 9, 3) := by decide +kernel
theorem dX7_init_173 : decode cX7_init 173 = .ok (.bipush 14, 2) := by decide +kernel
theorem dX7_init_175 : decode cX7_init 175 = .ok (.iload_n 1, 1) := by decide +kernel
theorem dX7_init_176 : decode cX7_init 176 = .ok (.iadd, 1) := by decide +kernel
theorem dX7_init_177 : decode cX7_init 177 = .ok (.bipush 50, 2) := by decide +kernel
theorem dX7_init_179 : decode cX7_init 179 = .ok (.iastore, 1) := by decide +kernel
theorem dX7_init_180 : decode cX7_init 180 = .ok (.iinc 1 1, 3) := by decide +kernel
theorem dX7_init_183 : decode cX7_init 183 = .ok (.goto (-20), 3) := by decide +kernel
theorem dX7_init_186 : decode cX7_init 186 = .ok (.iconst 0, 1) := by decide +kernel
theorem dX7_init_187 : decode cX7_init 187 = .ok (.istore_n 1, 1) := by decide +kernel
theorem dX7_init_188 : decode cX7_init 188 = .ok (.iload_n 1, 1) := by decide +kernel
theorem dX7_init_189 : decode cX7_init 189 = .ok (.bipush 10, 2) := by decide +kernel
theorem dX7_init_191 : decode cX7_init 191 = .ok (.if_icmp .ge 18, 3) := by decide +kernel
theorem dX7_init_194 : decode cX7_init 194 = .ok (.aload_n 0, 1) := by decide +kernel
theorem dX7_init_195 : decode cX7_init 195 = .ok (.getfield 9, 3) := by decide +kernel
theorem dX7_init_198 : decode cX7_init 198 = .ok (.iconst 4, 1) := by decide +kernel
theorem dX7_init_199 : decode cX7_init 199 = .ok (.iload_n 1, 1) := by decide +kernel
theorem dX7_init_200 : decode cX7_init 200 = .ok (.iadd, 1) := by decide +kernel
theorem dX7_init_201 : decode cX7_init 201 = .ok (.iconst (-1), 1) := by decide +kernel
theorem dX7_init_202 : decode cX7_init 202 = .ok (.iastore, 1) := by decide +kernel
theorem dX7_init_203 : decode cX7_init 203 = .ok (.iinc 1 1, 3) := by decide +kernel
theorem dX7_init_206 : decode cX7_init 206 = .ok (.goto (-18), 3) := by decide +kernel
theorem dX7_init_209 : decode cX7_init 209 = .ok (.return_, 1) := by decide +kernel
theorem dX7_finding_0 : decode cX7_finding 0 = .ok (.aload_n 0, 1) := by decide +kernel
theorem dX7_finding_1 : decode cX7_finding 1 = .ok (.getfield 19, 3) := by decide +kernel
theorem dX7_finding_4 : decode cX7_finding 4 = .ok (.ldc 69, 2) := by decide +kernel
theorem dX7_finding_6 : decode cX7_finding 6 = .ok (.iload_n 1, 1) := by decide +kernel
theorem dX7_finding_7 : decode cX7_finding 7 = .ok (.isub, 1) := by decide +kernel
theorem dX7_finding_8 : decode cX7_finding 8 = .ok (.iconst 1, 1) := by decide +kernel
theorem dX7_finding_9 : decode cX7_finding 9 = .ok (.iadd, 1) := by decide +kernel
theorem dX7_finding_10 : decode cX7_finding 10 = .ok (.dup2, 1) := by decide +kernel
theorem dX7_finding_11 : decode cX7_finding 11 = .ok (.iaload, 1) := by decide +kernel
theorem dX7_finding_12 : decode cX7_finding 12 = .ok (.iconst 1, 1) := by decide +kernel
theorem dX7_finding_13 : decode cX7_finding 13 = .ok (.iadd, 1) := by decide +kernel
theorem dX7_finding_14 : decode cX7_finding 14 = .ok (.iastore, 1) := by decide +kernel
theorem dX7_finding_15 : decode cX7_finding 15 = .ok (.aload_n 0, 1) := by decide +kernel
theorem dX7_finding_16 : decode cX7_finding 16 = .ok (.getfield 19, 3) := by decide +kernel
theorem dX7_finding_19 : decode cX7_finding 19 = .ok (.iconst 0, 1) := by decide +kernel
theorem dX7_finding_20 : decode cX7_finding 20 = .ok (.dup2, 1) := by decide +kernel
theorem dX7_finding_21 : decode cX7_finding 21 = .ok (.iaload, 1) := by decide +kernel
theorem dX7_finding_22 : decode cX7_finding 22 = .ok (.iconst 1, 1) := by decide +kernel
theorem dX7_finding_23 : decode cX7_finding 23 = .ok (.iadd, 1) := by decide +kernel
theorem dX7_finding_24 : decode cX7_finding 24 = .ok (.iastore, 1) := by decide +kernel
theorem dX7_finding_25 : decode cX7_finding 25 = .ok (.iload_n 1, 1) := by decide +kernel
theorem dX7_finding_26 : decode cX7_finding 26 = .ok (.ireturn, 1) := by decide +kernel
theorem dX7_within_0 : decode cX7_within 0 = .ok (.iload_n 0, 1) := by decide +kernel
theorem dX7_within_1 : decode cX7_within 1 = .ok (.iload_n 1, 1) := by decide +kernel
theorem dX7_within_2 : decode cX7_within 2 = .ok (.if_icmp .lt 12, 3) := by decide +kernel
theorem dX7_within_5 : decode cX7_within 5 = .ok (.iload_n 0, 1) := by decide +kernel
theorem dX7_within_6 : decode cX7_within 6 = .ok (.iload_n 2, 1) := by decide +kernel
theorem dX7_within_7 : decode cX7_within 7 = .ok (.if_icmp .gt 7, 3) := by decide +kernel
theorem dX7_within_10 : decode cX7_within 10 = .ok (.iconst 1, 1) := by decide +kernel
theorem dX7_within_11 : decode cX7_within 11 = .ok (.goto 4, 3) := by decide +kernel
theorem dX7_within_14 : decode cX7_within 14 = .ok (.iconst 0, 1) := by decide +kernel
theorem dX7_within_15 : decode cX7_within 15 = .ok (.ireturn, 1) := by decide +kernel
theorem dX7_become_0 : decode cX7_become 0 = .ok (.aload_n 0, 1) := by decide +kernel
theorem dX7_become_1 : decode cX7_become 1 = .ok (.getfield 9, 3) := by decide +kernel
theorem dX7_become_4 : decode cX7_become 4 = .ok (.iload_n 1, 1) := by decide +kernel
theorem dX7_become_5 : decode cX7_become 5 = .ok (.iaload, 1) := by decide +kernel
theorem dX7_become_6 : decode cX7_become 6 = .ok (.istore_n 3, 1) := by decide +kernel
theorem dX7_become_7 : decode cX7_become 7 = .ok (.aload_n 0, 1) := by decide +kernel
theorem dX7_become_8 : decode cX7_become 8 = .ok (.getfield 9, 3) := by decide +kernel
theorem dX7_become_11 : decode cX7_become 11 = .ok (.iload_n 1, 1) := by decide +kernel
theorem dX7_become_12 : decode cX7_become 12 = .ok (.iload_n 2, 1) := by decide +kernel
theorem dX7_become_13 : decode cX7_become 13 = .ok (.iastore, 1) := by decide +kernel
theorem dX7_become_14 : decode cX7_become 14 = .ok (.iload_n 3, 1) := by decide +kernel
theorem dX7_become_15 : decode cX7_become 15 = .ok (.ireturn, 1) := by decide +kernel
theorem dX7_copyRow_0 : decode cX7_copyRow 0 = .ok (.iconst 0, 1) := by decide +kernel
theorem dX7_copyRow_1 : decode cX7_copyRow 1 = .ok (.istore_n 2, 1) := by decide +kernel
theorem dX7_copyRow_2 : decode cX7_copyRow 2 = .ok (.iload_n 2, 1) := by decide +kernel
theorem dX7_copyRow_3 : decode cX7_copyRow 3 = .ok (.bipush 50, 2) := by decide +kernel
theorem dX7_copyRow_5 : decode cX7_copyRow 5 = .ok (.if_icmp .ge 15, 3) := by decide +kernel
theorem dX7_copyRow_8 : decode cX7_copyRow 8 = .ok (.aload_n 1, 1) := by decide +kernel
theorem dX7_copyRow_9 : decode cX7_copyRow 9 = .ok (.iload_n 2, 1) := by decide +kernel
theorem dX7_copyRow_10 : decode cX7_copyRow 10 = .ok (.aload_n 0, 1) := by decide +kernel
theorem dX7_copyRow_11 : decode cX7_copyRow 11 = .ok (.iload_n 2, 1) := by decide +kernel
theorem dX7_copyRow_12 : decode cX7_copyRow 12 = .ok (.iaload, 1) := by decide +kernel
theorem dX7_copyRow_13 : decode cX7_copyRow 13 = .ok (.iastore, 1) := by decide +kernel
theorem dX7_copyRow_14 : decode cX7_copyRow 14 = .ok (.iinc 2 1, 3) := by decide +kernel
theorem dX7_copyRow_17 : decode cX7_copyRow 17 = .ok (.goto (-15), 3) := by decide +kernel
theorem dX7_copyRow_20 : decode cX7_copyRow 20 = .ok (.return_, 1) := by decide +kernel
theorem dX7_putBack_0 : decode cX7_putBack 0 = .ok (.aload_n 0, 1) := by decide +kernel
theorem dX7_putBack_1 : decode cX7_putBack 1 = .ok (.getfield 16, 3) := by decide +kernel
theorem dX7_putBack_4 : decode cX7_putBack 4 = .ok (.aload_n 0, 1) := by decide +kernel
theorem dX7_putBack_5 : decode cX7_putBack 5 = .ok (.getfield 9, 3) := by decide +kernel
theorem dX7_putBack_8 : decode cX7_putBack 8 = .ok (.invokestatic 70, 3) := by decide +kernel
theorem dX7_putBack_11 : decode cX7_putBack 11 = .ok (.iload_n 1, 1) := by decide +kernel
theorem dX7_putBack_12 : decode cX7_putBack 12 = .ok (.ireturn, 1) := by decide +kernel
theorem dX7_orNone_0 : decode cX7_orNone 0 = .ok (.iload_n 1, 1) := by decide +kernel
theorem dX7_orNone_1 : decode cX7_orNone 1 = .ok (.ifCond .ge 12, 3) := by decide +kernel
theorem dX7_orNone_4 : decode cX7_orNone 4 = .ok (.aload_n 0, 1) := by decide +kernel
theorem dX7_orNone_5 : decode cX7_orNone 5 = .ok (.ldc 74, 2) := by decide +kernel
theorem dX7_orNone_7 : decode cX7_orNone 7 = .ok (.invokevirtual 75, 3) := by decide +kernel
theorem dX7_orNone_10 : decode cX7_orNone 10 = .ok (.goto 4, 3) := by decide +kernel
theorem dX7_orNone_13 : decode cX7_orNone 13 = .ok (.iload_n 1, 1) := by decide +kernel
theorem dX7_orNone_14 : decode cX7_orNone 14 = .ok (.ireturn, 1) := by decide +kernel
theorem dX7_has_0 : decode cX7_has 0 = .ok (.iload_n 0, 1) := by decide +kernel
theorem dX7_has_1 : decode cX7_has 1 = .ok (.iload_n 1, 1) := by decide +kernel
theorem dX7_has_2 : decode cX7_has 2 = .ok (.ishr, 1) := by decide +kernel
theorem dX7_has_3 : decode cX7_has 3 = .ok (.iconst 1, 1) := by decide +kernel
theorem dX7_has_4 : decode cX7_has 4 = .ok (.iand, 1) := by decide +kernel
theorem dX7_has_5 : decode cX7_has 5 = .ok (.iconst 1, 1) := by decide +kernel
theorem dX7_has_6 : decode cX7_has 6 = .ok (.if_icmp .ne 7, 3) := by decide +kernel
theorem dX7_has_9 : decode cX7_has 9 = .ok (.iconst 1, 1) := by decide +kernel
theorem dX7_has_10 : decode cX7_has 10 = .ok (.goto 4, 3) := by decide +kernel
theorem dX7_has_13 : decode cX7_has 13 = .ok (.iconst 0, 1) := by decide +kernel
theorem dX7_has_14 : decode cX7_has 14 = .ok (.ireturn, 1) := by decide +kernel
theorem dX7_bits_0 : decode cX7_bits 0 = .ok (.iconst 0, 1) := by decide +kernel
theorem dX7_bits_1 : decode cX7_bits 1 = .ok (.istore_n 1, 1) := by decide +kernel
theorem dX7_bits_2 : decode cX7_bits 2 = .ok (.iload_n 0, 1) := by decide +kernel
theorem dX7_bits_3 : decode cX7_bits 3 = .ok (.istore_n 2, 1) := by decide +kernel
theorem dX7_bits_4 : decode cX7_bits 4 = .ok (.iload_n 2, 1) := by decide +kernel
theorem dX7_bits_5 : decode cX7_bits 5 = .ok (.ifCond .eq 15, 3) := by decide +kernel
theorem dX7_bits_8 : decode cX7_bits 8 = .ok (.iinc 1 1, 3) := by decide +kernel
theorem dX7_bits_11 : decode cX7_bits 11 = .ok (.iload_n 2, 1) := by decide +kernel
theorem dX7_bits_12 : decode cX7_bits 12 = .ok (.iload_n 2, 1) := by decide +kernel
theorem dX7_bits_13 : decode cX7_bits 13 = .ok (.iconst 1, 1) := by decide +kernel
theorem dX7_bits_14 : decode cX7_bits 14 = .ok (.isub, 1) := by decide +kernel
theorem dX7_bits_15 : decode cX7_bits 15 = .ok (.iand, 1) := by decide +kernel
theorem dX7_bits_16 : decode cX7_bits 16 = .ok (.istore_n 2, 1) := by decide +kernel
theorem dX7_bits_17 : decode cX7_bits 17 = .ok (.goto (-13), 3) := by decide +kernel
theorem dX7_bits_20 : decode cX7_bits 20 = .ok (.iload_n 1, 1) := by decide +kernel
theorem dX7_bits_21 : decode cX7_bits 21 = .ok (.ireturn, 1) := by decide +kernel
theorem dX7_held_0 : decode cX7_held 0 = .ok (.iconst 0, 1) := by decide +kernel
theorem dX7_held_1 : decode cX7_held 1 = .ok (.bipush 99, 2) := by decide +kernel
theorem dX7_held_3 : decode cX7_held 3 = .ok (.iload_n 0, 1) := by decide +kernel
theorem dX7_held_4 : decode cX7_held 4 = .ok (.invokestatic 79, 3) := by decide +kernel
theorem dX7_held_7 : decode cX7_held 7 = .ok (.invokestatic 85, 3) := by decide +kernel
theorem dX7_held_10 : decode cX7_held 10 = .ok (.ireturn, 1) := by decide +kernel
theorem dX7_isPlank_0 : decode cX7_isPlank 0 = .ok (.iload_n 0, 1) := by decide +kernel
theorem dX7_isPlank_1 : decode cX7_isPlank 1 = .ok (.iconst 0, 1) := by decide +kernel
theorem dX7_isPlank_2 : decode cX7_isPlank 2 = .ok (.bipush 11, 2) := by decide +kernel
theorem dX7_isPlank_4 : decode cX7_isPlank 4 = .ok (.invokestatic 88, 3) := by decide +kernel
theorem dX7_isPlank_7 : decode cX7_isPlank 7 = .ok (.ireturn, 1) := by decide +kernel
theorem dX7_isGait_0 : decode cX7_isGait 0 = .ok (.iload_n 0, 1) := by decide +kernel
theorem dX7_isGait_1 : decode cX7_isGait 1 = .ok (.iconst 0, 1) := by decide +kernel
theorem dX7_isGait_2 : decode cX7_isGait 2 = .ok (.bipush 99, 2) := by decide +kernel
theorem dX7_isGait_4 : decode cX7_isGait 4 = .ok (.invokestatic 88, 3) := by decide +kernel
theorem dX7_isGait_7 : decode cX7_isGait 7 = .ok (.ireturn, 1) := by decide +kernel
theorem dX7_isWalker_0 : decode cX7_isWalker 0 = .ok (.iload_n 1, 1) := by decide +kernel
theorem dX7_isWalker_1 : decode cX7_isWalker 1 = .ok (.iconst 0, 1) := by decide +kernel
theorem dX7_isWalker_2 : decode cX7_isWalker 2 = .ok (.aload_n 0, 1) := by decide +kernel
theorem dX7_isWalker_3 : decode cX7_isWalker 3 = .ok (.getfield 9, 3) := by decide +kernel
theorem dX7_isWalker_6 : decode cX7_isWalker 6 = .ok (.iconst 1, 1) := by decide +kernel
theorem dX7_isWalker_7 : decode cX7_isWalker 7 = .ok (.iaload, 1) := by decide +kernel
theorem dX7_isWalker_8 : decode cX7_isWalker 8 = .ok (.iconst 1, 1) := by decide +kernel
theorem dX7_isWalker_9 : decode cX7_isWalker 9 = .ok (.isub, 1) := by decide +kernel
theorem dX7_isWalker_10 : decode cX7_isWalker 10 = .ok (.invokestatic 88, 3) := by decide +kernel
theorem dX7_isWalker_13 : decode cX7_isWalker 13 = .ok (.ireturn, 1) := by decide +kernel
theorem dX7_isKind_0 : decode cX7_isKind 0 = .ok (.iload_n 0, 1) := by decide +kernel
theorem dX7_isKind_1 : decode cX7_isKind 1 = .ok (.iconst 0, 1) := by decide +kernel
theorem dX7_isKind_2 : decode cX7_isKind 2 = .ok (.bipush 6, 2) := by decide +kernel
theorem dX7_isKind_4 : decode cX7_isKind 4 = .ok (.invokestatic 88, 3) := by decide +kernel
theorem dX7_isKind_7 : decode cX7_isKind 7 = .ok (.ireturn, 1) := by decide +kernel
theorem dX7_place_0 : decode cX7_place 0 = .ok (.bipush 26, 2) := by decide +kernel
theorem dX7_place_2 : decode cX7_place 2 = .ok (.iconst 4, 1) := by decide +kernel
theorem dX7_place_3 : decode cX7_place 3 = .ok (.iload_n 0, 1) := by decide +kernel
theorem dX7_place_4 : decode cX7_place 4 = .ok (.imul, 1) := by decide +kernel
theorem dX7_place_5 : decode cX7_place 5 = .ok (.iadd, 1) := by decide +kernel
theorem dX7_place_6 : decode cX7_place 6 = .ok (.iload_n 1, 1) := by decide +kernel
theorem dX7_place_7 : decode cX7_place 7 = .ok (.iadd, 1) := by decide +kernel
theorem dX7_place_8 : decode cX7_place 8 = .ok (.ireturn, 1) := by decide +kernel
theorem dX7_walkerIs_0 : decode cX7_walkerIs 0 = .ok (.aload_n 0, 1) := by decide +kernel
theorem dX7_walkerIs_1 : decode cX7_walkerIs 1 = .ok (.getfield 9, 3) := by decide +kernel
theorem dX7_walkerIs_4 : decode cX7_walkerIs 4 = .ok (.iload_n 1, 1) := by decide +kernel
theorem dX7_walkerIs_5 : decode cX7_walkerIs 5 = .ok (.iload_n 2, 1) := by decide +kernel
theorem dX7_walkerIs_6 : decode cX7_walkerIs 6 = .ok (.invokestatic 92, 3) := by decide +kernel
theorem dX7_walkerIs_9 : decode cX7_walkerIs 9 = .ok (.iaload, 1) := by decide +kernel
theorem dX7_walkerIs_10 : decode cX7_walkerIs 10 = .ok (.ireturn, 1) := by decide +kernel
theorem dX7_plank_0 : decode cX7_plank 0 = .ok (.iload_n 1, 1) := by decide +kernel
theorem dX7_plank_1 : decode cX7_plank 1 = .ok (.invokestatic 95, 3) := by decide +kernel
theorem dX7_plank_4 : decode cX7_plank 4 = .ok (.ifCond .eq 22, 3) := by decide +kernel
theorem dX7_plank_7 : decode cX7_plank 7 = .ok (.iload_n 2, 1) := by decide +kernel
theorem dX7_plank_8 : decode cX7_plank 8 = .ok (.invokestatic 99, 3) := by decide +kernel
theorem dX7_plank_11 : decode cX7_plank 11 = .ok (.ifCond .eq 15, 3) := by decide +kernel
theorem dX7_plank_14 : decode cX7_plank 14 = .ok (.aload_n 0, 1) := by decide +kernel
theorem dX7_plank_15 : decode cX7_plank 15 = .ok (.bipush 14, 2) := by decide +kernel
theorem dX7_plank_17 : decode cX7_plank 17 = .ok (.iload_n 1, 1) := by decide +kernel
theorem dX7_plank_18 : decode cX7_plank 18 = .ok (.iadd, 1) := by decide +kernel
theorem dX7_plank_19 : decode cX7_plank 19 = .ok (.iload_n 2, 1) := by decide +kernel
theorem dX7_plank_20 : decode cX7_plank 20 = .ok (.invokevirtual 102, 3) := by decide +kernel
theorem dX7_plank_23 : decode cX7_plank 23 = .ok (.goto 9, 3) := by decide +kernel
theorem dX7_plank_26 : decode cX7_plank 26 = .ok (.aload_n 0, 1) := by decide +kernel
theorem dX7_plank_27 : decode cX7_plank 27 = .ok (.ldc 69, 2) := by decide +kernel
theorem dX7_plank_29 : decode cX7_plank 29 = .ok (.invokevirtual 75, 3) := by decide +kernel
theorem dX7_plank_32 : decode cX7_plank 32 = .ok (.ireturn, 1) := by decide +kernel
theorem dX7_keeps_0 : decode cX7_keeps 0 = .ok (.iload_n 1, 1) := by decide +kernel
theorem dX7_keeps_1 : decode cX7_keeps 1 = .ok (.invokestatic 95, 3) := by decide +kernel
theorem dX7_keeps_4 : decode cX7_keeps 4 = .ok (.ifCond .eq 15, 3) := by decide +kernel
theorem dX7_keeps_7 : decode cX7_keeps 7 = .ok (.aload_n 0, 1) := by decide +kernel
theorem dX7_keeps_8 : decode cX7_keeps 8 = .ok (.getfield 9, 3) := by decide +kernel
theorem dX7_keeps_11 : decode cX7_keeps 11 = .ok (.bipush 14, 2) := by decide +kernel
theorem dX7_keeps_13 : decode cX7_keeps 13 = .ok (.iload_n 1, 1) := by decide +kernel
theorem dX7_keeps_14 : decode cX7_keeps 14 = .ok (.iadd, 1) := by decide +kernel
theorem dX7_keeps_15 : decode cX7_keeps 15 = .ok (.iaload, 1) := by decide +kernel
theorem dX7_keeps_16 : decode cX7_keeps 16 = .ok (.goto 9, 3) := by decide +kernel
theorem dX7_keeps_19 : decode cX7_keeps 19 = .ok (.aload_n 0, 1) := by decide +kernel
theorem dX7_keeps_20 : decode cX7_keeps 20 = .ok (.ldc 69, 2) := by decide +kernel
theorem dX7_keeps_22 : decode cX7_keeps 22 = .ok (.invokevirtual 75, 3) := by decide +kernel
theorem dX7_keeps_25 : decode cX7_keeps 25 = .ok (.ireturn, 1) := by decide +kernel
theorem dX7_comes_0 : decode cX7_comes 0 = .ok (.aload_n 0, 1) := by decide +kernel
theorem dX7_comes_1 : decode cX7_comes 1 = .ok (.getfield 9, 3) := by decide +kernel
theorem dX7_comes_4 : decode cX7_comes 4 = .ok (.iconst 1, 1) := by decide +kernel
theorem dX7_comes_5 : decode cX7_comes 5 = .ok (.iaload, 1) := by decide +kernel
theorem dX7_comes_6 : decode cX7_comes 6 = .ok (.istore 4, 2) := by decide +kernel
theorem dX7_comes_8 : decode cX7_comes 8 = .ok (.aload_n 0, 1) := by decide +kernel
theorem dX7_comes_9 : decode cX7_comes 9 = .ok (.getfield 9, 3) := by decide +kernel
theorem dX7_comes_12 : decode cX7_comes 12 = .ok (.iload 4, 2) := by decide +kernel
theorem dX7_comes_14 : decode cX7_comes 14 = .ok (.iconst 0, 1) := by decide +kernel
theorem dX7_comes_15 : decode cX7_comes 15 = .ok (.invokestatic 92, 3) := by decide +kernel
theorem dX7_comes_18 : decode cX7_comes 18 = .ok (.iload_n 1, 1) := by decide +kernel
theorem dX7_comes_19 : decode cX7_comes 19 = .ok (.iastore, 1) := by decide +kernel
theorem dX7_comes_20 : decode cX7_comes 20 = .ok (.aload_n 0, 1) := by decide +kernel
theorem dX7_comes_21 : decode cX7_comes 21 = .ok (.getfield 9, 3) := by decide +kernel
theorem dX7_comes_24 : decode cX7_comes 24 = .ok (.iload 4, 2) := by decide +kernel
theorem dX7_comes_26 : decode cX7_comes 26 = .ok (.iconst 1, 1) := by decide +kernel
theorem dX7_comes_27 : decode cX7_comes 27 = .ok (.invokestatic 92, 3) := by decide +kernel
theorem dX7_comes_30 : decode cX7_comes 30 = .ok (.iload_n 2, 1) := by decide +kernel
theorem dX7_comes_31 : decode cX7_comes 31 = .ok (.iastore, 1) := by decide +kernel
theorem dX7_comes_32 : decode cX7_comes 32 = .ok (.aload_n 0, 1) := by decide +kernel
theorem dX7_comes_33 : decode cX7_comes 33 = .ok (.getfield 9, 3) := by decide +kernel
theorem dX7_comes_36 : decode cX7_comes 36 = .ok (.iload 4, 2) := by decide +kernel
theorem dX7_comes_38 : decode cX7_comes 38 = .ok (.iconst 2, 1) := by decide +kernel
theorem dX7_comes_39 : decode cX7_comes 39 = .ok (.invokestatic 92, 3) := by decide +kernel
theorem dX7_comes_42 : decode cX7_comes 42 = .ok (.iload_n 3, 1) := by decide +kernel
theorem dX7_comes_43 : decode cX7_comes 43 = .ok (.iastore, 1) := by decide +kernel
theorem dX7_comes_44 : decode cX7_comes 44 = .ok (.aload_n 0, 1) := by decide +kernel
theorem dX7_comes_45 : decode cX7_comes 45 = .ok (.getfield 9, 3) := by decide +kernel
theorem dX7_comes_48 : decode cX7_comes 48 = .ok (.iload 4, 2) := by decide +kernel
theorem dX7_comes_50 : decode cX7_comes 50 = .ok (.iconst 3, 1) := by decide +kernel
theorem dX7_comes_51 : decode cX7_comes 51 = .ok (.invokestatic 92, 3) := by decide +kernel
theorem dX7_comes_54 : decode cX7_comes 54 = .ok (.iconst 0, 1) := by decide +kernel
theorem dX7_comes_55 : decode cX7_comes 55 = .ok (.iastore, 1) := by decide +kernel
theorem dX7_comes_56 : decode cX7_comes 56 = .ok (.aload_n 0, 1) := by decide +kernel
theorem dX7_comes_57 : decode cX7_comes 57 = .ok (.getfield 9, 3) := by decide +kernel
theorem dX7_comes_60 : decode cX7_comes 60 = .ok (.iconst 1, 1) := by decide +kernel
theorem dX7_comes_61 : decode cX7_comes 61 = .ok (.dup2, 1) := by decide +kernel
theorem dX7_comes_62 : decode cX7_comes 62 = .ok (.iaload, 1) := by decide +kernel
theorem dX7_comes_63 : decode cX7_comes 63 = .ok (.iconst 1, 1) := by decide +kernel
theorem dX7_comes_64 : decode cX7_comes 64 = .ok (.iadd, 1) := by decide +kernel
theorem dX7_comes_65 : decode cX7_comes 65 = .ok (.iastore, 1) := by decide +kernel
theorem dX7_comes_66 : decode cX7_comes 66 = .ok (.iload 4, 2) := by decide +kernel
theorem dX7_comes_68 : decode cX7_comes 68 = .ok (.ireturn, 1) := by decide +kernel
theorem dX7_walker_0 : decode cX7_walker 0 = .ok (.iload_n 1, 1) := by decide +kernel
theorem dX7_walker_1 : decode cX7_walker 1 = .ok (.invokestatic 105, 3) := by decide +kernel
theorem dX7_walker_4 : decode cX7_walker 4 = .ok (.ifCond .eq 10, 3) := by decide +kernel
theorem dX7_walker_7 : decode cX7_walker 7 = .ok (.iload_n 2, 1) := by decide +kernel
theorem dX7_walker_8 : decode cX7_walker 8 = .ok (.invokestatic 99, 3) := by decide +kernel
theorem dX7_walker_11 : decode cX7_walker 11 = .ok (.ifCond .ne 10, 3) := by decide +kernel
theorem dX7_walker_14 : decode cX7_walker 14 = .ok (.aload_n 0, 1) := by decide +kernel
theorem dX7_walker_15 : decode cX7_walker 15 = .ok (.ldc 69, 2) := by decide +kernel
theorem dX7_walker_17 : decode cX7_walker 17 = .ok (.invokevirtual 75, 3) := by decide +kernel
theorem dX7_walker_20 : decode cX7_walker 20 = .ok (.ireturn, 1) := by decide +kernel
theorem dX7_walker_21 : decode cX7_walker 21 = .ok (.aload_n 0, 1) := by decide +kernel
theorem dX7_walker_22 : decode cX7_walker 22 = .ok (.getfield 9, 3) := by decide +kernel
theorem dX7_walker_25 : decode cX7_walker 25 = .ok (.iconst 1, 1) := by decide +kernel
theorem dX7_walker_26 : decode cX7_walker 26 = .ok (.iaload, 1) := by decide +kernel
theorem dX7_walker_27 : decode cX7_walker 27 = .ok (.bipush 6, 2) := by decide +kernel
theorem dX7_walker_29 : decode cX7_walker 29 = .ok (.if_icmp .ne 12, 3) := by decide +kernel
theorem dX7_walker_32 : decode cX7_walker 32 = .ok (.aload_n 0, 1) := by decide +kernel
theorem dX7_walker_33 : decode cX7_walker 33 = .ok (.ldc 108, 2) := by decide +kernel
theorem dX7_walker_35 : decode cX7_walker 35 = .ok (.invokevirtual 75, 3) := by decide +kernel
theorem dX7_walker_38 : decode cX7_walker 38 = .ok (.goto 11, 3) := by decide +kernel
theorem dX7_walker_41 : decode cX7_walker 41 = .ok (.aload_n 0, 1) := by decide +kernel
theorem dX7_walker_42 : decode cX7_walker 42 = .ok (.iload_n 1, 1) := by decide +kernel
theorem dX7_walker_43 : decode cX7_walker 43 = .ok (.iload_n 2, 1) := by decide +kernel
theorem dX7_walker_44 : decode cX7_walker 44 = .ok (.bipush 30, 2) := by decide +kernel
theorem dX7_walker_46 : decode cX7_walker 46 = .ok (.invokevirtual 109, 3) := by decide +kernel
theorem dX7_walker_49 : decode cX7_walker 49 = .ok (.ireturn, 1) := by decide +kernel
theorem dX7_bears_0 : decode cX7_bears 0 = .ok (.aload_n 0, 1) := by decide +kernel
theorem dX7_bears_1 : decode cX7_bears 1 = .ok (.iload_n 1, 1) := by decide +kernel
theorem dX7_bears_2 : decode cX7_bears 2 = .ok (.iconst 2, 1) := by decide +kernel
theorem dX7_bears_3 : decode cX7_bears 3 = .ok (.invokevirtual 113, 3) := by decide +kernel
theorem dX7_bears_6 : decode cX7_bears 6 = .ok (.istore_n 2, 1) := by decide +kernel
theorem dX7_bears_7 : decode cX7_bears 7 = .ok (.iconst 0, 1) := by decide +kernel
theorem dX7_bears_8 : decode cX7_bears 8 = .ok (.iload_n 2, 1) := by decide +kernel
theorem dX7_bears_9 : decode cX7_bears 9 = .ok (.bipush 10, 2) := by decide +kernel
theorem dX7_bears_11 : decode cX7_bears 11 = .ok (.isub, 1) := by decide +kernel
theorem dX7_bears_12 : decode cX7_bears 12 = .ok (.invokestatic 85, 3) := by decide +kernel
theorem dX7_bears_15 : decode cX7_bears 15 = .ok (.istore_n 3, 1) := by decide +kernel
theorem dX7_bears_16 : decode cX7_bears 16 = .ok (.aload_n 0, 1) := by decide +kernel
theorem dX7_bears_17 : decode cX7_bears 17 = .ok (.iload_n 1, 1) := by decide +kernel
theorem dX7_bears_18 : decode cX7_bears 18 = .ok (.iconst 0, 1) := by decide +kernel
theorem dX7_bears_19 : decode cX7_bears 19 = .ok (.invokevirtual 113, 3) := by decide +kernel
theorem dX7_bears_22 : decode cX7_bears 22 = .ok (.tableswitch 79 1 6 #[38, 49, 51, 56, 76, 42], 38) := by decide +kernel
theorem dX7_bears_60 : decode cX7_bears 60 = .ok (.iload_n 2, 1) := by decide +kernel
theorem dX7_bears_61 : decode cX7_bears 61 = .ok (.iconst 2, 1) := by decide +kernel
theorem dX7_bears_62 : decode cX7_bears 62 = .ok (.idiv, 1) := by decide +kernel
theorem dX7_bears_63 : decode cX7_bears 63 = .ok (.ireturn, 1) := by decide +kernel
theorem dX7_bears_64 : decode cX7_bears 64 = .ok (.iload_n 2, 1) := by decide +kernel
theorem dX7_bears_65 : decode cX7_bears 65 = .ok (.iconst 2, 1) := by decide +kernel
theorem dX7_bears_66 : decode cX7_bears 66 = .ok (.idiv, 1) := by decide +kernel
theorem dX7_bears_67 : decode cX7_bears 67 = .ok (.bipush 40, 2) := by decide +kernel
theorem dX7_bears_69 : decode cX7_bears 69 = .ok (.iadd, 1) := by decide +kernel
theorem dX7_bears_70 : decode cX7_bears 70 = .ok (.ireturn, 1) := by decide +kernel
theorem dX7_bears_71 : decode cX7_bears 71 = .ok (.iload_n 3, 1) := by decide +kernel
theorem dX7_bears_72 : decode cX7_bears 72 = .ok (.ireturn, 1) := by decide +kernel
theorem dX7_bears_73 : decode cX7_bears 73 = .ok (.iload_n 3, 1) := by decide +kernel
theorem dX7_bears_74 : decode cX7_bears 74 = .ok (.bipush 20, 2) := by decide +kernel
theorem dX7_bears_76 : decode cX7_bears 76 = .ok (.iadd, 1) := by decide +kernel
theorem dX7_bears_77 : decode cX7_bears 77 = .ok (.ireturn, 1) := by decide +kernel
theorem dX7_bears_78 : decode cX7_bears 78 = .ok (.aload_n 0, 1) := by decide +kernel
theorem dX7_bears_79 : decode cX7_bears 79 = .ok (.getfield 9, 3) := by decide +kernel
theorem dX7_bears_82 : decode cX7_bears 82 = .ok (.iconst 3, 1) := by decide +kernel
theorem dX7_bears_83 : decode cX7_bears 83 = .ok (.iaload, 1) := by decide +kernel
theorem dX7_bears_84 : decode cX7_bears 84 = .ok (.iconst 1, 1) := by decide +kernel
theorem dX7_bears_85 : decode cX7_bears 85 = .ok (.if_icmp .ne 8, 3) := by decide +kernel
theorem dX7_bears_88 : decode cX7_bears 88 = .ok (.bipush 99, 2) := by decide +kernel
theorem dX7_bears_90 : decode cX7_bears 90 = .ok (.goto 7, 3) := by decide +kernel
theorem dX7_bears_93 : decode cX7_bears 93 = .ok (.iload_n 3, 1) := by decide +kernel
theorem dX7_bears_94 : decode cX7_bears 94 = .ok (.bipush 20, 2) := by decide +kernel
theorem dX7_bears_96 : decode cX7_bears 96 = .ok (.iadd, 1) := by decide +kernel
theorem dX7_bears_97 : decode cX7_bears 97 = .ok (.ireturn, 1) := by decide +kernel
theorem dX7_bears_98 : decode cX7_bears 98 = .ok (.bipush 99, 2) := by decide +kernel
theorem dX7_bears_100 : decode cX7_bears 100 = .ok (.ireturn, 1) := by decide +kernel
theorem dX7_bears_101 : decode cX7_bears 101 = .ok (.iload_n 2, 1) := by decide +kernel
theorem dX7_bears_102 : decode cX7_bears 102 = .ok (.ireturn, 1) := by decide +kernel
theorem dX7_doesFall_0 : decode cX7_doesFall 0 = .ok (.aload_n 0, 1) := by decide +kernel
theorem dX7_doesFall_1 : decode cX7_doesFall 1 = .ok (.iload_n 1, 1) := by decide +kernel
theorem dX7_doesFall_2 : decode cX7_doesFall 2 = .ok (.iconst 1, 1) := by decide +kernel
theorem dX7_doesFall_3 : decode cX7_doesFall 3 = .ok (.invokevirtual 113, 3) := by decide +kernel
theorem dX7_doesFall_6 : decode cX7_doesFall 6 = .ok (.aload_n 0, 1) := by decide +kernel
theorem dX7_doesFall_7 : decode cX7_doesFall 7 = .ok (.getfield 9, 3) := by decide +kernel
theorem dX7_doesFall_10 : decode cX7_doesFall 10 = .ok (.bipush 14, 2) := by decide +kernel
theorem dX7_doesFall_12 : decode cX7_doesFall 12 = .ok (.iload_n 2, 1) := by decide +kernel
theorem dX7_doesFall_13 : decode cX7_doesFall 13 = .ok (.iadd, 1) := by decide +kernel
theorem dX7_doesFall_14 : decode cX7_doesFall 14 = .ok (.iaload, 1) := by decide +kernel
theorem dX7_doesFall_15 : decode cX7_doesFall 15 = .ok (.isub, 1) := by decide +kernel
theorem dX7_doesFall_16 : decode cX7_doesFall 16 = .ok (.invokestatic 116, 3) := by decide +kernel
theorem dX7_doesFall_19 : decode cX7_doesFall 19 = .ok (.aload_n 0, 1) := by decide +kernel
theorem dX7_doesFall_20 : decode cX7_doesFall 20 = .ok (.iload_n 1, 1) := by decide +kernel
theorem dX7_doesFall_21 : decode cX7_doesFall 21 = .ok (.invokevirtual 119, 3) := by decide +kernel
theorem dX7_doesFall_24 : decode cX7_doesFall 24 = .ok (.if_icmp .le 7, 3) := by decide +kernel
theorem dX7_doesFall_27 : decode cX7_doesFall 27 = .ok (.iconst 1, 1) := by decide +kernel
theorem dX7_doesFall_28 : decode cX7_doesFall 28 = .ok (.goto 4, 3) := by decide +kernel
theorem dX7_doesFall_31 : decode cX7_doesFall 31 = .ok (.iconst 0, 1) := by decide +kernel
theorem dX7_doesFall_32 : decode cX7_doesFall 32 = .ok (.ireturn, 1) := by decide +kernel
theorem dX7_fallsOn_0 : decode cX7_fallsOn 0 = .ok (.iconst 0, 1) := by decide +kernel
theorem dX7_fallsOn_1 : decode cX7_fallsOn 1 = .ok (.istore_n 2, 1) := by decide +kernel
theorem dX7_fallsOn_2 : decode cX7_fallsOn 2 = .ok (.iconst 0, 1) := by decide +kernel
theorem dX7_fallsOn_3 : decode cX7_fallsOn 3 = .ok (.istore_n 3, 1) := by decide +kernel
theorem dX7_fallsOn_4 : decode cX7_fallsOn 4 = .ok (.iload_n 3, 1) := by decide +kernel
theorem dX7_fallsOn_5 : decode cX7_fallsOn 5 = .ok (.bipush 12, 2) := by decide +kernel
theorem dX7_fallsOn_7 : decode cX7_fallsOn 7 = .ok (.if_icmp .ge 28, 3) := by decide +kernel
theorem dX7_fallsOn_10 : decode cX7_fallsOn 10 = .ok (.iload_n 2, 1) := by decide +kernel
theorem dX7_fallsOn_11 : decode cX7_fallsOn 11 = .ok (.aload_n 0, 1) := by decide +kernel
theorem dX7_fallsOn_12 : decode cX7_fallsOn 12 = .ok (.iload_n 1, 1) := by decide +kernel
theorem dX7_fallsOn_13 : decode cX7_fallsOn 13 = .ok (.iload_n 3, 1) := by decide +kernel
theorem dX7_fallsOn_14 : decode cX7_fallsOn 14 = .ok (.invokevirtual 122, 3) := by decide +kernel
theorem dX7_fallsOn_17 : decode cX7_fallsOn 17 = .ok (.ifCond .eq 9, 3) := by decide +kernel
theorem dX7_fallsOn_20 : decode cX7_fallsOn 20 = .ok (.iconst 1, 1) := by decide +kernel
theorem dX7_fallsOn_21 : decode cX7_fallsOn 21 = .ok (.iload_n 3, 1) := by decide +kernel
theorem dX7_fallsOn_22 : decode cX7_fallsOn 22 = .ok (.ishl, 1) := by decide +kernel
theorem dX7_fallsOn_23 : decode cX7_fallsOn 23 = .ok (.goto 4, 3) := by decide +kernel
theorem dX7_fallsOn_26 : decode cX7_fallsOn 26 = .ok (.iconst 0, 1) := by decide +kernel
theorem dX7_fallsOn_27 : decode cX7_fallsOn 27 = .ok (.ior, 1) := by decide +kernel
theorem dX7_fallsOn_28 : decode cX7_fallsOn 28 = .ok (.istore_n 2, 1) := by decide +kernel
theorem dX7_fallsOn_29 : decode cX7_fallsOn 29 = .ok (.iinc 3 1, 3) := by decide +kernel
theorem dX7_fallsOn_32 : decode cX7_fallsOn 32 = .ok (.goto (-28), 3) := by decide +kernel
theorem dX7_fallsOn_35 : decode cX7_fallsOn 35 = .ok (.iload_n 2, 1) := by decide +kernel
theorem dX7_fallsOn_36 : decode cX7_fallsOn 36 = .ok (.ireturn, 1) := by decide +kernel
theorem dX7_of_0 : decode cX7_of 0 = .ok (.aload_n 0, 1) := by decide +kernel
theorem dX7_of_1 : decode cX7_of 1 = .ok (.iload_n 1, 1) := by decide +kernel
theorem dX7_of_2 : decode cX7_of 2 = .ok (.invokevirtual 126, 3) := by decide +kernel
theorem dX7_of_5 : decode cX7_of 5 = .ok (.ifCond .eq 12, 3) := by decide +kernel
theorem dX7_of_8 : decode cX7_of 8 = .ok (.iload_n 2, 1) := by decide +kernel
theorem dX7_of_9 : decode cX7_of 9 = .ok (.iconst 0, 1) := by decide +kernel
theorem dX7_of_10 : decode cX7_of 10 = .ok (.iconst 5, 1) := by decide +kernel
theorem dX7_of_11 : decode cX7_of 11 = .ok (.invokestatic 88, 3) := by decide +kernel
theorem dX7_of_14 : decode cX7_of 14 = .ok (.ifCond .ne 10, 3) := by decide +kernel
theorem dX7_of_17 : decode cX7_of 17 = .ok (.aload_n 0, 1) := by decide +kernel
theorem dX7_of_18 : decode cX7_of 18 = .ok (.ldc 69, 2) := by decide +kernel
theorem dX7_of_20 : decode cX7_of 20 = .ok (.invokevirtual 75, 3) := by decide +kernel
theorem dX7_of_23 : decode cX7_of 23 = .ok (.ireturn, 1) := by decide +kernel
theorem dX7_of_24 : decode cX7_of 24 = .ok (.iload_n 2, 1) := by decide +kernel
theorem dX7_of_25 : decode cX7_of 25 = .ok (.iconst 4, 1) := by decide +kernel
theorem dX7_of_26 : decode cX7_of 26 = .ok (.if_icmp .ne 11, 3) := by decide +kernel
theorem dX7_of_29 : decode cX7_of 29 = .ok (.aload_n 0, 1) := by decide +kernel
theorem dX7_of_30 : decode cX7_of 30 = .ok (.iload_n 1, 1) := by decide +kernel
theorem dX7_of_31 : decode cX7_of 31 = .ok (.invokevirtual 119, 3) := by decide +kernel
theorem dX7_of_34 : decode cX7_of 34 = .ok (.goto 22, 3) := by decide +kernel
theorem dX7_of_37 : decode cX7_of 37 = .ok (.iload_n 2, 1) := by decide +kernel
theorem dX7_of_38 : decode cX7_of 38 = .ok (.iconst 5, 1) := by decide +kernel
theorem dX7_of_39 : decode cX7_of 39 = .ok (.if_icmp .ne 11, 3) := by decide +kernel
theorem dX7_of_42 : decode cX7_of 42 = .ok (.aload_n 0, 1) := by decide +kernel
theorem dX7_of_43 : decode cX7_of 43 = .ok (.iload_n 1, 1) := by decide +kernel
theorem dX7_of_44 : decode cX7_of 44 = .ok (.invokevirtual 129, 3) := by decide +kernel
theorem dX7_of_47 : decode cX7_of 47 = .ok (.goto 9, 3) := by decide +kernel
theorem dX7_of_50 : decode cX7_of 50 = .ok (.aload_n 0, 1) := by decide +kernel
theorem dX7_of_51 : decode cX7_of 51 = .ok (.iload_n 1, 1) := by decide +kernel
theorem dX7_of_52 : decode cX7_of 52 = .ok (.iload_n 2, 1) := by decide +kernel
theorem dX7_of_53 : decode cX7_of 53 = .ok (.invokevirtual 113, 3) := by decide +kernel
theorem dX7_of_56 : decode cX7_of 56 = .ok (.ireturn, 1) := by decide +kernel
theorem dX7_mayBe_0 : decode cX7_mayBe 0 = .ok (.iload_n 0, 1) := by decide +kernel
theorem dX7_mayBe_1 : decode cX7_mayBe 1 = .ok (.tableswitch 50 0 3 #[31, 36, 36, 41], 31) := by decide +kernel
theorem dX7_mayBe_32 : decode cX7_mayBe 32 = .ok (.iload_n 1, 1) := by decide +kernel
theorem dX7_mayBe_33 : decode cX7_mayBe 33 = .ok (.invokestatic 105, 3) := by decide +kernel
theorem dX7_mayBe_36 : decode cX7_mayBe 36 = .ok (.ireturn, 1) := by decide +kernel
theorem dX7_mayBe_37 : decode cX7_mayBe 37 = .ok (.iload_n 1, 1) := by decide +kernel
theorem dX7_mayBe_38 : decode cX7_mayBe 38 = .ok (.invokestatic 99, 3) := by decide +kernel
theorem dX7_mayBe_41 : decode cX7_mayBe 41 = .ok (.ireturn, 1) := by decide +kernel
theorem dX7_mayBe_42 : decode cX7_mayBe 42 = .ok (.iload_n 1, 1) := by decide +kernel
theorem dX7_mayBe_43 : decode cX7_mayBe 43 = .ok (.iconst 0, 1) := by decide +kernel
theorem dX7_mayBe_44 : decode cX7_mayBe 44 = .ok (.sipush 9999, 3) := by decide +kernel
theorem dX7_mayBe_47 : decode cX7_mayBe 47 = .ok (.invokestatic 88, 3) := by decide +kernel
theorem dX7_mayBe_50 : decode cX7_mayBe 50 = .ok (.ireturn, 1) := by decide +kernel
theorem dX7_mayBe_51 : decode cX7_mayBe 51 = .ok (.iconst 0, 1) := by decide +kernel
theorem dX7_mayBe_52 : decode cX7_mayBe 52 = .ok (.ireturn, 1) := by decide +kernel
theorem dX7_change_0 : decode cX7_change 0 = .ok (.aload_n 0, 1) := by decide +kernel
theorem dX7_change_1 : decode cX7_change 1 = .ok (.iload_n 1, 1) := by decide +kernel
theorem dX7_change_2 : decode cX7_change 2 = .ok (.invokevirtual 126, 3) := by decide +kernel
theorem dX7_change_5 : decode cX7_change 5 = .ok (.ifCond .eq 24, 3) := by decide +kernel
theorem dX7_change_8 : decode cX7_change 8 = .ok (.iload_n 2, 1) := by decide +kernel
theorem dX7_change_9 : decode cX7_change 9 = .ok (.iload_n 3, 1) := by decide +kernel
theorem dX7_change_10 : decode cX7_change 10 = .ok (.invokestatic 132, 3) := by decide +kernel
theorem dX7_change_13 : decode cX7_change 13 = .ok (.ifCond .eq 16, 3) := by decide +kernel
theorem dX7_change_16 : decode cX7_change 16 = .ok (.aload_n 0, 1) := by decide +kernel
theorem dX7_change_17 : decode cX7_change 17 = .ok (.iload_n 1, 1) := by decide +kernel
theorem dX7_change_18 : decode cX7_change 18 = .ok (.iload_n 2, 1) := by decide +kernel
theorem dX7_change_19 : decode cX7_change 19 = .ok (.invokestatic 92, 3) := by decide +kernel
theorem dX7_change_22 : decode cX7_change 22 = .ok (.iload_n 3, 1) := by decide +kernel
theorem dX7_change_23 : decode cX7_change 23 = .ok (.invokevirtual 102, 3) := by decide +kernel
theorem dX7_change_26 : decode cX7_change 26 = .ok (.goto 9, 3) := by decide +kernel
theorem dX7_change_29 : decode cX7_change 29 = .ok (.aload_n 0, 1) := by decide +kernel
theorem dX7_change_30 : decode cX7_change 30 = .ok (.ldc 69, 2) := by decide +kernel
theorem dX7_change_32 : decode cX7_change 32 = .ok (.invokevirtual 75, 3) := by decide +kernel
theorem dX7_change_35 : decode cX7_change 35 = .ok (.ireturn, 1) := by decide +kernel
theorem dX7_night_0 : decode cX7_night 0 = .ok (.iload_n 1, 1) := by decide +kernel
theorem dX7_night_1 : decode cX7_night 1 = .ok (.iconst 0, 1) := by decide +kernel
theorem dX7_night_2 : decode cX7_night 2 = .ok (.iconst 1, 1) := by decide +kernel
theorem dX7_night_3 : decode cX7_night 3 = .ok (.invokestatic 88, 3) := by decide +kernel
theorem dX7_night_6 : decode cX7_night 6 = .ok (.ifCond .eq 12, 3) := by decide +kernel
theorem dX7_night_9 : decode cX7_night 9 = .ok (.aload_n 0, 1) := by decide +kernel
theorem dX7_night_10 : decode cX7_night 10 = .ok (.iconst 3, 1) := by decide +kernel
theorem dX7_night_11 : decode cX7_night 11 = .ok (.iload_n 1, 1) := by decide +kernel
theorem dX7_night_12 : decode cX7_night 12 = .ok (.invokevirtual 102, 3) := by decide +kernel
theorem dX7_night_15 : decode cX7_night 15 = .ok (.goto 9, 3) := by decide +kernel
theorem dX7_night_18 : decode cX7_night 18 = .ok (.aload_n 0, 1) := by decide +kernel
theorem dX7_night_19 : decode cX7_night 19 = .ok (.ldc 69, 2) := by decide +kernel
theorem dX7_night_21 : decode cX7_night 21 = .ok (.invokevirtual 75, 3) := by decide +kernel
theorem dX7_night_24 : decode cX7_night 24 = .ok (.ireturn, 1) := by decide +kernel
theorem dX7_changedBy_0 : decode cX7_changedBy 0 = .ok (.iload_n 2, 1) := by decide +kernel
theorem dX7_changedBy_1 : decode cX7_changedBy 1 = .ok (.iload_n 1, 1) := by decide +kernel
theorem dX7_changedBy_2 : decode cX7_changedBy 2 = .ok (.isub, 1) := by decide +kernel
theorem dX7_changedBy_3 : decode cX7_changedBy 3 = .ok (.istore_n 3, 1) := by decide +kernel
theorem dX7_changedBy_4 : decode cX7_changedBy 4 = .ok (.iload_n 0, 1) := by decide +kernel
theorem dX7_changedBy_5 : decode cX7_changedBy 5 = .ok (.tableswitch 75 0 5 #[39, 43, 75, 47, 54, 61], 39) := by decide +kernel
theorem dX7_changedBy_44 : decode cX7_changedBy 44 = .ok (.iload_n 3, 1) := by decide +kernel
theorem dX7_changedBy_45 : decode cX7_changedBy 45 = .ok (.iconst 4, 1) := by decide +kernel
theorem dX7_changedBy_46 : decode cX7_changedBy 46 = .ok (.idiv, 1) := by decide +kernel
theorem dX7_changedBy_47 : decode cX7_changedBy 47 = .ok (.ireturn, 1) := by decide +kernel
theorem dX7_changedBy_48 : decode cX7_changedBy 48 = .ok (.iload_n 3, 1) := by decide +kernel
theorem dX7_changedBy_49 : decode cX7_changedBy 49 = .ok (.iconst 2, 1) := by decide +kernel
theorem dX7_changedBy_50 : decode cX7_changedBy 50 = .ok (.idiv, 1) := by decide +kernel
theorem dX7_changedBy_51 : decode cX7_changedBy 51 = .ok (.ireturn, 1) := by decide +kernel
theorem dX7_changedBy_52 : decode cX7_changedBy 52 = .ok (.iload_n 3, 1) := by decide +kernel
theorem dX7_changedBy_53 : decode cX7_changedBy 53 = .ok (.bipush 10, 2) := by decide +kernel
theorem dX7_changedBy_55 : decode cX7_changedBy 55 = .ok (.idiv, 1) := by decide +kernel
theorem dX7_changedBy_56 : decode cX7_changedBy 56 = .ok (.iconst 1, 1) := by decide +kernel
theorem dX7_changedBy_57 : decode cX7_changedBy 57 = .ok (.iadd, 1) := by decide +kernel
theorem dX7_changedBy_58 : decode cX7_changedBy 58 = .ok (.ireturn, 1) := by decide +kernel
theorem dX7_changedBy_59 : decode cX7_changedBy 59 = .ok (.iload_n 3, 1) := by decide +kernel
theorem dX7_changedBy_60 : decode cX7_changedBy 60 = .ok (.bipush 10, 2) := by decide +kernel
theorem dX7_changedBy_62 : decode cX7_changedBy 62 = .ok (.idiv, 1) := by decide +kernel
theorem dX7_changedBy_63 : decode cX7_changedBy 63 = .ok (.iconst 1, 1) := by decide +kernel
theorem dX7_changedBy_64 : decode cX7_changedBy 64 = .ok (.isub, 1) := by decide +kernel
theorem dX7_changedBy_65 : decode cX7_changedBy 65 = .ok (.ireturn, 1) := by decide +kernel
theorem dX7_changedBy_66 : decode cX7_changedBy 66 = .ok (.bipush (-5), 2) := by decide +kernel
theorem dX7_changedBy_68 : decode cX7_changedBy 68 = .ok (.iconst 5, 1) := by decide +kernel
theorem dX7_changedBy_69 : decode cX7_changedBy 69 = .ok (.bipush 20, 2) := by decide +kernel
theorem dX7_changedBy_71 : decode cX7_changedBy 71 = .ok (.iload_n 1, 1) := by decide +kernel
theorem dX7_changedBy_72 : decode cX7_changedBy 72 = .ok (.isub, 1) := by decide +kernel
theorem dX7_changedBy_73 : decode cX7_changedBy 73 = .ok (.invokestatic 79, 3) := by decide +kernel
theorem dX7_changedBy_76 : decode cX7_changedBy 76 = .ok (.invokestatic 85, 3) := by decide +kernel
theorem dX7_changedBy_79 : decode cX7_changedBy 79 = .ok (.ireturn, 1) := by decide +kernel
theorem dX7_changedBy_80 : decode cX7_changedBy 80 = .ok (.iconst 0, 1) := by decide +kernel
theorem dX7_changedBy_81 : decode cX7_changedBy 81 = .ok (.ireturn, 1) := by decide +kernel
theorem dX7_keptOf_0 : decode cX7_keptOf 0 = .ok (.iload_n 0, 1) := by decide +kernel
theorem dX7_keptOf_1 : decode cX7_keptOf 1 = .ok (.tableswitch 56 1 5 #[35, 39, 45, 45, 53], 35) := by decide +kernel
theorem dX7_keptOf_36 : decode cX7_keptOf 36 = .ok (.iload_n 1, 1) := by decide +kernel
theorem dX7_keptOf_37 : decode cX7_keptOf 37 = .ok (.iconst 5, 1) := by decide +kernel
theorem dX7_keptOf_38 : decode cX7_keptOf 38 = .ok (.iadd, 1) := by decide +kernel
theorem dX7_keptOf_39 : decode cX7_keptOf 39 = .ok (.ireturn, 1) := by decide +kernel
theorem dX7_keptOf_40 : decode cX7_keptOf 40 = .ok (.iload_n 1, 1) := by decide +kernel
theorem dX7_keptOf_41 : decode cX7_keptOf 41 = .ok (.iload_n 2, 1) := by decide +kernel
theorem dX7_keptOf_42 : decode cX7_keptOf 42 = .ok (.iadd, 1) := by decide +kernel
theorem dX7_keptOf_43 : decode cX7_keptOf 43 = .ok (.iconst 2, 1) := by decide +kernel
theorem dX7_keptOf_44 : decode cX7_keptOf 44 = .ok (.idiv, 1) := by decide +kernel
theorem dX7_keptOf_45 : decode cX7_keptOf 45 = .ok (.ireturn, 1) := by decide +kernel
theorem dX7_keptOf_46 : decode cX7_keptOf 46 = .ok (.iload_n 1, 1) := by decide +kernel
theorem dX7_keptOf_47 : decode cX7_keptOf 47 = .ok (.iload_n 2, 1) := by decide +kernel
theorem dX7_keptOf_48 : decode cX7_keptOf 48 = .ok (.iadd, 1) := by decide +kernel
theorem dX7_keptOf_49 : decode cX7_keptOf 49 = .ok (.iconst 2, 1) := by decide +kernel
theorem dX7_keptOf_50 : decode cX7_keptOf 50 = .ok (.idiv, 1) := by decide +kernel
theorem dX7_keptOf_51 : decode cX7_keptOf 51 = .ok (.iconst 3, 1) := by decide +kernel
theorem dX7_keptOf_52 : decode cX7_keptOf 52 = .ok (.iadd, 1) := by decide +kernel
theorem dX7_keptOf_53 : decode cX7_keptOf 53 = .ok (.ireturn, 1) := by decide +kernel
theorem dX7_keptOf_54 : decode cX7_keptOf 54 = .ok (.bipush 20, 2) := by decide +kernel
theorem dX7_keptOf_56 : decode cX7_keptOf 56 = .ok (.ireturn, 1) := by decide +kernel
theorem dX7_keptOf_57 : decode cX7_keptOf 57 = .ok (.iload_n 1, 1) := by decide +kernel
theorem dX7_keptOf_58 : decode cX7_keptOf 58 = .ok (.ireturn, 1) := by decide +kernel
theorem dX7_crosses_0 : decode cX7_crosses 0 = .ok (.aload_n 0, 1) := by decide +kernel
theorem dX7_crosses_1 : decode cX7_crosses 1 = .ok (.iload_n 1, 1) := by decide +kernel
theorem dX7_crosses_2 : decode cX7_crosses 2 = .ok (.iconst 0, 1) := by decide +kernel
theorem dX7_crosses_3 : decode cX7_crosses 3 = .ok (.invokevirtual 113, 3) := by decide +kernel
theorem dX7_crosses_6 : decode cX7_crosses 6 = .ok (.istore_n 2, 1) := by decide +kernel
theorem dX7_crosses_7 : decode cX7_crosses 7 = .ok (.aload_n 0, 1) := by decide +kernel
theorem dX7_crosses_8 : decode cX7_crosses 8 = .ok (.iload_n 1, 1) := by decide +kernel
theorem dX7_crosses_9 : decode cX7_crosses 9 = .ok (.iconst 1, 1) := by decide +kernel
theorem dX7_crosses_10 : decode cX7_crosses 10 = .ok (.invokevirtual 113, 3) := by decide +kernel
theorem dX7_crosses_13 : decode cX7_crosses 13 = .ok (.istore_n 3, 1) := by decide +kernel
theorem dX7_crosses_14 : decode cX7_crosses 14 = .ok (.iconst 0, 1) := by decide +kernel
theorem dX7_crosses_15 : decode cX7_crosses 15 = .ok (.istore 4, 2) := by decide +kernel
theorem dX7_crosses_17 : decode cX7_crosses 17 = .ok (.iload 4, 2) := by decide +kernel
theorem dX7_crosses_19 : decode cX7_crosses 19 = .ok (.bipush 12, 2) := by decide +kernel
theorem dX7_crosses_21 : decode cX7_crosses 21 = .ok (.if_icmp .ge 84, 3) := by decide +kernel
theorem dX7_crosses_24 : decode cX7_crosses 24 = .ok (.aload_n 0, 1) := by decide +kernel
theorem dX7_crosses_25 : decode cX7_crosses 25 = .ok (.iload_n 1, 1) := by decide +kernel
theorem dX7_crosses_26 : decode cX7_crosses 26 = .ok (.iload 4, 2) := by decide +kernel
theorem dX7_crosses_28 : decode cX7_crosses 28 = .ok (.invokevirtual 122, 3) := by decide +kernel
theorem dX7_crosses_31 : decode cX7_crosses 31 = .ok (.ifCond .ne 74, 3) := by decide +kernel
theorem dX7_crosses_34 : decode cX7_crosses 34 = .ok (.aload_n 0, 1) := by decide +kernel
theorem dX7_crosses_35 : decode cX7_crosses 35 = .ok (.iload_n 1, 1) := by decide +kernel
theorem dX7_crosses_36 : decode cX7_crosses 36 = .ok (.iconst 1, 1) := by decide +kernel
theorem dX7_crosses_37 : decode cX7_crosses 37 = .ok (.invokevirtual 113, 3) := by decide +kernel
theorem dX7_crosses_40 : decode cX7_crosses 40 = .ok (.istore 5, 2) := by decide +kernel
theorem dX7_crosses_42 : decode cX7_crosses 42 = .ok (.aload_n 0, 1) := by decide +kernel
theorem dX7_crosses_43 : decode cX7_crosses 43 = .ok (.getfield 9, 3) := by decide +kernel
theorem dX7_crosses_46 : decode cX7_crosses 46 = .ok (.bipush 14, 2) := by decide +kernel
theorem dX7_crosses_48 : decode cX7_crosses 48 = .ok (.iload 4, 2) := by decide +kernel
theorem dX7_crosses_50 : decode cX7_crosses 50 = .ok (.iadd, 1) := by decide +kernel
theorem dX7_crosses_51 : decode cX7_crosses 51 = .ok (.iaload, 1) := by decide +kernel
theorem dX7_crosses_52 : decode cX7_crosses 52 = .ok (.istore 6, 2) := by decide +kernel
theorem dX7_crosses_54 : decode cX7_crosses 54 = .ok (.aload_n 0, 1) := by decide +kernel
theorem dX7_crosses_55 : decode cX7_crosses 55 = .ok (.getfield 9, 3) := by decide +kernel
theorem dX7_crosses_58 : decode cX7_crosses 58 = .ok (.iload_n 1, 1) := by decide +kernel
theorem dX7_crosses_59 : decode cX7_crosses 59 = .ok (.iconst 1, 1) := by decide +kernel
theorem dX7_crosses_60 : decode cX7_crosses 60 = .ok (.invokestatic 92, 3) := by decide +kernel
theorem dX7_crosses_63 : decode cX7_crosses 63 = .ok (.iload 5, 2) := by decide +kernel
theorem dX7_crosses_65 : decode cX7_crosses 65 = .ok (.iload_n 2, 1) := by decide +kernel
theorem dX7_crosses_66 : decode cX7_crosses 66 = .ok (.iload 5, 2) := by decide +kernel
theorem dX7_crosses_68 : decode cX7_crosses 68 = .ok (.iload 6, 2) := by decide +kernel
theorem dX7_crosses_70 : decode cX7_crosses 70 = .ok (.invokestatic 135, 3) := by decide +kernel
theorem dX7_crosses_73 : decode cX7_crosses 73 = .ok (.iadd, 1) := by decide +kernel
theorem dX7_crosses_74 : decode cX7_crosses 74 = .ok (.invokestatic 138, 3) := by decide +kernel
theorem dX7_crosses_77 : decode cX7_crosses 77 = .ok (.iastore, 1) := by decide +kernel
theorem dX7_crosses_78 : decode cX7_crosses 78 = .ok (.aload_n 0, 1) := by decide +kernel
theorem dX7_crosses_79 : decode cX7_crosses 79 = .ok (.getfield 9, 3) := by decide +kernel
theorem dX7_crosses_82 : decode cX7_crosses 82 = .ok (.bipush 14, 2) := by decide +kernel
theorem dX7_crosses_84 : decode cX7_crosses 84 = .ok (.iload 4, 2) := by decide +kernel
theorem dX7_crosses_86 : decode cX7_crosses 86 = .ok (.iadd, 1) := by decide +kernel
theorem dX7_crosses_87 : decode cX7_crosses 87 = .ok (.iload_n 2, 1) := by decide +kernel
theorem dX7_crosses_88 : decode cX7_crosses 88 = .ok (.iload 5, 2) := by decide +kernel
theorem dX7_crosses_90 : decode cX7_crosses 90 = .ok (.iload 6, 2) := by decide +kernel
theorem dX7_crosses_92 : decode cX7_crosses 92 = .ok (.invokestatic 141, 3) := by decide +kernel
theorem dX7_crosses_95 : decode cX7_crosses 95 = .ok (.invokestatic 138, 3) := by decide +kernel
theorem dX7_crosses_98 : decode cX7_crosses 98 = .ok (.iastore, 1) := by decide +kernel
theorem dX7_crosses_99 : decode cX7_crosses 99 = .ok (.iinc 4 1, 3) := by decide +kernel
theorem dX7_crosses_102 : decode cX7_crosses 102 = .ok (.goto (-85), 3) := by decide +kernel
theorem dX7_crosses_105 : decode cX7_crosses 105 = .ok (.iload 4, 2) := by decide +kernel
theorem dX7_crosses_107 : decode cX7_crosses 107 = .ok (.bipush 12, 2) := by decide +kernel
theorem dX7_crosses_109 : decode cX7_crosses 109 = .ok (.if_icmp .ge 38, 3) := by decide +kernel
theorem dX7_crosses_112 : decode cX7_crosses 112 = .ok (.aload_n 0, 1) := by decide +kernel
theorem dX7_crosses_113 : decode cX7_crosses 113 = .ok (.getfield 9, 3) := by decide +kernel
theorem dX7_crosses_116 : decode cX7_crosses 116 = .ok (.iload_n 1, 1) := by decide +kernel
theorem dX7_crosses_117 : decode cX7_crosses 117 = .ok (.iconst 1, 1) := by decide +kernel
theorem dX7_crosses_118 : decode cX7_crosses 118 = .ok (.invokestatic 92, 3) := by decide +kernel
theorem dX7_crosses_121 : decode cX7_crosses 121 = .ok (.iload_n 3, 1) := by decide +kernel
theorem dX7_crosses_122 : decode cX7_crosses 122 = .ok (.iastore, 1) := by decide +kernel
theorem dX7_crosses_123 : decode cX7_crosses 123 = .ok (.aload_n 0, 1) := by decide +kernel
theorem dX7_crosses_124 : decode cX7_crosses 124 = .ok (.getfield 9, 3) := by decide +kernel
theorem dX7_crosses_127 : decode cX7_crosses 127 = .ok (.iload_n 1, 1) := by decide +kernel
theorem dX7_crosses_128 : decode cX7_crosses 128 = .ok (.iconst 3, 1) := by decide +kernel
theorem dX7_crosses_129 : decode cX7_crosses 129 = .ok (.invokestatic 92, 3) := by decide +kernel
theorem dX7_crosses_132 : decode cX7_crosses 132 = .ok (.sipush 9999, 3) := by decide +kernel
theorem dX7_crosses_135 : decode cX7_crosses 135 = .ok (.aload_n 0, 1) := by decide +kernel
theorem dX7_crosses_136 : decode cX7_crosses 136 = .ok (.iload_n 1, 1) := by decide +kernel
theorem dX7_crosses_137 : decode cX7_crosses 137 = .ok (.iconst 3, 1) := by decide +kernel
theorem dX7_crosses_138 : decode cX7_crosses 138 = .ok (.invokevirtual 113, 3) := by decide +kernel
theorem dX7_crosses_141 : decode cX7_crosses 141 = .ok (.iconst 1, 1) := by decide +kernel
theorem dX7_crosses_142 : decode cX7_crosses 142 = .ok (.iadd, 1) := by decide +kernel
theorem dX7_crosses_143 : decode cX7_crosses 143 = .ok (.invokestatic 79, 3) := by decide +kernel
theorem dX7_crosses_146 : decode cX7_crosses 146 = .ok (.iastore, 1) := by decide +kernel
theorem dX7_crosses_147 : decode cX7_crosses 147 = .ok (.aload_n 0, 1) := by decide +kernel
theorem dX7_crosses_148 : decode cX7_crosses 148 = .ok (.getfield 9, 3) := by decide +kernel
theorem dX7_crosses_151 : decode cX7_crosses 151 = .ok (.iconst 0, 1) := by decide +kernel
theorem dX7_crosses_152 : decode cX7_crosses 152 = .ok (.dup2, 1) := by decide +kernel
theorem dX7_crosses_153 : decode cX7_crosses 153 = .ok (.iaload, 1) := by decide +kernel
theorem dX7_crosses_154 : decode cX7_crosses 154 = .ok (.iconst 1, 1) := by decide +kernel
theorem dX7_crosses_155 : decode cX7_crosses 155 = .ok (.iadd, 1) := by decide +kernel
theorem dX7_crosses_156 : decode cX7_crosses 156 = .ok (.iastore, 1) := by decide +kernel
theorem dX7_crosses_157 : decode cX7_crosses 157 = .ok (.iload 4, 2) := by decide +kernel
theorem dX7_crosses_159 : decode cX7_crosses 159 = .ok (.ireturn, 1) := by decide +kernel
theorem dX7_cross_0 : decode cX7_cross 0 = .ok (.aload_n 0, 1) := by decide +kernel
theorem dX7_cross_1 : decode cX7_cross 1 = .ok (.iload_n 1, 1) := by decide +kernel
theorem dX7_cross_2 : decode cX7_cross 2 = .ok (.invokevirtual 126, 3) := by decide +kernel
theorem dX7_cross_5 : decode cX7_cross 5 = .ok (.ifCond .ne 10, 3) := by decide +kernel
theorem dX7_cross_8 : decode cX7_cross 8 = .ok (.aload_n 0, 1) := by decide +kernel
theorem dX7_cross_9 : decode cX7_cross 9 = .ok (.ldc 69, 2) := by decide +kernel
theorem dX7_cross_11 : decode cX7_cross 11 = .ok (.invokevirtual 75, 3) := by decide +kernel
theorem dX7_cross_14 : decode cX7_cross 14 = .ok (.ireturn, 1) := by decide +kernel
theorem dX7_cross_15 : decode cX7_cross 15 = .ok (.aload_n 0, 1) := by decide +kernel
theorem dX7_cross_16 : decode cX7_cross 16 = .ok (.getfield 9, 3) := by decide +kernel
theorem dX7_cross_19 : decode cX7_cross 19 = .ok (.iconst 0, 1) := by decide +kernel
theorem dX7_cross_20 : decode cX7_cross 20 = .ok (.iaload, 1) := by decide +kernel
theorem dX7_cross_21 : decode cX7_cross 21 = .ok (.ldc 144, 2) := by decide +kernel
theorem dX7_cross_23 : decode cX7_cross 23 = .ok (.if_icmp .ne 12, 3) := by decide +kernel
theorem dX7_cross_26 : decode cX7_cross 26 = .ok (.aload_n 0, 1) := by decide +kernel
theorem dX7_cross_27 : decode cX7_cross 27 = .ok (.ldc 145, 2) := by decide +kernel
theorem dX7_cross_29 : decode cX7_cross 29 = .ok (.invokevirtual 75, 3) := by decide +kernel
theorem dX7_cross_32 : decode cX7_cross 32 = .ok (.goto 8, 3) := by decide +kernel
theorem dX7_cross_35 : decode cX7_cross 35 = .ok (.aload_n 0, 1) := by decide +kernel
theorem dX7_cross_36 : decode cX7_cross 36 = .ok (.iload_n 1, 1) := by decide +kernel
theorem dX7_cross_37 : decode cX7_cross 37 = .ok (.invokevirtual 146, 3) := by decide +kernel
theorem dX7_cross_40 : decode cX7_cross 40 = .ok (.ireturn, 1) := by decide +kernel
theorem dX7_isSet_0 : decode cX7_isSet 0 = .ok (.iload_n 1, 1) := by decide +kernel
theorem dX7_isSet_1 : decode cX7_isSet 1 = .ok (.iconst 0, 1) := by decide +kernel
theorem dX7_isSet_2 : decode cX7_isSet 2 = .ok (.iconst 1, 1) := by decide +kernel
theorem dX7_isSet_3 : decode cX7_isSet 3 = .ok (.aload_n 0, 1) := by decide +kernel
theorem dX7_isSet_4 : decode cX7_isSet 4 = .ok (.getfield 9, 3) := by decide +kernel
theorem dX7_isSet_7 : decode cX7_isSet 7 = .ok (.iconst 1, 1) := by decide +kernel
theorem dX7_isSet_8 : decode cX7_isSet 8 = .ok (.iaload, 1) := by decide +kernel
theorem dX7_isSet_9 : decode cX7_isSet 9 = .ok (.ishl, 1) := by decide +kernel
theorem dX7_isSet_10 : decode cX7_isSet 10 = .ok (.iconst 1, 1) := by decide +kernel
theorem dX7_isSet_11 : decode cX7_isSet 11 = .ok (.isub, 1) := by decide +kernel
theorem dX7_isSet_12 : decode cX7_isSet 12 = .ok (.invokestatic 88, 3) := by decide +kernel
theorem dX7_isSet_15 : decode cX7_isSet 15 = .ok (.ireturn, 1) := by decide +kernel
theorem dX7_crowd_0 : decode cX7_crowd 0 = .ok (.aload_n 0, 1) := by decide +kernel
theorem dX7_crowd_1 : decode cX7_crowd 1 = .ok (.iload_n 1, 1) := by decide +kernel
theorem dX7_crowd_2 : decode cX7_crowd 2 = .ok (.invokevirtual 149, 3) := by decide +kernel
theorem dX7_crowd_5 : decode cX7_crowd 5 = .ok (.ifCond .ne 10, 3) := by decide +kernel
theorem dX7_crowd_8 : decode cX7_crowd 8 = .ok (.aload_n 0, 1) := by decide +kernel
theorem dX7_crowd_9 : decode cX7_crowd 9 = .ok (.ldc 69, 2) := by decide +kernel
theorem dX7_crowd_11 : decode cX7_crowd 11 = .ok (.invokevirtual 75, 3) := by decide +kernel
theorem dX7_crowd_14 : decode cX7_crowd 14 = .ok (.ireturn, 1) := by decide +kernel
theorem dX7_crowd_15 : decode cX7_crowd 15 = .ok (.aload_n 0, 1) := by decide +kernel
theorem dX7_crowd_16 : decode cX7_crowd 16 = .ok (.getfield 9, 3) := by decide +kernel
theorem dX7_crowd_19 : decode cX7_crowd 19 = .ok (.iconst 0, 1) := by decide +kernel
theorem dX7_crowd_20 : decode cX7_crowd 20 = .ok (.iaload, 1) := by decide +kernel
theorem dX7_crowd_21 : decode cX7_crowd 21 = .ok (.iload_n 1, 1) := by decide +kernel
theorem dX7_crowd_22 : decode cX7_crowd 22 = .ok (.invokestatic 152, 3) := by decide +kernel
theorem dX7_crowd_25 : decode cX7_crowd 25 = .ok (.iadd, 1) := by decide +kernel
theorem dX7_crowd_26 : decode cX7_crowd 26 = .ok (.ldc 144, 2) := by decide +kernel
theorem dX7_crowd_28 : decode cX7_crowd 28 = .ok (.if_icmp .le 10, 3) := by decide +kernel
theorem dX7_crowd_31 : decode cX7_crowd 31 = .ok (.aload_n 0, 1) := by decide +kernel
theorem dX7_crowd_32 : decode cX7_crowd 32 = .ok (.ldc 145, 2) := by decide +kernel
theorem dX7_crowd_34 : decode cX7_crowd 34 = .ok (.invokevirtual 75, 3) := by decide +kernel
theorem dX7_crowd_37 : decode cX7_crowd 37 = .ok (.ireturn, 1) := by decide +kernel
theorem dX7_crowd_38 : decode cX7_crowd 38 = .ok (.iconst 0, 1) := by decide +kernel
theorem dX7_crowd_39 : decode cX7_crowd 39 = .ok (.istore_n 2, 1) := by decide +kernel
theorem dX7_crowd_40 : decode cX7_crowd 40 = .ok (.iconst 0, 1) := by decide +kernel
theorem dX7_crowd_41 : decode cX7_crowd 41 = .ok (.istore_n 3, 1) := by decide +kernel
theorem dX7_crowd_42 : decode cX7_crowd 42 = .ok (.iload_n 3, 1) := by decide +kernel
theorem dX7_crowd_43 : decode cX7_crowd 43 = .ok (.aload_n 0, 1) := by decide +kernel
theorem dX7_crowd_44 : decode cX7_crowd 44 = .ok (.getfield 9, 3) := by decide +kernel
theorem dX7_crowd_47 : decode cX7_crowd 47 = .ok (.iconst 1, 1) := by decide +kernel
theorem dX7_crowd_48 : decode cX7_crowd 48 = .ok (.iaload, 1) := by decide +kernel
theorem dX7_crowd_49 : decode cX7_crowd 49 = .ok (.if_icmp .ge 35, 3) := by decide +kernel
theorem dX7_crowd_52 : decode cX7_crowd 52 = .ok (.iload_n 2, 1) := by decide +kernel
theorem dX7_crowd_53 : decode cX7_crowd 53 = .ok (.iload_n 1, 1) := by decide +kernel
theorem dX7_crowd_54 : decode cX7_crowd 54 = .ok (.iload_n 3, 1) := by decide +kernel
theorem dX7_crowd_55 : decode cX7_crowd 55 = .ok (.invokestatic 155, 3) := by decide +kernel
theorem dX7_crowd_58 : decode cX7_crowd 58 = .ok (.ifCond .eq 17, 3) := by decide +kernel
theorem dX7_crowd_61 : decode cX7_crowd 61 = .ok (.aload_n 0, 1) := by decide +kernel
theorem dX7_crowd_62 : decode cX7_crowd 62 = .ok (.iload_n 3, 1) := by decide +kernel
theorem dX7_crowd_63 : decode cX7_crowd 63 = .ok (.invokevirtual 146, 3) := by decide +kernel
theorem dX7_crowd_66 : decode cX7_crowd 66 = .ok (.bipush 12, 2) := by decide +kernel
theorem dX7_crowd_68 : decode cX7_crowd 68 = .ok (.if_icmp .ge 7, 3) := by decide +kernel
theorem dX7_crowd_71 : decode cX7_crowd 71 = .ok (.iconst 1, 1) := by decide +kernel
theorem dX7_crowd_72 : decode cX7_crowd 72 = .ok (.goto 4, 3) := by decide +kernel
theorem dX7_crowd_75 : decode cX7_crowd 75 = .ok (.iconst 0, 1) := by decide +kernel
theorem dX7_crowd_76 : decode cX7_crowd 76 = .ok (.iadd, 1) := by decide +kernel
theorem dX7_crowd_77 : decode cX7_crowd 77 = .ok (.istore_n 2, 1) := by decide +kernel
theorem dX7_crowd_78 : decode cX7_crowd 78 = .ok (.iinc 3 1, 3) := by decide +kernel
theorem dX7_crowd_81 : decode cX7_crowd 81 = .ok (.goto (-39), 3) := by decide +kernel
theorem dX7_crowd_84 : decode cX7_crowd 84 = .ok (.iload_n 2, 1) := by decide +kernel
theorem dX7_crowd_85 : decode cX7_crowd 85 = .ok (.ireturn, 1) := by decide +kernel
theorem dX7_sumOf_0 : decode cX7_sumOf 0 = .ok (.iconst 0, 1) := by decide +kernel
theorem dX7_sumOf_1 : decode cX7_sumOf 1 = .ok (.istore_n 2, 1) := by decide +kernel
theorem dX7_sumOf_2 : decode cX7_sumOf 2 = .ok (.iconst 0, 1) := by decide +kernel
theorem dX7_sumOf_3 : decode cX7_sumOf 3 = .ok (.istore_n 3, 1) := by decide +kernel
theorem dX7_sumOf_4 : decode cX7_sumOf 4 = .ok (.iload_n 3, 1) := by decide +kernel
theorem dX7_sumOf_5 : decode cX7_sumOf 5 = .ok (.aload_n 0, 1) := by decide +kernel
theorem dX7_sumOf_6 : decode cX7_sumOf 6 = .ok (.getfield 9, 3) := by decide +kernel
theorem dX7_sumOf_9 : decode cX7_sumOf 9 = .ok (.iconst 1, 1) := by decide +kernel
theorem dX7_sumOf_10 : decode cX7_sumOf 10 = .ok (.iaload, 1) := by decide +kernel
theorem dX7_sumOf_11 : decode cX7_sumOf 11 = .ok (.if_icmp .ge 18, 3) := by decide +kernel
theorem dX7_sumOf_14 : decode cX7_sumOf 14 = .ok (.iload_n 2, 1) := by decide +kernel
theorem dX7_sumOf_15 : decode cX7_sumOf 15 = .ok (.aload_n 0, 1) := by decide +kernel
theorem dX7_sumOf_16 : decode cX7_sumOf 16 = .ok (.iload_n 3, 1) := by decide +kernel
theorem dX7_sumOf_17 : decode cX7_sumOf 17 = .ok (.iload_n 1, 1) := by decide +kernel
theorem dX7_sumOf_18 : decode cX7_sumOf 18 = .ok (.invokevirtual 113, 3) := by decide +kernel
theorem dX7_sumOf_21 : decode cX7_sumOf 21 = .ok (.iadd, 1) := by decide +kernel
theorem dX7_sumOf_22 : decode cX7_sumOf 22 = .ok (.istore_n 2, 1) := by decide +kernel
theorem dX7_sumOf_23 : decode cX7_sumOf 23 = .ok (.iinc 3 1, 3) := by decide +kernel
theorem dX7_sumOf_26 : decode cX7_sumOf 26 = .ok (.goto (-22), 3) := by decide +kernel
theorem dX7_sumOf_29 : decode cX7_sumOf 29 = .ok (.iload_n 2, 1) := by decide +kernel
theorem dX7_sumOf_30 : decode cX7_sumOf 30 = .ok (.ireturn, 1) := by decide +kernel
theorem dX7_keptAll_0 : decode cX7_keptAll 0 = .ok (.iconst 0, 1) := by decide +kernel
theorem dX7_keptAll_1 : decode cX7_keptAll 1 = .ok (.istore_n 1, 1) := by decide +kernel
theorem dX7_keptAll_2 : decode cX7_keptAll 2 = .ok (.iconst 0, 1) := by decide +kernel
theorem dX7_keptAll_3 : decode cX7_keptAll 3 = .ok (.istore_n 2, 1) := by decide +kernel
theorem dX7_keptAll_4 : decode cX7_keptAll 4 = .ok (.iload_n 2, 1) := by decide +kernel
theorem dX7_keptAll_5 : decode cX7_keptAll 5 = .ok (.bipush 12, 2) := by decide +kernel
theorem dX7_keptAll_7 : decode cX7_keptAll 7 = .ok (.if_icmp .ge 21, 3) := by decide +kernel
theorem dX7_keptAll_10 : decode cX7_keptAll 10 = .ok (.iload_n 1, 1) := by decide +kernel
theorem dX7_keptAll_11 : decode cX7_keptAll 11 = .ok (.aload_n 0, 1) := by decide +kernel
theorem dX7_keptAll_12 : decode cX7_keptAll 12 = .ok (.getfield 9, 3) := by decide +kernel
theorem dX7_keptAll_15 : decode cX7_keptAll 15 = .ok (.bipush 14, 2) := by decide +kernel
theorem dX7_keptAll_17 : decode cX7_keptAll 17 = .ok (.iload_n 2, 1) := by decide +kernel
theorem dX7_keptAll_18 : decode cX7_keptAll 18 = .ok (.iadd, 1) := by decide +kernel
theorem dX7_keptAll_19 : decode cX7_keptAll 19 = .ok (.iaload, 1) := by decide +kernel
theorem dX7_keptAll_20 : decode cX7_keptAll 20 = .ok (.iadd, 1) := by decide +kernel
theorem dX7_keptAll_21 : decode cX7_keptAll 21 = .ok (.istore_n 1, 1) := by decide +kernel
theorem dX7_keptAll_22 : decode cX7_keptAll 22 = .ok (.iinc 2 1, 3) := by decide +kernel
theorem dX7_keptAll_25 : decode cX7_keptAll 25 = .ok (.goto (-21), 3) := by decide +kernel
theorem dX7_keptAll_28 : decode cX7_keptAll 28 = .ok (.iload_n 1, 1) := by decide +kernel
theorem dX7_keptAll_29 : decode cX7_keptAll 29 = .ok (.ireturn, 1) := by decide +kernel
theorem dX7_wouldCross_0 : decode cX7_wouldCross 0 = .ok (.aload_n 0, 1) := by decide +kernel
theorem dX7_wouldCross_1 : decode cX7_wouldCross 1 = .ok (.getfield 9, 3) := by decide +kernel
theorem dX7_wouldCross_4 : decode cX7_wouldCross 4 = .ok (.aload_n 0, 1) := by decide +kernel
theorem dX7_wouldCross_5 : decode cX7_wouldCross 5 = .ok (.getfield 16, 3) := by decide +kernel
theorem dX7_wouldCross_8 : decode cX7_wouldCross 8 = .ok (.invokestatic 70, 3) := by decide +kernel
theorem dX7_wouldCross_11 : decode cX7_wouldCross 11 = .ok (.aload_n 0, 1) := by decide +kernel
theorem dX7_wouldCross_12 : decode cX7_wouldCross 12 = .ok (.aload_n 0, 1) := by decide +kernel
theorem dX7_wouldCross_13 : decode cX7_wouldCross 13 = .ok (.iload_n 1, 1) := by decide +kernel
theorem dX7_wouldCross_14 : decode cX7_wouldCross 14 = .ok (.invokevirtual 146, 3) := by decide +kernel
theorem dX7_wouldCross_17 : decode cX7_wouldCross 17 = .ok (.invokevirtual 158, 3) := by decide +kernel
theorem dX7_wouldCross_20 : decode cX7_wouldCross 20 = .ok (.ireturn, 1) := by decide +kernel
theorem dX7_wouldFall_0 : decode cX7_wouldFall 0 = .ok (.iconst 0, 1) := by decide +kernel
theorem dX7_wouldFall_1 : decode cX7_wouldFall 1 = .ok (.istore_n 1, 1) := by decide +kernel
theorem dX7_wouldFall_2 : decode cX7_wouldFall 2 = .ok (.iconst 0, 1) := by decide +kernel
theorem dX7_wouldFall_3 : decode cX7_wouldFall 3 = .ok (.istore_n 2, 1) := by decide +kernel
theorem dX7_wouldFall_4 : decode cX7_wouldFall 4 = .ok (.iload_n 2, 1) := by decide +kernel
theorem dX7_wouldFall_5 : decode cX7_wouldFall 5 = .ok (.aload_n 0, 1) := by decide +kernel
theorem dX7_wouldFall_6 : decode cX7_wouldFall 6 = .ok (.getfield 9, 3) := by decide +kernel
theorem dX7_wouldFall_9 : decode cX7_wouldFall 9 = .ok (.iconst 1, 1) := by decide +kernel
theorem dX7_wouldFall_10 : decode cX7_wouldFall 10 = .ok (.iaload, 1) := by decide +kernel
theorem dX7_wouldFall_11 : decode cX7_wouldFall 11 = .ok (.if_icmp .ge 29, 3) := by decide +kernel
theorem dX7_wouldFall_14 : decode cX7_wouldFall 14 = .ok (.iload_n 1, 1) := by decide +kernel
theorem dX7_wouldFall_15 : decode cX7_wouldFall 15 = .ok (.aload_n 0, 1) := by decide +kernel
theorem dX7_wouldFall_16 : decode cX7_wouldFall 16 = .ok (.iload_n 2, 1) := by decide +kernel
theorem dX7_wouldFall_17 : decode cX7_wouldFall 17 = .ok (.invokevirtual 161, 3) := by decide +kernel
theorem dX7_wouldFall_20 : decode cX7_wouldFall 20 = .ok (.bipush 12, 2) := by decide +kernel
theorem dX7_wouldFall_22 : decode cX7_wouldFall 22 = .ok (.if_icmp .ge 9, 3) := by decide +kernel
theorem dX7_wouldFall_25 : decode cX7_wouldFall 25 = .ok (.iconst 1, 1) := by decide +kernel
theorem dX7_wouldFall_26 : decode cX7_wouldFall 26 = .ok (.iload_n 2, 1) := by decide +kernel
theorem dX7_wouldFall_27 : decode cX7_wouldFall 27 = .ok (.ishl, 1) := by decide +kernel
theorem dX7_wouldFall_28 : decode cX7_wouldFall 28 = .ok (.goto 4, 3) := by decide +kernel
theorem dX7_wouldFall_31 : decode cX7_wouldFall 31 = .ok (.iconst 0, 1) := by decide +kernel
theorem dX7_wouldFall_32 : decode cX7_wouldFall 32 = .ok (.ior, 1) := by decide +kernel
theorem dX7_wouldFall_33 : decode cX7_wouldFall 33 = .ok (.istore_n 1, 1) := by decide +kernel
theorem dX7_wouldFall_34 : decode cX7_wouldFall 34 = .ok (.iinc 2 1, 3) := by decide +kernel
theorem dX7_wouldFall_37 : decode cX7_wouldFall 37 = .ok (.goto (-33), 3) := by decide +kernel
theorem dX7_wouldFall_40 : decode cX7_wouldFall 40 = .ok (.iload_n 1, 1) := by decide +kernel
theorem dX7_wouldFall_41 : decode cX7_wouldFall 41 = .ok (.ireturn, 1) := by decide +kernel
theorem dX7_now_0 : decode cX7_now 0 = .ok (.iload_n 1, 1) := by decide +kernel
theorem dX7_now_1 : decode cX7_now 1 = .ok (.tableswitch 75 0 5 #[39, 46, 51, 56, 63, 69], 39) := by decide +kernel
theorem dX7_now_40 : decode cX7_now 40 = .ok (.aload_n 0, 1) := by decide +kernel
theorem dX7_now_41 : decode cX7_now 41 = .ok (.getfield 9, 3) := by decide +kernel
theorem dX7_now_44 : decode cX7_now 44 = .ok (.iconst 0, 1) := by decide +kernel
theorem dX7_now_45 : decode cX7_now 45 = .ok (.iaload, 1) := by decide +kernel
theorem dX7_now_46 : decode cX7_now 46 = .ok (.ireturn, 1) := by decide +kernel
theorem dX7_now_47 : decode cX7_now 47 = .ok (.aload_n 0, 1) := by decide +kernel
theorem dX7_now_48 : decode cX7_now 48 = .ok (.invokevirtual 164, 3) := by decide +kernel
theorem dX7_now_51 : decode cX7_now 51 = .ok (.ireturn, 1) := by decide +kernel
theorem dX7_now_52 : decode cX7_now 52 = .ok (.aload_n 0, 1) := by decide +kernel
theorem dX7_now_53 : decode cX7_now 53 = .ok (.invokevirtual 168, 3) := by decide +kernel
theorem dX7_now_56 : decode cX7_now 56 = .ok (.ireturn, 1) := by decide +kernel
theorem dX7_now_57 : decode cX7_now 57 = .ok (.aload_n 0, 1) := by decide +kernel
theorem dX7_now_58 : decode cX7_now 58 = .ok (.getfield 9, 3) := by decide +kernel
theorem dX7_now_61 : decode cX7_now 61 = .ok (.iconst 3, 1) := by decide +kernel
theorem dX7_now_62 : decode cX7_now 62 = .ok (.iaload, 1) := by decide +kernel
theorem dX7_now_63 : decode cX7_now 63 = .ok (.ireturn, 1) := by decide +kernel
theorem dX7_now_64 : decode cX7_now 64 = .ok (.aload_n 0, 1) := by decide +kernel
theorem dX7_now_65 : decode cX7_now 65 = .ok (.iconst 3, 1) := by decide +kernel
theorem dX7_now_66 : decode cX7_now 66 = .ok (.invokevirtual 171, 3) := by decide +kernel
theorem dX7_now_69 : decode cX7_now 69 = .ok (.ireturn, 1) := by decide +kernel
theorem dX7_now_70 : decode cX7_now 70 = .ok (.aload_n 0, 1) := by decide +kernel
theorem dX7_now_71 : decode cX7_now 71 = .ok (.iconst 1, 1) := by decide +kernel
theorem dX7_now_72 : decode cX7_now 72 = .ok (.invokevirtual 171, 3) := by decide +kernel
theorem dX7_now_75 : decode cX7_now 75 = .ok (.ireturn, 1) := by decide +kernel
theorem dX7_now_76 : decode cX7_now 76 = .ok (.aload_n 0, 1) := by decide +kernel
theorem dX7_now_77 : decode cX7_now 77 = .ok (.ldc 69, 2) := by decide +kernel
theorem dX7_now_79 : decode cX7_now 79 = .ok (.invokevirtual 75, 3) := by decide +kernel
theorem dX7_now_82 : decode cX7_now 82 = .ok (.ireturn, 1) := by decide +kernel
theorem dX7_would_0 : decode cX7_would 0 = .ok (.aload_n 0, 1) := by decide +kernel
theorem dX7_would_1 : decode cX7_would 1 = .ok (.iload_n 1, 1) := by decide +kernel
theorem dX7_would_2 : decode cX7_would 2 = .ok (.invokevirtual 126, 3) := by decide +kernel
theorem dX7_would_5 : decode cX7_would 5 = .ok (.ifCond .eq 11, 3) := by decide +kernel
theorem dX7_would_8 : decode cX7_would 8 = .ok (.aload_n 0, 1) := by decide +kernel
theorem dX7_would_9 : decode cX7_would 9 = .ok (.iload_n 1, 1) := by decide +kernel
theorem dX7_would_10 : decode cX7_would 10 = .ok (.invokevirtual 161, 3) := by decide +kernel
theorem dX7_would_13 : decode cX7_would 13 = .ok (.goto 9, 3) := by decide +kernel
theorem dX7_would_16 : decode cX7_would 16 = .ok (.aload_n 0, 1) := by decide +kernel
theorem dX7_would_17 : decode cX7_would 17 = .ok (.ldc 69, 2) := by decide +kernel
theorem dX7_would_19 : decode cX7_would 19 = .ok (.invokevirtual 75, 3) := by decide +kernel
theorem dX7_would_22 : decode cX7_would 22 = .ok (.ireturn, 1) := by decide +kernel
theorem dX7_behind_0 : decode cX7_behind 0 = .ok (.aload_n 0, 1) := by decide +kernel
theorem dX7_behind_1 : decode cX7_behind 1 = .ok (.getfield 9, 3) := by decide +kernel
theorem dX7_behind_4 : decode cX7_behind 4 = .ok (.aload_n 0, 1) := by decide +kernel
theorem dX7_behind_5 : decode cX7_behind 5 = .ok (.getfield 16, 3) := by decide +kernel
theorem dX7_behind_8 : decode cX7_behind 8 = .ok (.invokestatic 70, 3) := by decide +kernel
theorem dX7_behind_11 : decode cX7_behind 11 = .ok (.aload_n 0, 1) := by decide +kernel
theorem dX7_behind_12 : decode cX7_behind 12 = .ok (.iload_n 1, 1) := by decide +kernel
theorem dX7_behind_13 : decode cX7_behind 13 = .ok (.invokevirtual 146, 3) := by decide +kernel
theorem dX7_behind_16 : decode cX7_behind 16 = .ok (.istore_n 3, 1) := by decide +kernel
theorem dX7_behind_17 : decode cX7_behind 17 = .ok (.aload_n 0, 1) := by decide +kernel
theorem dX7_behind_18 : decode cX7_behind 18 = .ok (.iload_n 3, 1) := by decide +kernel
theorem dX7_behind_19 : decode cX7_behind 19 = .ok (.ifCond .ge 7, 3) := by decide +kernel
theorem dX7_behind_22 : decode cX7_behind 22 = .ok (.iload_n 3, 1) := by decide +kernel
theorem dX7_behind_23 : decode cX7_behind 23 = .ok (.goto 9, 3) := by decide +kernel
theorem dX7_behind_26 : decode cX7_behind 26 = .ok (.aload_n 0, 1) := by decide +kernel
theorem dX7_behind_27 : decode cX7_behind 27 = .ok (.getfield 9, 3) := by decide +kernel
theorem dX7_behind_30 : decode cX7_behind 30 = .ok (.iload_n 2, 1) := by decide +kernel
theorem dX7_behind_31 : decode cX7_behind 31 = .ok (.iaload, 1) := by decide +kernel
theorem dX7_behind_32 : decode cX7_behind 32 = .ok (.invokevirtual 158, 3) := by decide +kernel
theorem dX7_behind_35 : decode cX7_behind 35 = .ok (.ireturn, 1) := by decide +kernel
theorem dX7_becomes_0 : decode cX7_becomes 0 = .ok (.aload_n 0, 1) := by decide +kernel
theorem dX7_becomes_1 : decode cX7_becomes 1 = .ok (.iload_n 1, 1) := by decide +kernel
theorem dX7_becomes_2 : decode cX7_becomes 2 = .ok (.invokevirtual 126, 3) := by decide +kernel
theorem dX7_becomes_5 : decode cX7_becomes 5 = .ok (.ifCond .eq 16, 3) := by decide +kernel
theorem dX7_becomes_8 : decode cX7_becomes 8 = .ok (.aload_n 0, 1) := by decide +kernel
theorem dX7_becomes_9 : decode cX7_becomes 9 = .ok (.iload_n 1, 1) := by decide +kernel
theorem dX7_becomes_10 : decode cX7_becomes 10 = .ok (.iload_n 1, 1) := by decide +kernel
theorem dX7_becomes_11 : decode cX7_becomes 11 = .ok (.iconst 1, 1) := by decide +kernel
theorem dX7_becomes_12 : decode cX7_becomes 12 = .ok (.invokestatic 92, 3) := by decide +kernel
theorem dX7_becomes_15 : decode cX7_becomes 15 = .ok (.invokevirtual 174, 3) := by decide +kernel
theorem dX7_becomes_18 : decode cX7_becomes 18 = .ok (.goto 9, 3) := by decide +kernel
theorem dX7_becomes_21 : decode cX7_becomes 21 = .ok (.aload_n 0, 1) := by decide +kernel
theorem dX7_becomes_22 : decode cX7_becomes 22 = .ok (.ldc 69, 2) := by decide +kernel
theorem dX7_becomes_24 : decode cX7_becomes 24 = .ok (.invokevirtual 75, 3) := by decide +kernel
theorem dX7_becomes_27 : decode cX7_becomes 27 = .ok (.ireturn, 1) := by decide +kernel
theorem dX7_leaves_0 : decode cX7_leaves 0 = .ok (.aload_n 0, 1) := by decide +kernel
theorem dX7_leaves_1 : decode cX7_leaves 1 = .ok (.iload_n 1, 1) := by decide +kernel
theorem dX7_leaves_2 : decode cX7_leaves 2 = .ok (.invokevirtual 126, 3) := by decide +kernel
theorem dX7_leaves_5 : decode cX7_leaves 5 = .ok (.ifCond .eq 22, 3) := by decide +kernel
theorem dX7_leaves_8 : decode cX7_leaves 8 = .ok (.iload_n 2, 1) := by decide +kernel
theorem dX7_leaves_9 : decode cX7_leaves 9 = .ok (.invokestatic 95, 3) := by decide +kernel
theorem dX7_leaves_12 : decode cX7_leaves 12 = .ok (.ifCond .eq 15, 3) := by decide +kernel
theorem dX7_leaves_15 : decode cX7_leaves 15 = .ok (.aload_n 0, 1) := by decide +kernel
theorem dX7_leaves_16 : decode cX7_leaves 16 = .ok (.iload_n 1, 1) := by decide +kernel
theorem dX7_leaves_17 : decode cX7_leaves 17 = .ok (.bipush 14, 2) := by decide +kernel
theorem dX7_leaves_19 : decode cX7_leaves 19 = .ok (.iload_n 2, 1) := by decide +kernel
theorem dX7_leaves_20 : decode cX7_leaves 20 = .ok (.iadd, 1) := by decide +kernel
theorem dX7_leaves_21 : decode cX7_leaves 21 = .ok (.invokevirtual 174, 3) := by decide +kernel
theorem dX7_leaves_24 : decode cX7_leaves 24 = .ok (.goto 9, 3) := by decide +kernel
theorem dX7_leaves_27 : decode cX7_leaves 27 = .ok (.aload_n 0, 1) := by decide +kernel
theorem dX7_leaves_28 : decode cX7_leaves 28 = .ok (.ldc 69, 2) := by decide +kernel
theorem dX7_leaves_30 : decode cX7_leaves 30 = .ok (.invokevirtual 75, 3) := by decide +kernel
theorem dX7_leaves_33 : decode cX7_leaves 33 = .ok (.ireturn, 1) := by decide +kernel
theorem dX7_areTwo_0 : decode cX7_areTwo 0 = .ok (.aload_n 0, 1) := by decide +kernel
theorem dX7_areTwo_1 : decode cX7_areTwo 1 = .ok (.iload_n 1, 1) := by decide +kernel
theorem dX7_areTwo_2 : decode cX7_areTwo 2 = .ok (.invokevirtual 126, 3) := by decide +kernel
theorem dX7_areTwo_5 : decode cX7_areTwo 5 = .ok (.ifCond .eq 20, 3) := by decide +kernel
theorem dX7_areTwo_8 : decode cX7_areTwo 8 = .ok (.aload_n 0, 1) := by decide +kernel
theorem dX7_areTwo_9 : decode cX7_areTwo 9 = .ok (.iload_n 2, 1) := by decide +kernel
theorem dX7_areTwo_10 : decode cX7_areTwo 10 = .ok (.invokevirtual 126, 3) := by decide +kernel
theorem dX7_areTwo_13 : decode cX7_areTwo 13 = .ok (.ifCond .eq 12, 3) := by decide +kernel
theorem dX7_areTwo_16 : decode cX7_areTwo 16 = .ok (.iload_n 1, 1) := by decide +kernel
theorem dX7_areTwo_17 : decode cX7_areTwo 17 = .ok (.iload_n 2, 1) := by decide +kernel
theorem dX7_areTwo_18 : decode cX7_areTwo 18 = .ok (.if_icmp .eq 7, 3) := by decide +kernel
theorem dX7_areTwo_21 : decode cX7_areTwo 21 = .ok (.iconst 1, 1) := by decide +kernel
theorem dX7_areTwo_22 : decode cX7_areTwo 22 = .ok (.goto 4, 3) := by decide +kernel
theorem dX7_areTwo_25 : decode cX7_areTwo 25 = .ok (.iconst 0, 1) := by decide +kernel
theorem dX7_areTwo_26 : decode cX7_areTwo 26 = .ok (.ireturn, 1) := by decide +kernel
theorem dX7_after_0 : decode cX7_after 0 = .ok (.aload_n 0, 1) := by decide +kernel
theorem dX7_after_1 : decode cX7_after 1 = .ok (.iload_n 1, 1) := by decide +kernel
theorem dX7_after_2 : decode cX7_after 2 = .ok (.iload_n 2, 1) := by decide +kernel
theorem dX7_after_3 : decode cX7_after 3 = .ok (.invokevirtual 177, 3) := by decide +kernel
theorem dX7_after_6 : decode cX7_after 6 = .ok (.ifCond .ne 10, 3) := by decide +kernel
theorem dX7_after_9 : decode cX7_after 9 = .ok (.aload_n 0, 1) := by decide +kernel
theorem dX7_after_10 : decode cX7_after 10 = .ok (.ldc 69, 2) := by decide +kernel
theorem dX7_after_12 : decode cX7_after 12 = .ok (.invokevirtual 75, 3) := by decide +kernel
theorem dX7_after_15 : decode cX7_after 15 = .ok (.ireturn, 1) := by decide +kernel
theorem dX7_after_16 : decode cX7_after 16 = .ok (.aload_n 0, 1) := by decide +kernel
theorem dX7_after_17 : decode cX7_after 17 = .ok (.getfield 9, 3) := by decide +kernel
theorem dX7_after_20 : decode cX7_after 20 = .ok (.aload_n 0, 1) := by decide +kernel
theorem dX7_after_21 : decode cX7_after 21 = .ok (.getfield 16, 3) := by decide +kernel
theorem dX7_after_24 : decode cX7_after 24 = .ok (.invokestatic 70, 3) := by decide +kernel
theorem dX7_after_27 : decode cX7_after 27 = .ok (.aload_n 0, 1) := by decide +kernel
theorem dX7_after_28 : decode cX7_after 28 = .ok (.iload_n 2, 1) := by decide +kernel
theorem dX7_after_29 : decode cX7_after 29 = .ok (.invokevirtual 146, 3) := by decide +kernel
theorem dX7_after_32 : decode cX7_after 32 = .ok (.istore_n 3, 1) := by decide +kernel
theorem dX7_after_33 : decode cX7_after 33 = .ok (.aload_n 0, 1) := by decide +kernel
theorem dX7_after_34 : decode cX7_after 34 = .ok (.iload_n 3, 1) := by decide +kernel
theorem dX7_after_35 : decode cX7_after 35 = .ok (.ifCond .ge 7, 3) := by decide +kernel
theorem dX7_after_38 : decode cX7_after 38 = .ok (.iload_n 3, 1) := by decide +kernel
theorem dX7_after_39 : decode cX7_after 39 = .ok (.goto 8, 3) := by decide +kernel
theorem dX7_after_42 : decode cX7_after 42 = .ok (.aload_n 0, 1) := by decide +kernel
theorem dX7_after_43 : decode cX7_after 43 = .ok (.iload_n 1, 1) := by decide +kernel
theorem dX7_after_44 : decode cX7_after 44 = .ok (.invokevirtual 146, 3) := by decide +kernel
theorem dX7_after_47 : decode cX7_after 47 = .ok (.invokevirtual 158, 3) := by decide +kernel
theorem dX7_after_50 : decode cX7_after 50 = .ok (.ireturn, 1) := by decide +kernel
theorem dX7_often_0 : decode cX7_often 0 = .ok (.aload_n 0, 1) := by decide +kernel
theorem dX7_often_1 : decode cX7_often 1 = .ok (.iload_n 1, 1) := by decide +kernel
theorem dX7_often_2 : decode cX7_often 2 = .ok (.invokevirtual 126, 3) := by decide +kernel
theorem dX7_often_5 : decode cX7_often 5 = .ok (.ifCond .ne 10, 3) := by decide +kernel
theorem dX7_often_8 : decode cX7_often 8 = .ok (.aload_n 0, 1) := by decide +kernel
theorem dX7_often_9 : decode cX7_often 9 = .ok (.ldc 69, 2) := by decide +kernel
theorem dX7_often_11 : decode cX7_often 11 = .ok (.invokevirtual 75, 3) := by decide +kernel
theorem dX7_often_14 : decode cX7_often 14 = .ok (.ireturn, 1) := by decide +kernel
theorem dX7_often_15 : decode cX7_often 15 = .ok (.aload_n 0, 1) := by decide +kernel
theorem dX7_often_16 : decode cX7_often 16 = .ok (.getfield 9, 3) := by decide +kernel
theorem dX7_often_19 : decode cX7_often 19 = .ok (.aload_n 0, 1) := by decide +kernel
theorem dX7_often_20 : decode cX7_often 20 = .ok (.getfield 16, 3) := by decide +kernel
theorem dX7_often_23 : decode cX7_often 23 = .ok (.invokestatic 70, 3) := by decide +kernel
theorem dX7_often_26 : decode cX7_often 26 = .ok (.iconst 0, 1) := by decide +kernel
theorem dX7_often_27 : decode cX7_often 27 = .ok (.istore_n 2, 1) := by decide +kernel
theorem dX7_often_28 : decode cX7_often 28 = .ok (.iload_n 2, 1) := by decide +kernel
theorem dX7_often_29 : decode cX7_often 29 = .ok (.bipush 60, 2) := by decide +kernel
theorem dX7_often_31 : decode cX7_often 31 = .ok (.if_icmp .ge 19, 3) := by decide +kernel
theorem dX7_often_34 : decode cX7_often 34 = .ok (.aload_n 0, 1) := by decide +kernel
theorem dX7_often_35 : decode cX7_often 35 = .ok (.iload_n 1, 1) := by decide +kernel
theorem dX7_often_36 : decode cX7_often 36 = .ok (.invokevirtual 146, 3) := by decide +kernel
theorem dX7_often_39 : decode cX7_often 39 = .ok (.bipush 12, 2) := by decide +kernel
theorem dX7_often_41 : decode cX7_often 41 = .ok (.if_icmp .ne 9, 3) := by decide +kernel
theorem dX7_often_44 : decode cX7_often 44 = .ok (.iinc 2 1, 3) := by decide +kernel
theorem dX7_often_47 : decode cX7_often 47 = .ok (.goto (-19), 3) := by decide +kernel
theorem dX7_often_50 : decode cX7_often 50 = .ok (.aload_n 0, 1) := by decide +kernel
theorem dX7_often_51 : decode cX7_often 51 = .ok (.iload_n 2, 1) := by decide +kernel
theorem dX7_often_52 : decode cX7_often 52 = .ok (.invokevirtual 158, 3) := by decide +kernel
theorem dX7_often_55 : decode cX7_often 55 = .ok (.ireturn, 1) := by decide +kernel
theorem dX7_crossing_0 : decode cX7_crossing 0 = .ok (.aload_n 0, 1) := by decide +kernel
theorem dX7_crossing_1 : decode cX7_crossing 1 = .ok (.getfield 9, 3) := by decide +kernel
theorem dX7_crossing_4 : decode cX7_crossing 4 = .ok (.iload_n 2, 1) := by decide +kernel
theorem dX7_crossing_5 : decode cX7_crossing 5 = .ok (.iaload, 1) := by decide +kernel
theorem dX7_crossing_6 : decode cX7_crossing 6 = .ok (.istore 4, 2) := by decide +kernel
theorem dX7_crossing_8 : decode cX7_crossing 8 = .ok (.iconst 0, 1) := by decide +kernel
theorem dX7_crossing_9 : decode cX7_crossing 9 = .ok (.istore 5, 2) := by decide +kernel
theorem dX7_crossing_11 : decode cX7_crossing 11 = .ok (.iconst 0, 1) := by decide +kernel
theorem dX7_crossing_12 : decode cX7_crossing 12 = .ok (.istore 6, 2) := by decide +kernel
theorem dX7_crossing_14 : decode cX7_crossing 14 = .ok (.iload 6, 2) := by decide +kernel
theorem dX7_crossing_16 : decode cX7_crossing 16 = .ok (.iload_n 3, 1) := by decide +kernel
theorem dX7_crossing_17 : decode cX7_crossing 17 = .ok (.if_icmp .ge 37, 3) := by decide +kernel
theorem dX7_crossing_20 : decode cX7_crossing 20 = .ok (.aload_n 0, 1) := by decide +kernel
theorem dX7_crossing_21 : decode cX7_crossing 21 = .ok (.getfield 9, 3) := by decide +kernel
theorem dX7_crossing_24 : decode cX7_crossing 24 = .ok (.iload_n 2, 1) := by decide +kernel
theorem dX7_crossing_25 : decode cX7_crossing 25 = .ok (.iload 6, 2) := by decide +kernel
theorem dX7_crossing_27 : decode cX7_crossing 27 = .ok (.iastore, 1) := by decide +kernel
theorem dX7_crossing_28 : decode cX7_crossing 28 = .ok (.iload 5, 2) := by decide +kernel
theorem dX7_crossing_30 : decode cX7_crossing 30 = .ok (.aload_n 0, 1) := by decide +kernel
theorem dX7_crossing_31 : decode cX7_crossing 31 = .ok (.iload_n 1, 1) := by decide +kernel
theorem dX7_crossing_32 : decode cX7_crossing 32 = .ok (.invokevirtual 161, 3) := by decide +kernel
theorem dX7_crossing_35 : decode cX7_crossing 35 = .ok (.bipush 12, 2) := by decide +kernel
theorem dX7_crossing_37 : decode cX7_crossing 37 = .ok (.if_icmp .ne 7, 3) := by decide +kernel
theorem dX7_crossing_40 : decode cX7_crossing 40 = .ok (.iconst 1, 1) := by decide +kernel
theorem dX7_crossing_41 : decode cX7_crossing 41 = .ok (.goto 4, 3) := by decide +kernel
theorem dX7_crossing_44 : decode cX7_crossing 44 = .ok (.iconst 0, 1) := by decide +kernel
theorem dX7_crossing_45 : decode cX7_crossing 45 = .ok (.iadd, 1) := by decide +kernel
theorem dX7_crossing_46 : decode cX7_crossing 46 = .ok (.istore 5, 2) := by decide +kernel
theorem dX7_crossing_48 : decode cX7_crossing 48 = .ok (.iinc 6 1, 3) := by decide +kernel
theorem dX7_crossing_51 : decode cX7_crossing 51 = .ok (.goto (-37), 3) := by decide +kernel
theorem dX7_crossing_54 : decode cX7_crossing 54 = .ok (.aload_n 0, 1) := by decide +kernel
theorem dX7_crossing_55 : decode cX7_crossing 55 = .ok (.getfield 9, 3) := by decide +kernel
theorem dX7_crossing_58 : decode cX7_crossing 58 = .ok (.iload_n 2, 1) := by decide +kernel
theorem dX7_crossing_59 : decode cX7_crossing 59 = .ok (.iload 4, 2) := by decide +kernel
theorem dX7_crossing_61 : decode cX7_crossing 61 = .ok (.iastore, 1) := by decide +kernel
theorem dX7_crossing_62 : decode cX7_crossing 62 = .ok (.iload 5, 2) := by decide +kernel
theorem dX7_crossing_64 : decode cX7_crossing 64 = .ok (.ireturn, 1) := by decide +kernel
theorem dX7_leastCrossing_0 : decode cX7_leastCrossing 0 = .ok (.aload_n 0, 1) := by decide +kernel
theorem dX7_leastCrossing_1 : decode cX7_leastCrossing 1 = .ok (.getfield 9, 3) := by decide +kernel
theorem dX7_leastCrossing_4 : decode cX7_leastCrossing 4 = .ok (.iload_n 2, 1) := by decide +kernel
theorem dX7_leastCrossing_5 : decode cX7_leastCrossing 5 = .ok (.iaload, 1) := by decide +kernel
theorem dX7_leastCrossing_6 : decode cX7_leastCrossing 6 = .ok (.istore 4, 2) := by decide +kernel
theorem dX7_leastCrossing_8 : decode cX7_leastCrossing 8 = .ok (.iconst (-1), 1) := by decide +kernel
theorem dX7_leastCrossing_9 : decode cX7_leastCrossing 9 = .ok (.istore 5, 2) := by decide +kernel
theorem dX7_leastCrossing_11 : decode cX7_leastCrossing 11 = .ok (.iload_n 3, 1) := by decide +kernel
theorem dX7_leastCrossing_12 : decode cX7_leastCrossing 12 = .ok (.iconst 1, 1) := by decide +kernel
theorem dX7_leastCrossing_13 : decode cX7_leastCrossing 13 = .ok (.isub, 1) := by decide +kernel
theorem dX7_leastCrossing_14 : decode cX7_leastCrossing 14 = .ok (.istore 6, 2) := by decide +kernel
theorem dX7_leastCrossing_16 : decode cX7_leastCrossing 16 = .ok (.iload 6, 2) := by decide +kernel
theorem dX7_leastCrossing_18 : decode cX7_leastCrossing 18 = .ok (.ifCond .lt 36, 3) := by decide +kernel
theorem dX7_leastCrossing_21 : decode cX7_leastCrossing 21 = .ok (.aload_n 0, 1) := by decide +kernel
theorem dX7_leastCrossing_22 : decode cX7_leastCrossing 22 = .ok (.getfield 9, 3) := by decide +kernel
theorem dX7_leastCrossing_25 : decode cX7_leastCrossing 25 = .ok (.iload_n 2, 1) := by decide +kernel
theorem dX7_leastCrossing_26 : decode cX7_leastCrossing 26 = .ok (.iload 6, 2) := by decide +kernel
theorem dX7_leastCrossing_28 : decode cX7_leastCrossing 28 = .ok (.iastore, 1) := by decide +kernel
theorem dX7_leastCrossing_29 : decode cX7_leastCrossing 29 = .ok (.aload_n 0, 1) := by decide +kernel
theorem dX7_leastCrossing_30 : decode cX7_leastCrossing 30 = .ok (.iload_n 1, 1) := by decide +kernel
theorem dX7_leastCrossing_31 : decode cX7_leastCrossing 31 = .ok (.invokevirtual 161, 3) := by decide +kernel
theorem dX7_leastCrossing_34 : decode cX7_leastCrossing 34 = .ok (.bipush 12, 2) := by decide +kernel
theorem dX7_leastCrossing_36 : decode cX7_leastCrossing 36 = .ok (.if_icmp .ne 8, 3) := by decide +kernel
theorem dX7_leastCrossing_39 : decode cX7_leastCrossing 39 = .ok (.iload 6, 2) := by decide +kernel
theorem dX7_leastCrossing_41 : decode cX7_leastCrossing 41 = .ok (.goto 5, 3) := by decide +kernel
theorem dX7_leastCrossing_44 : decode cX7_leastCrossing 44 = .ok (.iload 5, 2) := by decide +kernel
theorem dX7_leastCrossing_46 : decode cX7_leastCrossing 46 = .ok (.istore 5, 2) := by decide +kernel
theorem dX7_leastCrossing_48 : decode cX7_leastCrossing 48 = .ok (.iinc 6 (-1), 3) := by decide +kernel
theorem dX7_leastCrossing_51 : decode cX7_leastCrossing 51 = .ok (.goto (-35), 3) := by decide +kernel
theorem dX7_leastCrossing_54 : decode cX7_leastCrossing 54 = .ok (.aload_n 0, 1) := by decide +kernel
theorem dX7_leastCrossing_55 : decode cX7_leastCrossing 55 = .ok (.getfield 9, 3) := by decide +kernel
theorem dX7_leastCrossing_58 : decode cX7_leastCrossing 58 = .ok (.iload_n 2, 1) := by decide +kernel
theorem dX7_leastCrossing_59 : decode cX7_leastCrossing 59 = .ok (.iload 4, 2) := by decide +kernel
theorem dX7_leastCrossing_61 : decode cX7_leastCrossing 61 = .ok (.iastore, 1) := by decide +kernel
theorem dX7_leastCrossing_62 : decode cX7_leastCrossing 62 = .ok (.iload 5, 2) := by decide +kernel
theorem dX7_leastCrossing_64 : decode cX7_leastCrossing 64 = .ok (.ireturn, 1) := by decide +kernel
theorem dX7_balanceFor_0 : decode cX7_balanceFor 0 = .ok (.aload_n 0, 1) := by decide +kernel
theorem dX7_balanceFor_1 : decode cX7_balanceFor 1 = .ok (.iload_n 1, 1) := by decide +kernel
theorem dX7_balanceFor_2 : decode cX7_balanceFor 2 = .ok (.invokevirtual 126, 3) := by decide +kernel
theorem dX7_balanceFor_5 : decode cX7_balanceFor 5 = .ok (.ifCond .eq 22, 3) := by decide +kernel
theorem dX7_balanceFor_8 : decode cX7_balanceFor 8 = .ok (.aload_n 0, 1) := by decide +kernel
theorem dX7_balanceFor_9 : decode cX7_balanceFor 9 = .ok (.aload_n 0, 1) := by decide +kernel
theorem dX7_balanceFor_10 : decode cX7_balanceFor 10 = .ok (.iload_n 1, 1) := by decide +kernel
theorem dX7_balanceFor_11 : decode cX7_balanceFor 11 = .ok (.iload_n 1, 1) := by decide +kernel
theorem dX7_balanceFor_12 : decode cX7_balanceFor 12 = .ok (.iconst 2, 1) := by decide +kernel
theorem dX7_balanceFor_13 : decode cX7_balanceFor 13 = .ok (.invokestatic 92, 3) := by decide +kernel
theorem dX7_balanceFor_16 : decode cX7_balanceFor 16 = .ok (.bipush 100, 2) := by decide +kernel
theorem dX7_balanceFor_18 : decode cX7_balanceFor 18 = .ok (.invokevirtual 180, 3) := by decide +kernel
theorem dX7_balanceFor_21 : decode cX7_balanceFor 21 = .ok (.invokevirtual 183, 3) := by decide +kernel
theorem dX7_balanceFor_24 : decode cX7_balanceFor 24 = .ok (.goto 9, 3) := by decide +kernel
theorem dX7_balanceFor_27 : decode cX7_balanceFor 27 = .ok (.aload_n 0, 1) := by decide +kernel
theorem dX7_balanceFor_28 : decode cX7_balanceFor 28 = .ok (.ldc 69, 2) := by decide +kernel
theorem dX7_balanceFor_30 : decode cX7_balanceFor 30 = .ok (.invokevirtual 75, 3) := by decide +kernel
theorem dX7_balanceFor_33 : decode cX7_balanceFor 33 = .ok (.ireturn, 1) := by decide +kernel
theorem dX7_gaits_0 : decode cX7_gaits 0 = .ok (.aload_n 0, 1) := by decide +kernel
theorem dX7_gaits_1 : decode cX7_gaits 1 = .ok (.iload_n 1, 1) := by decide +kernel
theorem dX7_gaits_2 : decode cX7_gaits 2 = .ok (.invokevirtual 126, 3) := by decide +kernel
theorem dX7_gaits_5 : decode cX7_gaits 5 = .ok (.ifCond .eq 18, 3) := by decide +kernel
theorem dX7_gaits_8 : decode cX7_gaits 8 = .ok (.aload_n 0, 1) := by decide +kernel
theorem dX7_gaits_9 : decode cX7_gaits 9 = .ok (.iload_n 1, 1) := by decide +kernel
theorem dX7_gaits_10 : decode cX7_gaits 10 = .ok (.iload_n 1, 1) := by decide +kernel
theorem dX7_gaits_11 : decode cX7_gaits 11 = .ok (.iconst 1, 1) := by decide +kernel
theorem dX7_gaits_12 : decode cX7_gaits 12 = .ok (.invokestatic 92, 3) := by decide +kernel
theorem dX7_gaits_15 : decode cX7_gaits 15 = .ok (.bipush 100, 2) := by decide +kernel
theorem dX7_gaits_17 : decode cX7_gaits 17 = .ok (.invokevirtual 186, 3) := by decide +kernel
theorem dX7_gaits_20 : decode cX7_gaits 20 = .ok (.goto 9, 3) := by decide +kernel
theorem dX7_gaits_23 : decode cX7_gaits 23 = .ok (.aload_n 0, 1) := by decide +kernel
theorem dX7_gaits_24 : decode cX7_gaits 24 = .ok (.ldc 69, 2) := by decide +kernel
theorem dX7_gaits_26 : decode cX7_gaits 26 = .ok (.invokevirtual 75, 3) := by decide +kernel
theorem dX7_gaits_29 : decode cX7_gaits 29 = .ok (.ireturn, 1) := by decide +kernel
theorem dX7_gaitFor_0 : decode cX7_gaitFor 0 = .ok (.aload_n 0, 1) := by decide +kernel
theorem dX7_gaitFor_1 : decode cX7_gaitFor 1 = .ok (.iload_n 1, 1) := by decide +kernel
theorem dX7_gaitFor_2 : decode cX7_gaitFor 2 = .ok (.invokevirtual 126, 3) := by decide +kernel
theorem dX7_gaitFor_5 : decode cX7_gaitFor 5 = .ok (.ifCond .eq 22, 3) := by decide +kernel
theorem dX7_gaitFor_8 : decode cX7_gaitFor 8 = .ok (.aload_n 0, 1) := by decide +kernel
theorem dX7_gaitFor_9 : decode cX7_gaitFor 9 = .ok (.aload_n 0, 1) := by decide +kernel
theorem dX7_gaitFor_10 : decode cX7_gaitFor 10 = .ok (.iload_n 1, 1) := by decide +kernel
theorem dX7_gaitFor_11 : decode cX7_gaitFor 11 = .ok (.iload_n 1, 1) := by decide +kernel
theorem dX7_gaitFor_12 : decode cX7_gaitFor 12 = .ok (.iconst 1, 1) := by decide +kernel
theorem dX7_gaitFor_13 : decode cX7_gaitFor 13 = .ok (.invokestatic 92, 3) := by decide +kernel
theorem dX7_gaitFor_16 : decode cX7_gaitFor 16 = .ok (.bipush 100, 2) := by decide +kernel
theorem dX7_gaitFor_18 : decode cX7_gaitFor 18 = .ok (.invokevirtual 180, 3) := by decide +kernel
theorem dX7_gaitFor_21 : decode cX7_gaitFor 21 = .ok (.invokevirtual 183, 3) := by decide +kernel
theorem dX7_gaitFor_24 : decode cX7_gaitFor 24 = .ok (.goto 9, 3) := by decide +kernel
theorem dX7_gaitFor_27 : decode cX7_gaitFor 27 = .ok (.aload_n 0, 1) := by decide +kernel
theorem dX7_gaitFor_28 : decode cX7_gaitFor 28 = .ok (.ldc 69, 2) := by decide +kernel
theorem dX7_gaitFor_30 : decode cX7_gaitFor 30 = .ok (.invokevirtual 75, 3) := by decide +kernel
theorem dX7_gaitFor_33 : decode cX7_gaitFor 33 = .ok (.ireturn, 1) := by decide +kernel
theorem dX7_kindsFor_0 : decode cX7_kindsFor 0 = .ok (.aload_n 0, 1) := by decide +kernel
theorem dX7_kindsFor_1 : decode cX7_kindsFor 1 = .ok (.iload_n 1, 1) := by decide +kernel
theorem dX7_kindsFor_2 : decode cX7_kindsFor 2 = .ok (.invokevirtual 126, 3) := by decide +kernel
theorem dX7_kindsFor_5 : decode cX7_kindsFor 5 = .ok (.ifCond .ne 10, 3) := by decide +kernel
theorem dX7_kindsFor_8 : decode cX7_kindsFor 8 = .ok (.aload_n 0, 1) := by decide +kernel
theorem dX7_kindsFor_9 : decode cX7_kindsFor 9 = .ok (.ldc 69, 2) := by decide +kernel
theorem dX7_kindsFor_11 : decode cX7_kindsFor 11 = .ok (.invokevirtual 75, 3) := by decide +kernel
theorem dX7_kindsFor_14 : decode cX7_kindsFor 14 = .ok (.ireturn, 1) := by decide +kernel
theorem dX7_kindsFor_15 : decode cX7_kindsFor 15 = .ok (.aload_n 0, 1) := by decide +kernel
theorem dX7_kindsFor_16 : decode cX7_kindsFor 16 = .ok (.iload_n 1, 1) := by decide +kernel
theorem dX7_kindsFor_17 : decode cX7_kindsFor 17 = .ok (.iconst 0, 1) := by decide +kernel
theorem dX7_kindsFor_18 : decode cX7_kindsFor 18 = .ok (.invokevirtual 113, 3) := by decide +kernel
theorem dX7_kindsFor_21 : decode cX7_kindsFor 21 = .ok (.istore_n 2, 1) := by decide +kernel
theorem dX7_kindsFor_22 : decode cX7_kindsFor 22 = .ok (.iconst 0, 1) := by decide +kernel
theorem dX7_kindsFor_23 : decode cX7_kindsFor 23 = .ok (.istore_n 3, 1) := by decide +kernel
theorem dX7_kindsFor_24 : decode cX7_kindsFor 24 = .ok (.iconst 0, 1) := by decide +kernel
theorem dX7_kindsFor_25 : decode cX7_kindsFor 25 = .ok (.istore 4, 2) := by decide +kernel
theorem dX7_kindsFor_27 : decode cX7_kindsFor 27 = .ok (.iload 4, 2) := by decide +kernel
theorem dX7_kindsFor_29 : decode cX7_kindsFor 29 = .ok (.bipush 6, 2) := by decide +kernel
theorem dX7_kindsFor_31 : decode cX7_kindsFor 31 = .ok (.if_icmp .gt 42, 3) := by decide +kernel
theorem dX7_kindsFor_34 : decode cX7_kindsFor 34 = .ok (.aload_n 0, 1) := by decide +kernel
theorem dX7_kindsFor_35 : decode cX7_kindsFor 35 = .ok (.getfield 9, 3) := by decide +kernel
theorem dX7_kindsFor_38 : decode cX7_kindsFor 38 = .ok (.iload_n 1, 1) := by decide +kernel
theorem dX7_kindsFor_39 : decode cX7_kindsFor 39 = .ok (.iconst 0, 1) := by decide +kernel
theorem dX7_kindsFor_40 : decode cX7_kindsFor 40 = .ok (.invokestatic 92, 3) := by decide +kernel
theorem dX7_kindsFor_43 : decode cX7_kindsFor 43 = .ok (.iload 4, 2) := by decide +kernel
theorem dX7_kindsFor_45 : decode cX7_kindsFor 45 = .ok (.iastore, 1) := by decide +kernel
theorem dX7_kindsFor_46 : decode cX7_kindsFor 46 = .ok (.iload_n 3, 1) := by decide +kernel
theorem dX7_kindsFor_47 : decode cX7_kindsFor 47 = .ok (.aload_n 0, 1) := by decide +kernel
theorem dX7_kindsFor_48 : decode cX7_kindsFor 48 = .ok (.iload_n 1, 1) := by decide +kernel
theorem dX7_kindsFor_49 : decode cX7_kindsFor 49 = .ok (.invokevirtual 161, 3) := by decide +kernel
theorem dX7_kindsFor_52 : decode cX7_kindsFor 52 = .ok (.bipush 12, 2) := by decide +kernel
theorem dX7_kindsFor_54 : decode cX7_kindsFor 54 = .ok (.if_icmp .ne 10, 3) := by decide +kernel
theorem dX7_kindsFor_57 : decode cX7_kindsFor 57 = .ok (.iconst 1, 1) := by decide +kernel
theorem dX7_kindsFor_58 : decode cX7_kindsFor 58 = .ok (.iload 4, 2) := by decide +kernel
theorem dX7_kindsFor_60 : decode cX7_kindsFor 60 = .ok (.ishl, 1) := by decide +kernel
theorem dX7_kindsFor_61 : decode cX7_kindsFor 61 = .ok (.goto 4, 3) := by decide +kernel
theorem dX7_kindsFor_64 : decode cX7_kindsFor 64 = .ok (.iconst 0, 1) := by decide +kernel
theorem dX7_kindsFor_65 : decode cX7_kindsFor 65 = .ok (.ior, 1) := by decide +kernel
theorem dX7_kindsFor_66 : decode cX7_kindsFor 66 = .ok (.istore_n 3, 1) := by decide +kernel
theorem dX7_kindsFor_67 : decode cX7_kindsFor 67 = .ok (.iinc 4 1, 3) := by decide +kernel
theorem dX7_kindsFor_70 : decode cX7_kindsFor 70 = .ok (.goto (-43), 3) := by decide +kernel
theorem dX7_kindsFor_73 : decode cX7_kindsFor 73 = .ok (.aload_n 0, 1) := by decide +kernel
theorem dX7_kindsFor_74 : decode cX7_kindsFor 74 = .ok (.getfield 9, 3) := by decide +kernel
theorem dX7_kindsFor_77 : decode cX7_kindsFor 77 = .ok (.iload_n 1, 1) := by decide +kernel
theorem dX7_kindsFor_78 : decode cX7_kindsFor 78 = .ok (.iconst 0, 1) := by decide +kernel
theorem dX7_kindsFor_79 : decode cX7_kindsFor 79 = .ok (.invokestatic 92, 3) := by decide +kernel
theorem dX7_kindsFor_82 : decode cX7_kindsFor 82 = .ok (.iload_n 2, 1) := by decide +kernel
theorem dX7_kindsFor_83 : decode cX7_kindsFor 83 = .ok (.iastore, 1) := by decide +kernel
theorem dX7_kindsFor_84 : decode cX7_kindsFor 84 = .ok (.iload_n 3, 1) := by decide +kernel
theorem dX7_kindsFor_85 : decode cX7_kindsFor 85 = .ok (.ireturn, 1) := by decide +kernel
theorem dX7_lay0_0 : decode cX7_lay0 0 = .ok (.iconst 0, 1) := by decide +kernel
theorem dX7_lay0_1 : decode cX7_lay0 1 = .ok (.istore_n 2, 1) := by decide +kernel
theorem dX7_lay0_2 : decode cX7_lay0 2 = .ok (.iload_n 2, 1) := by decide +kernel
theorem dX7_lay0_3 : decode cX7_lay0 3 = .ok (.bipush 50, 2) := by decide +kernel
theorem dX7_lay0_5 : decode cX7_lay0 5 = .ok (.if_icmp .ge 26, 3) := by decide +kernel
theorem dX7_lay0_8 : decode cX7_lay0 8 = .ok (.aload_n 0, 1) := by decide +kernel
theorem dX7_lay0_9 : decode cX7_lay0 9 = .ok (.getfield 22, 3) := by decide +kernel
theorem dX7_lay0_12 : decode cX7_lay0 12 = .ok (.bipush 50, 2) := by decide +kernel
theorem dX7_lay0_14 : decode cX7_lay0 14 = .ok (.iload_n 1, 1) := by decide +kernel
theorem dX7_lay0_15 : decode cX7_lay0 15 = .ok (.imul, 1) := by decide +kernel
theorem dX7_lay0_16 : decode cX7_lay0 16 = .ok (.iload_n 2, 1) := by decide +kernel
theorem dX7_lay0_17 : decode cX7_lay0 17 = .ok (.iadd, 1) := by decide +kernel
theorem dX7_lay0_18 : decode cX7_lay0 18 = .ok (.aload_n 0, 1) := by decide +kernel
theorem dX7_lay0_19 : decode cX7_lay0 19 = .ok (.getfield 9, 3) := by decide +kernel
theorem dX7_lay0_22 : decode cX7_lay0 22 = .ok (.iload_n 2, 1) := by decide +kernel
theorem dX7_lay0_23 : decode cX7_lay0 23 = .ok (.iaload, 1) := by decide +kernel
theorem dX7_lay0_24 : decode cX7_lay0 24 = .ok (.iastore, 1) := by decide +kernel
theorem dX7_lay0_25 : decode cX7_lay0 25 = .ok (.iinc 2 1, 3) := by decide +kernel
theorem dX7_lay0_28 : decode cX7_lay0 28 = .ok (.goto (-26), 3) := by decide +kernel
theorem dX7_lay0_31 : decode cX7_lay0 31 = .ok (.return_, 1) := by decide +kernel
theorem dX7_layBack_0 : decode cX7_layBack 0 = .ok (.iconst 0, 1) := by decide +kernel
theorem dX7_layBack_1 : decode cX7_layBack 1 = .ok (.istore_n 2, 1) := by decide +kernel
theorem dX7_layBack_2 : decode cX7_layBack 2 = .ok (.iload_n 2, 1) := by decide +kernel
theorem dX7_layBack_3 : decode cX7_layBack 3 = .ok (.bipush 50, 2) := by decide +kernel
theorem dX7_layBack_5 : decode cX7_layBack 5 = .ok (.if_icmp .ge 26, 3) := by decide +kernel
theorem dX7_layBack_8 : decode cX7_layBack 8 = .ok (.aload_n 0, 1) := by decide +kernel
theorem dX7_layBack_9 : decode cX7_layBack 9 = .ok (.getfield 9, 3) := by decide +kernel
theorem dX7_layBack_12 : decode cX7_layBack 12 = .ok (.iload_n 2, 1) := by decide +kernel
theorem dX7_layBack_13 : decode cX7_layBack 13 = .ok (.aload_n 0, 1) := by decide +kernel
theorem dX7_layBack_14 : decode cX7_layBack 14 = .ok (.getfield 22, 3) := by decide +kernel
theorem dX7_layBack_17 : decode cX7_layBack 17 = .ok (.bipush 50, 2) := by decide +kernel
theorem dX7_layBack_19 : decode cX7_layBack 19 = .ok (.iload_n 1, 1) := by decide +kernel
theorem dX7_layBack_20 : decode cX7_layBack 20 = .ok (.imul, 1) := by decide +kernel
theorem dX7_layBack_21 : decode cX7_layBack 21 = .ok (.iload_n 2, 1) := by decide +kernel
theorem dX7_layBack_22 : decode cX7_layBack 22 = .ok (.iadd, 1) := by decide +kernel
theorem dX7_layBack_23 : decode cX7_layBack 23 = .ok (.iaload, 1) := by decide +kernel
theorem dX7_layBack_24 : decode cX7_layBack 24 = .ok (.iastore, 1) := by decide +kernel
theorem dX7_layBack_25 : decode cX7_layBack 25 = .ok (.iinc 2 1, 3) := by decide +kernel
theorem dX7_layBack_28 : decode cX7_layBack 28 = .ok (.goto (-26), 3) := by decide +kernel
theorem dX7_layBack_31 : decode cX7_layBack 31 = .ok (.return_, 1) := by decide +kernel
theorem dX7_goThrough_0 : decode cX7_goThrough 0 = .ok (.iload_n 1, 1) := by decide +kernel
theorem dX7_goThrough_1 : decode cX7_goThrough 1 = .ok (.ifCond .ne 62, 3) := by decide +kernel
theorem dX7_goThrough_4 : decode cX7_goThrough 4 = .ok (.iconst 0, 1) := by decide +kernel
theorem dX7_goThrough_5 : decode cX7_goThrough 5 = .ok (.istore 5, 2) := by decide +kernel
theorem dX7_goThrough_7 : decode cX7_goThrough 7 = .ok (.iload 5, 2) := by decide +kernel
theorem dX7_goThrough_9 : decode cX7_goThrough 9 = .ok (.iload_n 2, 1) := by decide +kernel
theorem dX7_goThrough_10 : decode cX7_goThrough 10 = .ok (.if_icmp .ge 30, 3) := by decide +kernel
theorem dX7_goThrough_13 : decode cX7_goThrough 13 = .ok (.aload_n 0, 1) := by decide +kernel
theorem dX7_goThrough_14 : decode cX7_goThrough 14 = .ok (.getfield 189, 3) := by decide +kernel
theorem dX7_goThrough_17 : decode cX7_goThrough 17 = .ok (.ifCond .ne 23, 3) := by decide +kernel
theorem dX7_goThrough_20 : decode cX7_goThrough 20 = .ok (.aload_n 0, 1) := by decide +kernel
theorem dX7_goThrough_21 : decode cX7_goThrough 21 = .ok (.getfield 28, 3) := by decide +kernel
theorem dX7_goThrough_24 : decode cX7_goThrough 24 = .ok (.iload 5, 2) := by decide +kernel
theorem dX7_goThrough_26 : decode cX7_goThrough 26 = .ok (.aload_n 0, 1) := by decide +kernel
theorem dX7_goThrough_27 : decode cX7_goThrough 27 = .ok (.getfield 25, 3) := by decide +kernel
theorem dX7_goThrough_30 : decode cX7_goThrough 30 = .ok (.iload 5, 2) := by decide +kernel
theorem dX7_goThrough_32 : decode cX7_goThrough 32 = .ok (.iaload, 1) := by decide +kernel
theorem dX7_goThrough_33 : decode cX7_goThrough 33 = .ok (.iastore, 1) := by decide +kernel
theorem dX7_goThrough_34 : decode cX7_goThrough 34 = .ok (.iinc 5 1, 3) := by decide +kernel
theorem dX7_goThrough_37 : decode cX7_goThrough 37 = .ok (.goto (-30), 3) := by decide +kernel
theorem dX7_goThrough_40 : decode cX7_goThrough 40 = .ok (.aload_n 0, 1) := by decide +kernel
theorem dX7_goThrough_41 : decode cX7_goThrough 41 = .ok (.dup, 1) := by decide +kernel
theorem dX7_goThrough_42 : decode cX7_goThrough 42 = .ok (.getfield 189, 3) := by decide +kernel
theorem dX7_goThrough_45 : decode cX7_goThrough 45 = .ok (.iconst 1, 1) := by decide +kernel
theorem dX7_goThrough_46 : decode cX7_goThrough 46 = .ok (.iadd, 1) := by decide +kernel
theorem dX7_goThrough_47 : decode cX7_goThrough 47 = .ok (.putfield 189, 3) := by decide +kernel
theorem dX7_goThrough_50 : decode cX7_goThrough 50 = .ok (.aload_n 0, 1) := by decide +kernel
theorem dX7_goThrough_51 : decode cX7_goThrough 51 = .ok (.aload_n 0, 1) := by decide +kernel
theorem dX7_goThrough_52 : decode cX7_goThrough 52 = .ok (.getfield 193, 3) := by decide +kernel
theorem dX7_goThrough_55 : decode cX7_goThrough 55 = .ok (.iload_n 3, 1) := by decide +kernel
theorem dX7_goThrough_56 : decode cX7_goThrough 56 = .ok (.invokestatic 79, 3) := by decide +kernel
theorem dX7_goThrough_59 : decode cX7_goThrough 59 = .ok (.putfield 193, 3) := by decide +kernel
theorem dX7_goThrough_62 : decode cX7_goThrough 62 = .ok (.return_, 1) := by decide +kernel
theorem dX7_goThrough_63 : decode cX7_goThrough 63 = .ok (.aload_n 0, 1) := by decide +kernel
theorem dX7_goThrough_64 : decode cX7_goThrough 64 = .ok (.iload_n 2, 1) := by decide +kernel
theorem dX7_goThrough_65 : decode cX7_goThrough 65 = .ok (.invokevirtual 196, 3) := by decide +kernel
theorem dX7_goThrough_68 : decode cX7_goThrough 68 = .ok (.iconst 0, 1) := by decide +kernel
theorem dX7_goThrough_69 : decode cX7_goThrough 69 = .ok (.istore 5, 2) := by decide +kernel
theorem dX7_goThrough_71 : decode cX7_goThrough 71 = .ok (.iload 5, 2) := by decide +kernel
theorem dX7_goThrough_73 : decode cX7_goThrough 73 = .ok (.aload_n 0, 1) := by decide +kernel
theorem dX7_goThrough_74 : decode cX7_goThrough 74 = .ok (.getfield 9, 3) := by decide +kernel
theorem dX7_goThrough_77 : decode cX7_goThrough 77 = .ok (.iconst 1, 1) := by decide +kernel
theorem dX7_goThrough_78 : decode cX7_goThrough 78 = .ok (.iaload, 1) := by decide +kernel
theorem dX7_goThrough_79 : decode cX7_goThrough 79 = .ok (.if_icmp .ge 77, 3) := by decide +kernel
theorem dX7_goThrough_82 : decode cX7_goThrough 82 = .ok (.iload_n 1, 1) := by decide +kernel
theorem dX7_goThrough_83 : decode cX7_goThrough 83 = .ok (.iload 5, 2) := by decide +kernel
theorem dX7_goThrough_85 : decode cX7_goThrough 85 = .ok (.invokestatic 155, 3) := by decide +kernel
theorem dX7_goThrough_88 : decode cX7_goThrough 88 = .ok (.ifCond .eq 62, 3) := by decide +kernel
theorem dX7_goThrough_91 : decode cX7_goThrough 91 = .ok (.aload_n 0, 1) := by decide +kernel
theorem dX7_goThrough_92 : decode cX7_goThrough 92 = .ok (.getfield 25, 3) := by decide +kernel
theorem dX7_goThrough_95 : decode cX7_goThrough 95 = .ok (.iload_n 2, 1) := by decide +kernel
theorem dX7_goThrough_96 : decode cX7_goThrough 96 = .ok (.iload 5, 2) := by decide +kernel
theorem dX7_goThrough_98 : decode cX7_goThrough 98 = .ok (.iastore, 1) := by decide +kernel
theorem dX7_goThrough_99 : decode cX7_goThrough 99 = .ok (.iload_n 3, 1) := by decide +kernel
theorem dX7_goThrough_100 : decode cX7_goThrough 100 = .ok (.aload_n 0, 1) := by decide +kernel
theorem dX7_goThrough_101 : decode cX7_goThrough 101 = .ok (.iload 5, 2) := by decide +kernel
theorem dX7_goThrough_103 : decode cX7_goThrough 103 = .ok (.invokevirtual 146, 3) := by decide +kernel
theorem dX7_goThrough_106 : decode cX7_goThrough 106 = .ok (.bipush 12, 2) := by decide +kernel
theorem dX7_goThrough_108 : decode cX7_goThrough 108 = .ok (.if_icmp .ge 7, 3) := by decide +kernel
theorem dX7_goThrough_111 : decode cX7_goThrough 111 = .ok (.iconst 1, 1) := by decide +kernel
theorem dX7_goThrough_112 : decode cX7_goThrough 112 = .ok (.goto 4, 3) := by decide +kernel
theorem dX7_goThrough_115 : decode cX7_goThrough 115 = .ok (.iconst 0, 1) := by decide +kernel
theorem dX7_goThrough_116 : decode cX7_goThrough 116 = .ok (.iadd, 1) := by decide +kernel
theorem dX7_goThrough_117 : decode cX7_goThrough 117 = .ok (.istore 6, 2) := by decide +kernel
theorem dX7_goThrough_119 : decode cX7_goThrough 119 = .ok (.iload 6, 2) := by decide +kernel
theorem dX7_goThrough_121 : decode cX7_goThrough 121 = .ok (.iload 4, 2) := by decide +kernel
theorem dX7_goThrough_123 : decode cX7_goThrough 123 = .ok (.if_icmp .gt 22, 3) := by decide +kernel
theorem dX7_goThrough_126 : decode cX7_goThrough 126 = .ok (.aload_n 0, 1) := by decide +kernel
theorem dX7_goThrough_127 : decode cX7_goThrough 127 = .ok (.iload_n 1, 1) := by decide +kernel
theorem dX7_goThrough_128 : decode cX7_goThrough 128 = .ok (.iconst 1, 1) := by decide +kernel
theorem dX7_goThrough_129 : decode cX7_goThrough 129 = .ok (.iload 5, 2) := by decide +kernel
theorem dX7_goThrough_131 : decode cX7_goThrough 131 = .ok (.ishl, 1) := by decide +kernel
theorem dX7_goThrough_132 : decode cX7_goThrough 132 = .ok (.iconst (-1), 1) := by decide +kernel
theorem dX7_goThrough_133 : decode cX7_goThrough 133 = .ok (.ixor, 1) := by decide +kernel
theorem dX7_goThrough_134 : decode cX7_goThrough 134 = .ok (.iand, 1) := by decide +kernel
theorem dX7_goThrough_135 : decode cX7_goThrough 135 = .ok (.iload_n 2, 1) := by decide +kernel
theorem dX7_goThrough_136 : decode cX7_goThrough 136 = .ok (.iconst 1, 1) := by decide +kernel
theorem dX7_goThrough_137 : decode cX7_goThrough 137 = .ok (.iadd, 1) := by decide +kernel
theorem dX7_goThrough_138 : decode cX7_goThrough 138 = .ok (.iload 6, 2) := by decide +kernel
theorem dX7_goThrough_140 : decode cX7_goThrough 140 = .ok (.iload 4, 2) := by decide +kernel
theorem dX7_goThrough_142 : decode cX7_goThrough 142 = .ok (.invokevirtual 200, 3) := by decide +kernel
theorem dX7_goThrough_145 : decode cX7_goThrough 145 = .ok (.aload_n 0, 1) := by decide +kernel
theorem dX7_goThrough_146 : decode cX7_goThrough 146 = .ok (.iload_n 2, 1) := by decide +kernel
theorem dX7_goThrough_147 : decode cX7_goThrough 147 = .ok (.invokevirtual 204, 3) := by decide +kernel
theorem dX7_goThrough_150 : decode cX7_goThrough 150 = .ok (.iinc 5 1, 3) := by decide +kernel
theorem dX7_goThrough_153 : decode cX7_goThrough 153 = .ok (.goto (-82), 3) := by decide +kernel
theorem dX7_goThrough_156 : decode cX7_goThrough 156 = .ok (.return_, 1) := by decide +kernel
theorem dX7_findOrders_0 : decode cX7_findOrders 0 = .ok (.aload_n 0, 1) := by decide +kernel
theorem dX7_findOrders_1 : decode cX7_findOrders 1 = .ok (.iconst 0, 1) := by decide +kernel
theorem dX7_findOrders_2 : decode cX7_findOrders 2 = .ok (.putfield 189, 3) := by decide +kernel
theorem dX7_findOrders_5 : decode cX7_findOrders 5 = .ok (.aload_n 0, 1) := by decide +kernel
theorem dX7_findOrders_6 : decode cX7_findOrders 6 = .ok (.bipush 6, 2) := by decide +kernel
theorem dX7_findOrders_8 : decode cX7_findOrders 8 = .ok (.putfield 193, 3) := by decide +kernel
theorem dX7_findOrders_11 : decode cX7_findOrders 11 = .ok (.aload_n 0, 1) := by decide +kernel
theorem dX7_findOrders_12 : decode cX7_findOrders 12 = .ok (.iload_n 1, 1) := by decide +kernel
theorem dX7_findOrders_13 : decode cX7_findOrders 13 = .ok (.iconst 0, 1) := by decide +kernel
theorem dX7_findOrders_14 : decode cX7_findOrders 14 = .ok (.iconst 0, 1) := by decide +kernel
theorem dX7_findOrders_15 : decode cX7_findOrders 15 = .ok (.iload_n 2, 1) := by decide +kernel
theorem dX7_findOrders_16 : decode cX7_findOrders 16 = .ok (.invokevirtual 200, 3) := by decide +kernel
theorem dX7_findOrders_19 : decode cX7_findOrders 19 = .ok (.return_, 1) := by decide +kernel
theorem dX7_order_0 : decode cX7_order 0 = .ok (.aload_n 0, 1) := by decide +kernel
theorem dX7_order_1 : decode cX7_order 1 = .ok (.iload_n 1, 1) := by decide +kernel
theorem dX7_order_2 : decode cX7_order 2 = .ok (.invokevirtual 149, 3) := by decide +kernel
theorem dX7_order_5 : decode cX7_order 5 = .ok (.ifCond .eq 17, 3) := by decide +kernel
theorem dX7_order_8 : decode cX7_order 8 = .ok (.iload_n 2, 1) := by decide +kernel
theorem dX7_order_9 : decode cX7_order 9 = .ok (.iconst 0, 1) := by decide +kernel
theorem dX7_order_10 : decode cX7_order 10 = .ok (.iload_n 1, 1) := by decide +kernel
theorem dX7_order_11 : decode cX7_order 11 = .ok (.invokestatic 152, 3) := by decide +kernel
theorem dX7_order_14 : decode cX7_order 14 = .ok (.iconst 1, 1) := by decide +kernel
theorem dX7_order_15 : decode cX7_order 15 = .ok (.isub, 1) := by decide +kernel
theorem dX7_order_16 : decode cX7_order 16 = .ok (.invokestatic 88, 3) := by decide +kernel
theorem dX7_order_19 : decode cX7_order 19 = .ok (.ifCond .ne 10, 3) := by decide +kernel
theorem dX7_order_22 : decode cX7_order 22 = .ok (.aload_n 0, 1) := by decide +kernel
theorem dX7_order_23 : decode cX7_order 23 = .ok (.ldc 69, 2) := by decide +kernel
theorem dX7_order_25 : decode cX7_order 25 = .ok (.invokevirtual 75, 3) := by decide +kernel
theorem dX7_order_28 : decode cX7_order 28 = .ok (.ireturn, 1) := by decide +kernel
theorem dX7_order_29 : decode cX7_order 29 = .ok (.aload_n 0, 1) := by decide +kernel
theorem dX7_order_30 : decode cX7_order 30 = .ok (.iload_n 1, 1) := by decide +kernel
theorem dX7_order_31 : decode cX7_order 31 = .ok (.iconst 0, 1) := by decide +kernel
theorem dX7_order_32 : decode cX7_order 32 = .ok (.invokevirtual 207, 3) := by decide +kernel
theorem dX7_order_35 : decode cX7_order 35 = .ok (.aload_n 0, 1) := by decide +kernel
theorem dX7_order_36 : decode cX7_order 36 = .ok (.getfield 189, 3) := by decide +kernel
theorem dX7_order_39 : decode cX7_order 39 = .ok (.ifCond .ne 12, 3) := by decide +kernel
theorem dX7_order_42 : decode cX7_order 42 = .ok (.aload_n 0, 1) := by decide +kernel
theorem dX7_order_43 : decode cX7_order 43 = .ok (.ldc 74, 2) := by decide +kernel
theorem dX7_order_45 : decode cX7_order 45 = .ok (.invokevirtual 75, 3) := by decide +kernel
theorem dX7_order_48 : decode cX7_order 48 = .ok (.goto 9, 3) := by decide +kernel
theorem dX7_order_51 : decode cX7_order 51 = .ok (.aload_n 0, 1) := by decide +kernel
theorem dX7_order_52 : decode cX7_order 52 = .ok (.getfield 28, 3) := by decide +kernel
theorem dX7_order_55 : decode cX7_order 55 = .ok (.iload_n 2, 1) := by decide +kernel
theorem dX7_order_56 : decode cX7_order 56 = .ok (.iaload, 1) := by decide +kernel
theorem dX7_order_57 : decode cX7_order 57 = .ok (.ireturn, 1) := by decide +kernel
theorem dX7_orders_0 : decode cX7_orders 0 = .ok (.aload_n 0, 1) := by decide +kernel
theorem dX7_orders_1 : decode cX7_orders 1 = .ok (.iload_n 1, 1) := by decide +kernel
theorem dX7_orders_2 : decode cX7_orders 2 = .ok (.invokevirtual 149, 3) := by decide +kernel
theorem dX7_orders_5 : decode cX7_orders 5 = .ok (.ifCond .ne 10, 3) := by decide +kernel
theorem dX7_orders_8 : decode cX7_orders 8 = .ok (.aload_n 0, 1) := by decide +kernel
theorem dX7_orders_9 : decode cX7_orders 9 = .ok (.ldc 69, 2) := by decide +kernel
theorem dX7_orders_11 : decode cX7_orders 11 = .ok (.invokevirtual 75, 3) := by decide +kernel
theorem dX7_orders_14 : decode cX7_orders 14 = .ok (.ireturn, 1) := by decide +kernel
theorem dX7_orders_15 : decode cX7_orders 15 = .ok (.aload_n 0, 1) := by decide +kernel
theorem dX7_orders_16 : decode cX7_orders 16 = .ok (.iload_n 1, 1) := by decide +kernel
theorem dX7_orders_17 : decode cX7_orders 17 = .ok (.iconst 0, 1) := by decide +kernel
theorem dX7_orders_18 : decode cX7_orders 18 = .ok (.invokevirtual 207, 3) := by decide +kernel
theorem dX7_orders_21 : decode cX7_orders 21 = .ok (.aload_n 0, 1) := by decide +kernel
theorem dX7_orders_22 : decode cX7_orders 22 = .ok (.getfield 189, 3) := by decide +kernel
theorem dX7_orders_25 : decode cX7_orders 25 = .ok (.ireturn, 1) := by decide +kernel
theorem dX7_fewest_0 : decode cX7_fewest 0 = .ok (.aload_n 0, 1) := by decide +kernel
theorem dX7_fewest_1 : decode cX7_fewest 1 = .ok (.iload_n 1, 1) := by decide +kernel
theorem dX7_fewest_2 : decode cX7_fewest 2 = .ok (.invokevirtual 149, 3) := by decide +kernel
theorem dX7_fewest_5 : decode cX7_fewest 5 = .ok (.ifCond .ne 10, 3) := by decide +kernel
theorem dX7_fewest_8 : decode cX7_fewest 8 = .ok (.aload_n 0, 1) := by decide +kernel
theorem dX7_fewest_9 : decode cX7_fewest 9 = .ok (.ldc 69, 2) := by decide +kernel
theorem dX7_fewest_11 : decode cX7_fewest 11 = .ok (.invokevirtual 75, 3) := by decide +kernel
theorem dX7_fewest_14 : decode cX7_fewest 14 = .ok (.ireturn, 1) := by decide +kernel
theorem dX7_fewest_15 : decode cX7_fewest 15 = .ok (.aload_n 0, 1) := by decide +kernel
theorem dX7_fewest_16 : decode cX7_fewest 16 = .ok (.iload_n 1, 1) := by decide +kernel
theorem dX7_fewest_17 : decode cX7_fewest 17 = .ok (.bipush 6, 2) := by decide +kernel
theorem dX7_fewest_19 : decode cX7_fewest 19 = .ok (.invokevirtual 207, 3) := by decide +kernel
theorem dX7_fewest_22 : decode cX7_fewest 22 = .ok (.aload_n 0, 1) := by decide +kernel
theorem dX7_fewest_23 : decode cX7_fewest 23 = .ok (.getfield 193, 3) := by decide +kernel
theorem dX7_fewest_26 : decode cX7_fewest 26 = .ok (.ireturn, 1) := by decide +kernel
theorem dX7_most_0 : decode cX7_most 0 = .ok (.iconst 0, 1) := by decide +kernel
theorem dX7_most_1 : decode cX7_most 1 = .ok (.istore_n 1, 1) := by decide +kernel
theorem dX7_most_2 : decode cX7_most 2 = .ok (.iconst 0, 1) := by decide +kernel
theorem dX7_most_3 : decode cX7_most 3 = .ok (.istore_n 2, 1) := by decide +kernel
theorem dX7_most_4 : decode cX7_most 4 = .ok (.iload_n 2, 1) := by decide +kernel
theorem dX7_most_5 : decode cX7_most 5 = .ok (.iconst 1, 1) := by decide +kernel
theorem dX7_most_6 : decode cX7_most 6 = .ok (.aload_n 0, 1) := by decide +kernel
theorem dX7_most_7 : decode cX7_most 7 = .ok (.getfield 9, 3) := by decide +kernel
theorem dX7_most_10 : decode cX7_most 10 = .ok (.iconst 1, 1) := by decide +kernel
theorem dX7_most_11 : decode cX7_most 11 = .ok (.iaload, 1) := by decide +kernel
theorem dX7_most_12 : decode cX7_most 12 = .ok (.ishl, 1) := by decide +kernel
theorem dX7_most_13 : decode cX7_most 13 = .ok (.if_icmp .ge 39, 3) := by decide +kernel
theorem dX7_most_16 : decode cX7_most 16 = .ok (.iload_n 2, 1) := by decide +kernel
theorem dX7_most_17 : decode cX7_most 17 = .ok (.invokestatic 152, 3) := by decide +kernel
theorem dX7_most_20 : decode cX7_most 20 = .ok (.iload_n 1, 1) := by decide +kernel
theorem dX7_most_21 : decode cX7_most 21 = .ok (.invokestatic 152, 3) := by decide +kernel
theorem dX7_most_24 : decode cX7_most 24 = .ok (.if_icmp .le 22, 3) := by decide +kernel
theorem dX7_most_27 : decode cX7_most 27 = .ok (.aload_n 0, 1) := by decide +kernel
theorem dX7_most_28 : decode cX7_most 28 = .ok (.iload_n 2, 1) := by decide +kernel
theorem dX7_most_29 : decode cX7_most 29 = .ok (.iconst 0, 1) := by decide +kernel
theorem dX7_most_30 : decode cX7_most 30 = .ok (.invokevirtual 207, 3) := by decide +kernel
theorem dX7_most_33 : decode cX7_most 33 = .ok (.aload_n 0, 1) := by decide +kernel
theorem dX7_most_34 : decode cX7_most 34 = .ok (.getfield 189, 3) := by decide +kernel
theorem dX7_most_37 : decode cX7_most 37 = .ok (.ifCond .le 7, 3) := by decide +kernel
theorem dX7_most_40 : decode cX7_most 40 = .ok (.iload_n 2, 1) := by decide +kernel
theorem dX7_most_41 : decode cX7_most 41 = .ok (.goto 4, 3) := by decide +kernel
theorem dX7_most_44 : decode cX7_most 44 = .ok (.iload_n 1, 1) := by decide +kernel
theorem dX7_most_45 : decode cX7_most 45 = .ok (.istore_n 1, 1) := by decide +kernel
theorem dX7_most_46 : decode cX7_most 46 = .ok (.iinc 2 1, 3) := by decide +kernel
theorem dX7_most_49 : decode cX7_most 49 = .ok (.goto (-45), 3) := by decide +kernel
theorem dX7_most_52 : decode cX7_most 52 = .ok (.iload_n 1, 1) := by decide +kernel
theorem dX7_most_53 : decode cX7_most 53 = .ok (.ireturn, 1) := by decide +kernel
theorem dX7_layNew_0 : decode cX7_layNew 0 = .ok (.iconst 0, 1) := by decide +kernel
theorem dX7_layNew_1 : decode cX7_layNew 1 = .ok (.istore_n 2, 1) := by decide +kernel
theorem dX7_layNew_2 : decode cX7_layNew 2 = .ok (.iload_n 2, 1) := by decide +kernel
theorem dX7_layNew_3 : decode cX7_layNew 3 = .ok (.bipush 12, 2) := by decide +kernel
theorem dX7_layNew_5 : decode cX7_layNew 5 = .ok (.if_icmp .ge 40, 3) := by decide +kernel
theorem dX7_layNew_8 : decode cX7_layNew 8 = .ok (.aload_n 0, 1) := by decide +kernel
theorem dX7_layNew_9 : decode cX7_layNew 9 = .ok (.getfield 9, 3) := by decide +kernel
theorem dX7_layNew_12 : decode cX7_layNew 12 = .ok (.bipush 14, 2) := by decide +kernel
theorem dX7_layNew_14 : decode cX7_layNew 14 = .ok (.iload_n 2, 1) := by decide +kernel
theorem dX7_layNew_15 : decode cX7_layNew 15 = .ok (.iadd, 1) := by decide +kernel
theorem dX7_layNew_16 : decode cX7_layNew 16 = .ok (.iload_n 1, 1) := by decide +kernel
theorem dX7_layNew_17 : decode cX7_layNew 17 = .ok (.iload_n 2, 1) := by decide +kernel
theorem dX7_layNew_18 : decode cX7_layNew 18 = .ok (.invokestatic 155, 3) := by decide +kernel
theorem dX7_layNew_21 : decode cX7_layNew 21 = .ok (.ifCond .eq 8, 3) := by decide +kernel
theorem dX7_layNew_24 : decode cX7_layNew 24 = .ok (.bipush 50, 2) := by decide +kernel
theorem dX7_layNew_26 : decode cX7_layNew 26 = .ok (.goto 12, 3) := by decide +kernel
theorem dX7_layNew_29 : decode cX7_layNew 29 = .ok (.aload_n 0, 1) := by decide +kernel
theorem dX7_layNew_30 : decode cX7_layNew 30 = .ok (.getfield 9, 3) := by decide +kernel
theorem dX7_layNew_33 : decode cX7_layNew 33 = .ok (.bipush 14, 2) := by decide +kernel
theorem dX7_layNew_35 : decode cX7_layNew 35 = .ok (.iload_n 2, 1) := by decide +kernel
theorem dX7_layNew_36 : decode cX7_layNew 36 = .ok (.iadd, 1) := by decide +kernel
theorem dX7_layNew_37 : decode cX7_layNew 37 = .ok (.iaload, 1) := by decide +kernel
theorem dX7_layNew_38 : decode cX7_layNew 38 = .ok (.iastore, 1) := by decide +kernel
theorem dX7_layNew_39 : decode cX7_layNew 39 = .ok (.iinc 2 1, 3) := by decide +kernel
theorem dX7_layNew_42 : decode cX7_layNew 42 = .ok (.goto (-40), 3) := by decide +kernel
theorem dX7_layNew_45 : decode cX7_layNew 45 = .ok (.return_, 1) := by decide +kernel
theorem dX7_lay_0 : decode cX7_lay 0 = .ok (.aload_n 0, 1) := by decide +kernel
theorem dX7_lay_1 : decode cX7_lay 1 = .ok (.iload_n 1, 1) := by decide +kernel
theorem dX7_lay_2 : decode cX7_lay 2 = .ok (.invokevirtual 126, 3) := by decide +kernel
theorem dX7_lay_5 : decode cX7_lay 5 = .ok (.ifCond .ne 10, 3) := by decide +kernel
theorem dX7_lay_8 : decode cX7_lay 8 = .ok (.aload_n 0, 1) := by decide +kernel
theorem dX7_lay_9 : decode cX7_lay 9 = .ok (.ldc 69, 2) := by decide +kernel
theorem dX7_lay_11 : decode cX7_lay 11 = .ok (.invokevirtual 75, 3) := by decide +kernel
theorem dX7_lay_14 : decode cX7_lay 14 = .ok (.ireturn, 1) := by decide +kernel
theorem dX7_lay_15 : decode cX7_lay 15 = .ok (.iconst (-1), 1) := by decide +kernel
theorem dX7_lay_16 : decode cX7_lay 16 = .ok (.istore_n 2, 1) := by decide +kernel
theorem dX7_lay_17 : decode cX7_lay 17 = .ok (.iconst 0, 1) := by decide +kernel
theorem dX7_lay_18 : decode cX7_lay 18 = .ok (.istore_n 3, 1) := by decide +kernel
theorem dX7_lay_19 : decode cX7_lay 19 = .ok (.iload_n 3, 1) := by decide +kernel
theorem dX7_lay_20 : decode cX7_lay 20 = .ok (.sipush 4096, 3) := by decide +kernel
theorem dX7_lay_23 : decode cX7_lay 23 = .ok (.if_icmp .ge 68, 3) := by decide +kernel
theorem dX7_lay_26 : decode cX7_lay 26 = .ok (.iload_n 3, 1) := by decide +kernel
theorem dX7_lay_27 : decode cX7_lay 27 = .ok (.invokestatic 152, 3) := by decide +kernel
theorem dX7_lay_30 : decode cX7_lay 30 = .ok (.iconst 3, 1) := by decide +kernel
theorem dX7_lay_31 : decode cX7_lay 31 = .ok (.if_icmp .gt 54, 3) := by decide +kernel
theorem dX7_lay_34 : decode cX7_lay 34 = .ok (.iload_n 2, 1) := by decide +kernel
theorem dX7_lay_35 : decode cX7_lay 35 = .ok (.ifCond .lt 14, 3) := by decide +kernel
theorem dX7_lay_38 : decode cX7_lay 38 = .ok (.iload_n 3, 1) := by decide +kernel
theorem dX7_lay_39 : decode cX7_lay 39 = .ok (.invokestatic 152, 3) := by decide +kernel
theorem dX7_lay_42 : decode cX7_lay 42 = .ok (.iload_n 2, 1) := by decide +kernel
theorem dX7_lay_43 : decode cX7_lay 43 = .ok (.invokestatic 152, 3) := by decide +kernel
theorem dX7_lay_46 : decode cX7_lay 46 = .ok (.if_icmp .ge 39, 3) := by decide +kernel
theorem dX7_lay_49 : decode cX7_lay 49 = .ok (.aload_n 0, 1) := by decide +kernel
theorem dX7_lay_50 : decode cX7_lay 50 = .ok (.getfield 9, 3) := by decide +kernel
theorem dX7_lay_53 : decode cX7_lay 53 = .ok (.aload_n 0, 1) := by decide +kernel
theorem dX7_lay_54 : decode cX7_lay 54 = .ok (.getfield 16, 3) := by decide +kernel
theorem dX7_lay_57 : decode cX7_lay 57 = .ok (.invokestatic 70, 3) := by decide +kernel
theorem dX7_lay_60 : decode cX7_lay 60 = .ok (.aload_n 0, 1) := by decide +kernel
theorem dX7_lay_61 : decode cX7_lay 61 = .ok (.iload_n 3, 1) := by decide +kernel
theorem dX7_lay_62 : decode cX7_lay 62 = .ok (.invokevirtual 211, 3) := by decide +kernel
theorem dX7_lay_65 : decode cX7_lay 65 = .ok (.aload_n 0, 1) := by decide +kernel
theorem dX7_lay_66 : decode cX7_lay 66 = .ok (.aload_n 0, 1) := by decide +kernel
theorem dX7_lay_67 : decode cX7_lay 67 = .ok (.iload_n 1, 1) := by decide +kernel
theorem dX7_lay_68 : decode cX7_lay 68 = .ok (.invokevirtual 146, 3) := by decide +kernel
theorem dX7_lay_71 : decode cX7_lay 71 = .ok (.bipush 12, 2) := by decide +kernel
theorem dX7_lay_73 : decode cX7_lay 73 = .ok (.if_icmp .ne 7, 3) := by decide +kernel
theorem dX7_lay_76 : decode cX7_lay 76 = .ok (.iload_n 3, 1) := by decide +kernel
theorem dX7_lay_77 : decode cX7_lay 77 = .ok (.goto 4, 3) := by decide +kernel
theorem dX7_lay_80 : decode cX7_lay 80 = .ok (.iload_n 2, 1) := by decide +kernel
theorem dX7_lay_81 : decode cX7_lay 81 = .ok (.invokevirtual 158, 3) := by decide +kernel
theorem dX7_lay_84 : decode cX7_lay 84 = .ok (.istore_n 2, 1) := by decide +kernel
theorem dX7_lay_85 : decode cX7_lay 85 = .ok (.iinc 3 1, 3) := by decide +kernel
theorem dX7_lay_88 : decode cX7_lay 88 = .ok (.goto (-69), 3) := by decide +kernel
theorem dX7_lay_91 : decode cX7_lay 91 = .ok (.aload_n 0, 1) := by decide +kernel
theorem dX7_lay_92 : decode cX7_lay 92 = .ok (.iload_n 2, 1) := by decide +kernel
theorem dX7_lay_93 : decode cX7_lay 93 = .ok (.invokevirtual 183, 3) := by decide +kernel
theorem dX7_lay_96 : decode cX7_lay 96 = .ok (.ireturn, 1) := by decide +kernel
theorem dX7_best_0 : decode cX7_best 0 = .ok (.iconst 0, 1) := by decide +kernel
theorem dX7_best_1 : decode cX7_best 1 = .ok (.istore_n 1, 1) := by decide +kernel
theorem dX7_best_2 : decode cX7_best 2 = .ok (.bipush 7, 2) := by decide +kernel
theorem dX7_best_4 : decode cX7_best 4 = .ok (.istore_n 2, 1) := by decide +kernel
theorem dX7_best_5 : decode cX7_best 5 = .ok (.iconst 0, 1) := by decide +kernel
theorem dX7_best_6 : decode cX7_best 6 = .ok (.istore_n 3, 1) := by decide +kernel
theorem dX7_best_7 : decode cX7_best 7 = .ok (.iload_n 3, 1) := by decide +kernel
theorem dX7_best_8 : decode cX7_best 8 = .ok (.bipush 12, 2) := by decide +kernel
theorem dX7_best_10 : decode cX7_best 10 = .ok (.if_icmp .ge 60, 3) := by decide +kernel
theorem dX7_best_13 : decode cX7_best 13 = .ok (.aload_n 0, 1) := by decide +kernel
theorem dX7_best_14 : decode cX7_best 14 = .ok (.bipush 14, 2) := by decide +kernel
theorem dX7_best_16 : decode cX7_best 16 = .ok (.iload_n 3, 1) := by decide +kernel
theorem dX7_best_17 : decode cX7_best 17 = .ok (.iadd, 1) := by decide +kernel
theorem dX7_best_18 : decode cX7_best 18 = .ok (.bipush 50, 2) := by decide +kernel
theorem dX7_best_20 : decode cX7_best 20 = .ok (.invokevirtual 102, 3) := by decide +kernel
theorem dX7_best_23 : decode cX7_best 23 = .ok (.istore 4, 2) := by decide +kernel
theorem dX7_best_25 : decode cX7_best 25 = .ok (.aload_n 0, 1) := by decide +kernel
theorem dX7_best_26 : decode cX7_best 26 = .ok (.invokevirtual 168, 3) := by decide +kernel
theorem dX7_best_29 : decode cX7_best 29 = .ok (.invokestatic 152, 3) := by decide +kernel
theorem dX7_best_32 : decode cX7_best 32 = .ok (.istore 5, 2) := by decide +kernel
theorem dX7_best_34 : decode cX7_best 34 = .ok (.aload_n 0, 1) := by decide +kernel
theorem dX7_best_35 : decode cX7_best 35 = .ok (.getfield 9, 3) := by decide +kernel
theorem dX7_best_38 : decode cX7_best 38 = .ok (.bipush 14, 2) := by decide +kernel
theorem dX7_best_40 : decode cX7_best 40 = .ok (.iload_n 3, 1) := by decide +kernel
theorem dX7_best_41 : decode cX7_best 41 = .ok (.iadd, 1) := by decide +kernel
theorem dX7_best_42 : decode cX7_best 42 = .ok (.iload 4, 2) := by decide +kernel
theorem dX7_best_44 : decode cX7_best 44 = .ok (.iastore, 1) := by decide +kernel
theorem dX7_best_45 : decode cX7_best 45 = .ok (.iload 5, 2) := by decide +kernel
theorem dX7_best_47 : decode cX7_best 47 = .ok (.iload_n 2, 1) := by decide +kernel
theorem dX7_best_48 : decode cX7_best 48 = .ok (.if_icmp .ge 7, 3) := by decide +kernel
theorem dX7_best_51 : decode cX7_best 51 = .ok (.iload_n 3, 1) := by decide +kernel
theorem dX7_best_52 : decode cX7_best 52 = .ok (.goto 4, 3) := by decide +kernel
theorem dX7_best_55 : decode cX7_best 55 = .ok (.iload_n 1, 1) := by decide +kernel
theorem dX7_best_56 : decode cX7_best 56 = .ok (.istore_n 1, 1) := by decide +kernel
theorem dX7_best_57 : decode cX7_best 57 = .ok (.iload_n 2, 1) := by decide +kernel
theorem dX7_best_58 : decode cX7_best 58 = .ok (.iload 5, 2) := by decide +kernel
theorem dX7_best_60 : decode cX7_best 60 = .ok (.invokestatic 79, 3) := by decide +kernel
theorem dX7_best_63 : decode cX7_best 63 = .ok (.istore_n 2, 1) := by decide +kernel
theorem dX7_best_64 : decode cX7_best 64 = .ok (.iinc 3 1, 3) := by decide +kernel
theorem dX7_best_67 : decode cX7_best 67 = .ok (.goto (-60), 3) := by decide +kernel
theorem dX7_best_70 : decode cX7_best 70 = .ok (.iload_n 1, 1) := by decide +kernel
theorem dX7_best_71 : decode cX7_best 71 = .ok (.ireturn, 1) := by decide +kernel
theorem dX7_unlikeOf_0 : decode cX7_unlikeOf 0 = .ok (.iconst 0, 1) := by decide +kernel
theorem dX7_unlikeOf_1 : decode cX7_unlikeOf 1 = .ok (.istore_n 3, 1) := by decide +kernel
theorem dX7_unlikeOf_2 : decode cX7_unlikeOf 2 = .ok (.iconst 0, 1) := by decide +kernel
theorem dX7_unlikeOf_3 : decode cX7_unlikeOf 3 = .ok (.istore 4, 2) := by decide +kernel
theorem dX7_unlikeOf_5 : decode cX7_unlikeOf 5 = .ok (.iload 4, 2) := by decide +kernel
theorem dX7_unlikeOf_7 : decode cX7_unlikeOf 7 = .ok (.bipush 12, 2) := by decide +kernel
theorem dX7_unlikeOf_9 : decode cX7_unlikeOf 9 = .ok (.if_icmp .ge 36, 3) := by decide +kernel
theorem dX7_unlikeOf_12 : decode cX7_unlikeOf 12 = .ok (.iload_n 3, 1) := by decide +kernel
theorem dX7_unlikeOf_13 : decode cX7_unlikeOf 13 = .ok (.aload_n 0, 1) := by decide +kernel
theorem dX7_unlikeOf_14 : decode cX7_unlikeOf 14 = .ok (.iload_n 1, 1) := by decide +kernel
theorem dX7_unlikeOf_15 : decode cX7_unlikeOf 15 = .ok (.bipush 14, 2) := by decide +kernel
theorem dX7_unlikeOf_17 : decode cX7_unlikeOf 17 = .ok (.iload 4, 2) := by decide +kernel
theorem dX7_unlikeOf_19 : decode cX7_unlikeOf 19 = .ok (.iadd, 1) := by decide +kernel
theorem dX7_unlikeOf_20 : decode cX7_unlikeOf 20 = .ok (.invokevirtual 174, 3) := by decide +kernel
theorem dX7_unlikeOf_23 : decode cX7_unlikeOf 23 = .ok (.aload_n 0, 1) := by decide +kernel
theorem dX7_unlikeOf_24 : decode cX7_unlikeOf 24 = .ok (.iload_n 2, 1) := by decide +kernel
theorem dX7_unlikeOf_25 : decode cX7_unlikeOf 25 = .ok (.bipush 14, 2) := by decide +kernel
theorem dX7_unlikeOf_27 : decode cX7_unlikeOf 27 = .ok (.iload 4, 2) := by decide +kernel
theorem dX7_unlikeOf_29 : decode cX7_unlikeOf 29 = .ok (.iadd, 1) := by decide +kernel
theorem dX7_unlikeOf_30 : decode cX7_unlikeOf 30 = .ok (.invokevirtual 174, 3) := by decide +kernel
theorem dX7_unlikeOf_33 : decode cX7_unlikeOf 33 = .ok (.isub, 1) := by decide +kernel
theorem dX7_unlikeOf_34 : decode cX7_unlikeOf 34 = .ok (.invokestatic 116, 3) := by decide +kernel
theorem dX7_unlikeOf_37 : decode cX7_unlikeOf 37 = .ok (.iadd, 1) := by decide +kernel
theorem dX7_unlikeOf_38 : decode cX7_unlikeOf 38 = .ok (.istore_n 3, 1) := by decide +kernel
theorem dX7_unlikeOf_39 : decode cX7_unlikeOf 39 = .ok (.iinc 4 1, 3) := by decide +kernel
theorem dX7_unlikeOf_42 : decode cX7_unlikeOf 42 = .ok (.goto (-37), 3) := by decide +kernel
theorem dX7_unlikeOf_45 : decode cX7_unlikeOf 45 = .ok (.iload_n 3, 1) := by decide +kernel
theorem dX7_unlikeOf_46 : decode cX7_unlikeOf 46 = .ok (.ireturn, 1) := by decide +kernel
theorem dX7_unlike_0 : decode cX7_unlike 0 = .ok (.aload_n 0, 1) := by decide +kernel
theorem dX7_unlike_1 : decode cX7_unlike 1 = .ok (.iload_n 1, 1) := by decide +kernel
theorem dX7_unlike_2 : decode cX7_unlike 2 = .ok (.iload_n 2, 1) := by decide +kernel
theorem dX7_unlike_3 : decode cX7_unlike 3 = .ok (.invokevirtual 177, 3) := by decide +kernel
theorem dX7_unlike_6 : decode cX7_unlike 6 = .ok (.ifCond .eq 12, 3) := by decide +kernel
theorem dX7_unlike_9 : decode cX7_unlike 9 = .ok (.aload_n 0, 1) := by decide +kernel
theorem dX7_unlike_10 : decode cX7_unlike 10 = .ok (.iload_n 1, 1) := by decide +kernel
theorem dX7_unlike_11 : decode cX7_unlike 11 = .ok (.iload_n 2, 1) := by decide +kernel
theorem dX7_unlike_12 : decode cX7_unlike 12 = .ok (.invokevirtual 214, 3) := by decide +kernel
theorem dX7_unlike_15 : decode cX7_unlike 15 = .ok (.goto 9, 3) := by decide +kernel
theorem dX7_unlike_18 : decode cX7_unlike 18 = .ok (.aload_n 0, 1) := by decide +kernel
theorem dX7_unlike_19 : decode cX7_unlike 19 = .ok (.ldc 69, 2) := by decide +kernel
theorem dX7_unlike_21 : decode cX7_unlike 21 = .ok (.invokevirtual 75, 3) := by decide +kernel
theorem dX7_unlike_24 : decode cX7_unlike 24 = .ok (.ireturn, 1) := by decide +kernel
theorem dX7_taken_0 : decode cX7_taken 0 = .ok (.aload_n 0, 1) := by decide +kernel
theorem dX7_taken_1 : decode cX7_taken 1 = .ok (.iload_n 1, 1) := by decide +kernel
theorem dX7_taken_2 : decode cX7_taken 2 = .ok (.invokevirtual 126, 3) := by decide +kernel
theorem dX7_taken_5 : decode cX7_taken 5 = .ok (.ifCond .ne 10, 3) := by decide +kernel
theorem dX7_taken_8 : decode cX7_taken 8 = .ok (.aload_n 0, 1) := by decide +kernel
theorem dX7_taken_9 : decode cX7_taken 9 = .ok (.ldc 69, 2) := by decide +kernel
theorem dX7_taken_11 : decode cX7_taken 11 = .ok (.invokevirtual 75, 3) := by decide +kernel
theorem dX7_taken_14 : decode cX7_taken 14 = .ok (.ireturn, 1) := by decide +kernel
theorem dX7_taken_15 : decode cX7_taken 15 = .ok (.iconst (-1), 1) := by decide +kernel
theorem dX7_taken_16 : decode cX7_taken 16 = .ok (.istore_n 2, 1) := by decide +kernel
theorem dX7_taken_17 : decode cX7_taken 17 = .ok (.ldc 219, 2) := by decide +kernel
theorem dX7_taken_19 : decode cX7_taken 19 = .ok (.istore_n 3, 1) := by decide +kernel
theorem dX7_taken_20 : decode cX7_taken 20 = .ok (.iconst 0, 1) := by decide +kernel
theorem dX7_taken_21 : decode cX7_taken 21 = .ok (.istore 4, 2) := by decide +kernel
theorem dX7_taken_23 : decode cX7_taken 23 = .ok (.iload 4, 2) := by decide +kernel
theorem dX7_taken_25 : decode cX7_taken 25 = .ok (.aload_n 0, 1) := by decide +kernel
theorem dX7_taken_26 : decode cX7_taken 26 = .ok (.getfield 9, 3) := by decide +kernel
theorem dX7_taken_29 : decode cX7_taken 29 = .ok (.iconst 1, 1) := by decide +kernel
theorem dX7_taken_30 : decode cX7_taken 30 = .ok (.iaload, 1) := by decide +kernel
theorem dX7_taken_31 : decode cX7_taken 31 = .ok (.if_icmp .ge 49, 3) := by decide +kernel
theorem dX7_taken_34 : decode cX7_taken 34 = .ok (.iload 4, 2) := by decide +kernel
theorem dX7_taken_36 : decode cX7_taken 36 = .ok (.iload_n 1, 1) := by decide +kernel
theorem dX7_taken_37 : decode cX7_taken 37 = .ok (.if_icmp .ne 8, 3) := by decide +kernel
theorem dX7_taken_40 : decode cX7_taken 40 = .ok (.ldc 219, 2) := by decide +kernel
theorem dX7_taken_42 : decode cX7_taken 42 = .ok (.goto 10, 3) := by decide +kernel
theorem dX7_taken_45 : decode cX7_taken 45 = .ok (.aload_n 0, 1) := by decide +kernel
theorem dX7_taken_46 : decode cX7_taken 46 = .ok (.iload_n 1, 1) := by decide +kernel
theorem dX7_taken_47 : decode cX7_taken 47 = .ok (.iload 4, 2) := by decide +kernel
theorem dX7_taken_49 : decode cX7_taken 49 = .ok (.invokevirtual 214, 3) := by decide +kernel
theorem dX7_taken_52 : decode cX7_taken 52 = .ok (.istore 5, 2) := by decide +kernel
theorem dX7_taken_54 : decode cX7_taken 54 = .ok (.iload 5, 2) := by decide +kernel
theorem dX7_taken_56 : decode cX7_taken 56 = .ok (.iload_n 3, 1) := by decide +kernel
theorem dX7_taken_57 : decode cX7_taken 57 = .ok (.if_icmp .ge 8, 3) := by decide +kernel
theorem dX7_taken_60 : decode cX7_taken 60 = .ok (.iload 4, 2) := by decide +kernel
theorem dX7_taken_62 : decode cX7_taken 62 = .ok (.goto 4, 3) := by decide +kernel
theorem dX7_taken_65 : decode cX7_taken 65 = .ok (.iload_n 2, 1) := by decide +kernel
theorem dX7_taken_66 : decode cX7_taken 66 = .ok (.istore_n 2, 1) := by decide +kernel
theorem dX7_taken_67 : decode cX7_taken 67 = .ok (.iload_n 3, 1) := by decide +kernel
theorem dX7_taken_68 : decode cX7_taken 68 = .ok (.iload 5, 2) := by decide +kernel
theorem dX7_taken_70 : decode cX7_taken 70 = .ok (.invokestatic 79, 3) := by decide +kernel
theorem dX7_taken_73 : decode cX7_taken 73 = .ok (.istore_n 3, 1) := by decide +kernel
theorem dX7_taken_74 : decode cX7_taken 74 = .ok (.iinc 4 1, 3) := by decide +kernel
theorem dX7_taken_77 : decode cX7_taken 77 = .ok (.goto (-54), 3) := by decide +kernel
theorem dX7_taken_80 : decode cX7_taken 80 = .ok (.aload_n 0, 1) := by decide +kernel
theorem dX7_taken_81 : decode cX7_taken 81 = .ok (.iload_n 2, 1) := by decide +kernel
theorem dX7_taken_82 : decode cX7_taken 82 = .ok (.invokevirtual 183, 3) := by decide +kernel
theorem dX7_taken_85 : decode cX7_taken 85 = .ok (.ireturn, 1) := by decide +kernel
theorem dX7_lacks_0 : decode cX7_lacks 0 = .ok (.iload_n 1, 1) := by decide +kernel
theorem dX7_lacks_1 : decode cX7_lacks 1 = .ok (.invokestatic 220, 3) := by decide +kernel
theorem dX7_lacks_4 : decode cX7_lacks 4 = .ok (.ifCond .ne 8, 3) := by decide +kernel
theorem dX7_lacks_7 : decode cX7_lacks 7 = .ok (.ldc 69, 2) := by decide +kernel
theorem dX7_lacks_9 : decode cX7_lacks 9 = .ok (.goto 18, 3) := by decide +kernel
theorem dX7_lacks_12 : decode cX7_lacks 12 = .ok (.aload_n 0, 1) := by decide +kernel
theorem dX7_lacks_13 : decode cX7_lacks 13 = .ok (.getfield 57, 3) := by decide +kernel
theorem dX7_lacks_16 : decode cX7_lacks 16 = .ok (.iload_n 1, 1) := by decide +kernel
theorem dX7_lacks_17 : decode cX7_lacks 17 = .ok (.iaload, 1) := by decide +kernel
theorem dX7_lacks_18 : decode cX7_lacks 18 = .ok (.ifCond .ne 8, 3) := by decide +kernel
theorem dX7_lacks_21 : decode cX7_lacks 21 = .ok (.ldc 223, 2) := by decide +kernel
theorem dX7_lacks_23 : decode cX7_lacks 23 = .ok (.goto 4, 3) := by decide +kernel
theorem dX7_lacks_26 : decode cX7_lacks 26 = .ok (.iconst 0, 1) := by decide +kernel
theorem dX7_lacks_27 : decode cX7_lacks 27 = .ok (.ireturn, 1) := by decide +kernel
theorem dX7_lacksFor_0 : decode cX7_lacksFor 0 = .ok (.aload_n 0, 1) := by decide +kernel
theorem dX7_lacksFor_1 : decode cX7_lacksFor 1 = .ok (.iload_n 1, 1) := by decide +kernel
theorem dX7_lacksFor_2 : decode cX7_lacksFor 2 = .ok (.invokevirtual 224, 3) := by decide +kernel
theorem dX7_lacksFor_5 : decode cX7_lacksFor 5 = .ok (.ifCond .eq 11, 3) := by decide +kernel
theorem dX7_lacksFor_8 : decode cX7_lacksFor 8 = .ok (.aload_n 0, 1) := by decide +kernel
theorem dX7_lacksFor_9 : decode cX7_lacksFor 9 = .ok (.iload_n 1, 1) := by decide +kernel
theorem dX7_lacksFor_10 : decode cX7_lacksFor 10 = .ok (.invokevirtual 224, 3) := by decide +kernel
theorem dX7_lacksFor_13 : decode cX7_lacksFor 13 = .ok (.goto 33, 3) := by decide +kernel
theorem dX7_lacksFor_16 : decode cX7_lacksFor 16 = .ok (.aload_n 0, 1) := by decide +kernel
theorem dX7_lacksFor_17 : decode cX7_lacksFor 17 = .ok (.iload_n 2, 1) := by decide +kernel
theorem dX7_lacksFor_18 : decode cX7_lacksFor 18 = .ok (.invokevirtual 126, 3) := by decide +kernel
theorem dX7_lacksFor_21 : decode cX7_lacksFor 21 = .ok (.ifCond .ne 8, 3) := by decide +kernel
theorem dX7_lacksFor_24 : decode cX7_lacksFor 24 = .ok (.ldc 69, 2) := by decide +kernel
theorem dX7_lacksFor_26 : decode cX7_lacksFor 26 = .ok (.goto 20, 3) := by decide +kernel
theorem dX7_lacksFor_29 : decode cX7_lacksFor 29 = .ok (.aload_n 0, 1) := by decide +kernel
theorem dX7_lacksFor_30 : decode cX7_lacksFor 30 = .ok (.getfield 60, 3) := by decide +kernel
theorem dX7_lacksFor_33 : decode cX7_lacksFor 33 = .ok (.iload_n 1, 1) := by decide +kernel
theorem dX7_lacksFor_34 : decode cX7_lacksFor 34 = .ok (.iaload, 1) := by decide +kernel
theorem dX7_lacksFor_35 : decode cX7_lacksFor 35 = .ok (.bipush 12, 2) := by decide +kernel
theorem dX7_lacksFor_37 : decode cX7_lacksFor 37 = .ok (.if_icmp .le 8, 3) := by decide +kernel
theorem dX7_lacksFor_40 : decode cX7_lacksFor 40 = .ok (.ldc 145, 2) := by decide +kernel
theorem dX7_lacksFor_42 : decode cX7_lacksFor 42 = .ok (.goto 4, 3) := by decide +kernel
theorem dX7_lacksFor_45 : decode cX7_lacksFor 45 = .ok (.iconst 0, 1) := by decide +kernel
theorem dX7_lacksFor_46 : decode cX7_lacksFor 46 = .ok (.ireturn, 1) := by decide +kernel
theorem dX7_swaysSo_0 : decode cX7_swaysSo 0 = .ok (.aload_n 0, 1) := by decide +kernel
theorem dX7_swaysSo_1 : decode cX7_swaysSo 1 = .ok (.getfield 9, 3) := by decide +kernel
theorem dX7_swaysSo_4 : decode cX7_swaysSo 4 = .ok (.aload_n 0, 1) := by decide +kernel
theorem dX7_swaysSo_5 : decode cX7_swaysSo 5 = .ok (.getfield 16, 3) := by decide +kernel
theorem dX7_swaysSo_8 : decode cX7_swaysSo 8 = .ok (.invokestatic 70, 3) := by decide +kernel
theorem dX7_swaysSo_11 : decode cX7_swaysSo 11 = .ok (.aload_n 0, 1) := by decide +kernel
theorem dX7_swaysSo_12 : decode cX7_swaysSo 12 = .ok (.iload_n 2, 1) := by decide +kernel
theorem dX7_swaysSo_13 : decode cX7_swaysSo 13 = .ok (.invokevirtual 146, 3) := by decide +kernel
theorem dX7_swaysSo_16 : decode cX7_swaysSo 16 = .ok (.istore_n 3, 1) := by decide +kernel
theorem dX7_swaysSo_17 : decode cX7_swaysSo 17 = .ok (.iload_n 3, 1) := by decide +kernel
theorem dX7_swaysSo_18 : decode cX7_swaysSo 18 = .ok (.ifCond .lt 7, 3) := by decide +kernel
theorem dX7_swaysSo_21 : decode cX7_swaysSo 21 = .ok (.iconst 1, 1) := by decide +kernel
theorem dX7_swaysSo_22 : decode cX7_swaysSo 22 = .ok (.goto 4, 3) := by decide +kernel
theorem dX7_swaysSo_25 : decode cX7_swaysSo 25 = .ok (.iconst 0, 1) := by decide +kernel
theorem dX7_swaysSo_26 : decode cX7_swaysSo 26 = .ok (.istore 4, 2) := by decide +kernel
theorem dX7_swaysSo_28 : decode cX7_swaysSo 28 = .ok (.iconst 0, 1) := by decide +kernel
theorem dX7_swaysSo_29 : decode cX7_swaysSo 29 = .ok (.istore 5, 2) := by decide +kernel
theorem dX7_swaysSo_31 : decode cX7_swaysSo 31 = .ok (.iload 5, 2) := by decide +kernel
theorem dX7_swaysSo_33 : decode cX7_swaysSo 33 = .ok (.aload_n 0, 1) := by decide +kernel
theorem dX7_swaysSo_34 : decode cX7_swaysSo 34 = .ok (.getfield 60, 3) := by decide +kernel
theorem dX7_swaysSo_37 : decode cX7_swaysSo 37 = .ok (.iload_n 1, 1) := by decide +kernel
theorem dX7_swaysSo_38 : decode cX7_swaysSo 38 = .ok (.iaload, 1) := by decide +kernel
theorem dX7_swaysSo_39 : decode cX7_swaysSo 39 = .ok (.if_icmp .ge 56, 3) := by decide +kernel
theorem dX7_swaysSo_42 : decode cX7_swaysSo 42 = .ok (.aload_n 0, 1) := by decide +kernel
theorem dX7_swaysSo_43 : decode cX7_swaysSo 43 = .ok (.getfield 63, 3) := by decide +kernel
theorem dX7_swaysSo_46 : decode cX7_swaysSo 46 = .ok (.bipush 40, 2) := by decide +kernel
theorem dX7_swaysSo_48 : decode cX7_swaysSo 48 = .ok (.iload_n 1, 1) := by decide +kernel
theorem dX7_swaysSo_49 : decode cX7_swaysSo 49 = .ok (.imul, 1) := by decide +kernel
theorem dX7_swaysSo_50 : decode cX7_swaysSo 50 = .ok (.iload 5, 2) := by decide +kernel
theorem dX7_swaysSo_52 : decode cX7_swaysSo 52 = .ok (.iadd, 1) := by decide +kernel
theorem dX7_swaysSo_53 : decode cX7_swaysSo 53 = .ok (.iaload, 1) := by decide +kernel
theorem dX7_swaysSo_54 : decode cX7_swaysSo 54 = .ok (.istore 6, 2) := by decide +kernel
theorem dX7_swaysSo_56 : decode cX7_swaysSo 56 = .ok (.iload 4, 2) := by decide +kernel
theorem dX7_swaysSo_58 : decode cX7_swaysSo 58 = .ok (.ifCond .eq 28, 3) := by decide +kernel
theorem dX7_swaysSo_61 : decode cX7_swaysSo 61 = .ok (.iload 6, 2) := by decide +kernel
theorem dX7_swaysSo_63 : decode cX7_swaysSo 63 = .ok (.iconst (-1), 1) := by decide +kernel
theorem dX7_swaysSo_64 : decode cX7_swaysSo 64 = .ok (.if_icmp .eq 18, 3) := by decide +kernel
theorem dX7_swaysSo_67 : decode cX7_swaysSo 67 = .ok (.iload 6, 2) := by decide +kernel
theorem dX7_swaysSo_69 : decode cX7_swaysSo 69 = .ok (.aload_n 0, 1) := by decide +kernel
theorem dX7_swaysSo_70 : decode cX7_swaysSo 70 = .ok (.getfield 9, 3) := by decide +kernel
theorem dX7_swaysSo_73 : decode cX7_swaysSo 73 = .ok (.bipush 14, 2) := by decide +kernel
theorem dX7_swaysSo_75 : decode cX7_swaysSo 75 = .ok (.iload 5, 2) := by decide +kernel
theorem dX7_swaysSo_77 : decode cX7_swaysSo 77 = .ok (.iadd, 1) := by decide +kernel
theorem dX7_swaysSo_78 : decode cX7_swaysSo 78 = .ok (.iaload, 1) := by decide +kernel
theorem dX7_swaysSo_79 : decode cX7_swaysSo 79 = .ok (.if_icmp .ne 7, 3) := by decide +kernel
theorem dX7_swaysSo_82 : decode cX7_swaysSo 82 = .ok (.iconst 1, 1) := by decide +kernel
theorem dX7_swaysSo_83 : decode cX7_swaysSo 83 = .ok (.goto 4, 3) := by decide +kernel
theorem dX7_swaysSo_86 : decode cX7_swaysSo 86 = .ok (.iconst 0, 1) := by decide +kernel
theorem dX7_swaysSo_87 : decode cX7_swaysSo 87 = .ok (.istore 4, 2) := by decide +kernel
theorem dX7_swaysSo_89 : decode cX7_swaysSo 89 = .ok (.iinc 5 1, 3) := by decide +kernel
theorem dX7_swaysSo_92 : decode cX7_swaysSo 92 = .ok (.goto (-61), 3) := by decide +kernel
theorem dX7_swaysSo_95 : decode cX7_swaysSo 95 = .ok (.aload_n 0, 1) := by decide +kernel
theorem dX7_swaysSo_96 : decode cX7_swaysSo 96 = .ok (.getfield 16, 3) := by decide +kernel
theorem dX7_swaysSo_99 : decode cX7_swaysSo 99 = .ok (.aload_n 0, 1) := by decide +kernel
theorem dX7_swaysSo_100 : decode cX7_swaysSo 100 = .ok (.getfield 9, 3) := by decide +kernel
theorem dX7_swaysSo_103 : decode cX7_swaysSo 103 = .ok (.invokestatic 70, 3) := by decide +kernel
theorem dX7_swaysSo_106 : decode cX7_swaysSo 106 = .ok (.iload 4, 2) := by decide +kernel
theorem dX7_swaysSo_108 : decode cX7_swaysSo 108 = .ok (.ireturn, 1) := by decide +kernel
theorem dX7_fitting_0 : decode cX7_fitting 0 = .ok (.iload_n 2, 1) := by decide +kernel
theorem dX7_fitting_1 : decode cX7_fitting 1 = .ok (.iconst 1, 1) := by decide +kernel
theorem dX7_fitting_2 : decode cX7_fitting 2 = .ok (.invokestatic 92, 3) := by decide +kernel
theorem dX7_fitting_5 : decode cX7_fitting 5 = .ok (.istore_n 3, 1) := by decide +kernel
theorem dX7_fitting_6 : decode cX7_fitting 6 = .ok (.aload_n 0, 1) := by decide +kernel
theorem dX7_fitting_7 : decode cX7_fitting 7 = .ok (.getfield 9, 3) := by decide +kernel
theorem dX7_fitting_10 : decode cX7_fitting 10 = .ok (.iload_n 3, 1) := by decide +kernel
theorem dX7_fitting_11 : decode cX7_fitting 11 = .ok (.iaload, 1) := by decide +kernel
theorem dX7_fitting_12 : decode cX7_fitting 12 = .ok (.istore 4, 2) := by decide +kernel
theorem dX7_fitting_14 : decode cX7_fitting 14 = .ok (.iconst (-1), 1) := by decide +kernel
theorem dX7_fitting_15 : decode cX7_fitting 15 = .ok (.istore 5, 2) := by decide +kernel
theorem dX7_fitting_17 : decode cX7_fitting 17 = .ok (.aload_n 0, 1) := by decide +kernel
theorem dX7_fitting_18 : decode cX7_fitting 18 = .ok (.iconst 0, 1) := by decide +kernel
theorem dX7_fitting_19 : decode cX7_fitting 19 = .ok (.putfield 227, 3) := by decide +kernel
theorem dX7_fitting_22 : decode cX7_fitting 22 = .ok (.bipush 99, 2) := by decide +kernel
theorem dX7_fitting_24 : decode cX7_fitting 24 = .ok (.istore 6, 2) := by decide +kernel
theorem dX7_fitting_26 : decode cX7_fitting 26 = .ok (.iload 6, 2) := by decide +kernel
theorem dX7_fitting_28 : decode cX7_fitting 28 = .ok (.ifCond .lt 58, 3) := by decide +kernel
theorem dX7_fitting_31 : decode cX7_fitting 31 = .ok (.aload_n 0, 1) := by decide +kernel
theorem dX7_fitting_32 : decode cX7_fitting 32 = .ok (.getfield 9, 3) := by decide +kernel
theorem dX7_fitting_35 : decode cX7_fitting 35 = .ok (.iload_n 3, 1) := by decide +kernel
theorem dX7_fitting_36 : decode cX7_fitting 36 = .ok (.iload 6, 2) := by decide +kernel
theorem dX7_fitting_38 : decode cX7_fitting 38 = .ok (.iastore, 1) := by decide +kernel
theorem dX7_fitting_39 : decode cX7_fitting 39 = .ok (.aload_n 0, 1) := by decide +kernel
theorem dX7_fitting_40 : decode cX7_fitting 40 = .ok (.iload_n 1, 1) := by decide +kernel
theorem dX7_fitting_41 : decode cX7_fitting 41 = .ok (.iload_n 2, 1) := by decide +kernel
theorem dX7_fitting_42 : decode cX7_fitting 42 = .ok (.invokevirtual 230, 3) := by decide +kernel
theorem dX7_fitting_45 : decode cX7_fitting 45 = .ok (.istore 7, 2) := by decide +kernel
theorem dX7_fitting_47 : decode cX7_fitting 47 = .ok (.iload 7, 2) := by decide +kernel
theorem dX7_fitting_49 : decode cX7_fitting 49 = .ok (.ifCond .eq 8, 3) := by decide +kernel
theorem dX7_fitting_52 : decode cX7_fitting 52 = .ok (.iload 6, 2) := by decide +kernel
theorem dX7_fitting_54 : decode cX7_fitting 54 = .ok (.goto 5, 3) := by decide +kernel
theorem dX7_fitting_57 : decode cX7_fitting 57 = .ok (.iload 5, 2) := by decide +kernel
theorem dX7_fitting_59 : decode cX7_fitting 59 = .ok (.istore 5, 2) := by decide +kernel
theorem dX7_fitting_61 : decode cX7_fitting 61 = .ok (.aload_n 0, 1) := by decide +kernel
theorem dX7_fitting_62 : decode cX7_fitting 62 = .ok (.dup, 1) := by decide +kernel
theorem dX7_fitting_63 : decode cX7_fitting 63 = .ok (.getfield 227, 3) := by decide +kernel
theorem dX7_fitting_66 : decode cX7_fitting 66 = .ok (.iload 7, 2) := by decide +kernel
theorem dX7_fitting_68 : decode cX7_fitting 68 = .ok (.ifCond .eq 7, 3) := by decide +kernel
theorem dX7_fitting_71 : decode cX7_fitting 71 = .ok (.iconst 1, 1) := by decide +kernel
theorem dX7_fitting_72 : decode cX7_fitting 72 = .ok (.goto 4, 3) := by decide +kernel
theorem dX7_fitting_75 : decode cX7_fitting 75 = .ok (.iconst 0, 1) := by decide +kernel
theorem dX7_fitting_76 : decode cX7_fitting 76 = .ok (.iadd, 1) := by decide +kernel
theorem dX7_fitting_77 : decode cX7_fitting 77 = .ok (.putfield 227, 3) := by decide +kernel
theorem dX7_fitting_80 : decode cX7_fitting 80 = .ok (.iinc 6 (-1), 3) := by decide +kernel
theorem dX7_fitting_83 : decode cX7_fitting 83 = .ok (.goto (-57), 3) := by decide +kernel
theorem dX7_fitting_86 : decode cX7_fitting 86 = .ok (.aload_n 0, 1) := by decide +kernel
theorem dX7_fitting_87 : decode cX7_fitting 87 = .ok (.getfield 9, 3) := by decide +kernel
theorem dX7_fitting_90 : decode cX7_fitting 90 = .ok (.iload_n 3, 1) := by decide +kernel
theorem dX7_fitting_91 : decode cX7_fitting 91 = .ok (.iload 4, 2) := by decide +kernel
theorem dX7_fitting_93 : decode cX7_fitting 93 = .ok (.iastore, 1) := by decide +kernel
theorem dX7_fitting_94 : decode cX7_fitting 94 = .ok (.iload 5, 2) := by decide +kernel
theorem dX7_fitting_96 : decode cX7_fitting 96 = .ok (.ireturn, 1) := by decide +kernel
theorem dX7_fits_0 : decode cX7_fits 0 = .ok (.aload_n 0, 1) := by decide +kernel
theorem dX7_fits_1 : decode cX7_fits 1 = .ok (.iload_n 1, 1) := by decide +kernel
theorem dX7_fits_2 : decode cX7_fits 2 = .ok (.iload_n 2, 1) := by decide +kernel
theorem dX7_fits_3 : decode cX7_fits 3 = .ok (.invokevirtual 233, 3) := by decide +kernel
theorem dX7_fits_6 : decode cX7_fits 6 = .ok (.ifCond .eq 14, 3) := by decide +kernel
theorem dX7_fits_9 : decode cX7_fits 9 = .ok (.aload_n 0, 1) := by decide +kernel
theorem dX7_fits_10 : decode cX7_fits 10 = .ok (.aload_n 0, 1) := by decide +kernel
theorem dX7_fits_11 : decode cX7_fits 11 = .ok (.iload_n 1, 1) := by decide +kernel
theorem dX7_fits_12 : decode cX7_fits 12 = .ok (.iload_n 2, 1) := by decide +kernel
theorem dX7_fits_13 : decode cX7_fits 13 = .ok (.invokevirtual 233, 3) := by decide +kernel
theorem dX7_fits_16 : decode cX7_fits 16 = .ok (.invokevirtual 75, 3) := by decide +kernel
theorem dX7_fits_19 : decode cX7_fits 19 = .ok (.ireturn, 1) := by decide +kernel
theorem dX7_fits_20 : decode cX7_fits 20 = .ok (.aload_n 0, 1) := by decide +kernel
theorem dX7_fits_21 : decode cX7_fits 21 = .ok (.iload_n 1, 1) := by decide +kernel
theorem dX7_fits_22 : decode cX7_fits 22 = .ok (.iload_n 2, 1) := by decide +kernel
theorem dX7_fits_23 : decode cX7_fits 23 = .ok (.invokevirtual 236, 3) := by decide +kernel
theorem dX7_fits_26 : decode cX7_fits 26 = .ok (.istore_n 3, 1) := by decide +kernel
theorem dX7_fits_27 : decode cX7_fits 27 = .ok (.iload_n 3, 1) := by decide +kernel
theorem dX7_fits_28 : decode cX7_fits 28 = .ok (.ifCond .ge 7, 3) := by decide +kernel
theorem dX7_fits_31 : decode cX7_fits 31 = .ok (.iconst 0, 1) := by decide +kernel
theorem dX7_fits_32 : decode cX7_fits 32 = .ok (.goto 7, 3) := by decide +kernel
theorem dX7_fits_35 : decode cX7_fits 35 = .ok (.aload_n 0, 1) := by decide +kernel
theorem dX7_fits_36 : decode cX7_fits 36 = .ok (.getfield 227, 3) := by decide +kernel
theorem dX7_fits_39 : decode cX7_fits 39 = .ok (.ireturn, 1) := by decide +kernel
theorem dX7_gait_0 : decode cX7_gait 0 = .ok (.aload_n 0, 1) := by decide +kernel
theorem dX7_gait_1 : decode cX7_gait 1 = .ok (.iload_n 1, 1) := by decide +kernel
theorem dX7_gait_2 : decode cX7_gait 2 = .ok (.iload_n 2, 1) := by decide +kernel
theorem dX7_gait_3 : decode cX7_gait 3 = .ok (.invokevirtual 233, 3) := by decide +kernel
theorem dX7_gait_6 : decode cX7_gait 6 = .ok (.ifCond .eq 16, 3) := by decide +kernel
theorem dX7_gait_9 : decode cX7_gait 9 = .ok (.aload_n 0, 1) := by decide +kernel
theorem dX7_gait_10 : decode cX7_gait 10 = .ok (.aload_n 0, 1) := by decide +kernel
theorem dX7_gait_11 : decode cX7_gait 11 = .ok (.iload_n 1, 1) := by decide +kernel
theorem dX7_gait_12 : decode cX7_gait 12 = .ok (.iload_n 2, 1) := by decide +kernel
theorem dX7_gait_13 : decode cX7_gait 13 = .ok (.invokevirtual 233, 3) := by decide +kernel
theorem dX7_gait_16 : decode cX7_gait 16 = .ok (.invokevirtual 75, 3) := by decide +kernel
theorem dX7_gait_19 : decode cX7_gait 19 = .ok (.goto 13, 3) := by decide +kernel
theorem dX7_gait_22 : decode cX7_gait 22 = .ok (.aload_n 0, 1) := by decide +kernel
theorem dX7_gait_23 : decode cX7_gait 23 = .ok (.aload_n 0, 1) := by decide +kernel
theorem dX7_gait_24 : decode cX7_gait 24 = .ok (.iload_n 1, 1) := by decide +kernel
theorem dX7_gait_25 : decode cX7_gait 25 = .ok (.iload_n 2, 1) := by decide +kernel
theorem dX7_gait_26 : decode cX7_gait 26 = .ok (.invokevirtual 236, 3) := by decide +kernel
theorem dX7_gait_29 : decode cX7_gait 29 = .ok (.invokevirtual 183, 3) := by decide +kernel
theorem dX7_gait_32 : decode cX7_gait 32 = .ok (.ireturn, 1) := by decide +kernel
theorem dX7_who_0 : decode cX7_who 0 = .ok (.aload_n 0, 1) := by decide +kernel
theorem dX7_who_1 : decode cX7_who 1 = .ok (.iload_n 1, 1) := by decide +kernel
theorem dX7_who_2 : decode cX7_who 2 = .ok (.invokevirtual 224, 3) := by decide +kernel
theorem dX7_who_5 : decode cX7_who 5 = .ok (.ifCond .ne 14, 3) := by decide +kernel
theorem dX7_who_8 : decode cX7_who 8 = .ok (.aload_n 0, 1) := by decide +kernel
theorem dX7_who_9 : decode cX7_who 9 = .ok (.getfield 60, 3) := by decide +kernel
theorem dX7_who_12 : decode cX7_who 12 = .ok (.iload_n 1, 1) := by decide +kernel
theorem dX7_who_13 : decode cX7_who 13 = .ok (.iaload, 1) := by decide +kernel
theorem dX7_who_14 : decode cX7_who 14 = .ok (.bipush 12, 2) := by decide +kernel
theorem dX7_who_16 : decode cX7_who 16 = .ok (.if_icmp .le 26, 3) := by decide +kernel
theorem dX7_who_19 : decode cX7_who 19 = .ok (.aload_n 0, 1) := by decide +kernel
theorem dX7_who_20 : decode cX7_who 20 = .ok (.aload_n 0, 1) := by decide +kernel
theorem dX7_who_21 : decode cX7_who 21 = .ok (.iload_n 1, 1) := by decide +kernel
theorem dX7_who_22 : decode cX7_who 22 = .ok (.invokevirtual 224, 3) := by decide +kernel
theorem dX7_who_25 : decode cX7_who 25 = .ok (.ifCond .eq 11, 3) := by decide +kernel
theorem dX7_who_28 : decode cX7_who 28 = .ok (.aload_n 0, 1) := by decide +kernel
theorem dX7_who_29 : decode cX7_who 29 = .ok (.iload_n 1, 1) := by decide +kernel
theorem dX7_who_30 : decode cX7_who 30 = .ok (.invokevirtual 224, 3) := by decide +kernel
theorem dX7_who_33 : decode cX7_who 33 = .ok (.goto 5, 3) := by decide +kernel
theorem dX7_who_36 : decode cX7_who 36 = .ok (.ldc 145, 2) := by decide +kernel
theorem dX7_who_38 : decode cX7_who 38 = .ok (.invokevirtual 75, 3) := by decide +kernel
theorem dX7_who_41 : decode cX7_who 41 = .ok (.ireturn, 1) := by decide +kernel
theorem dX7_who_42 : decode cX7_who 42 = .ok (.iconst 0, 1) := by decide +kernel
theorem dX7_who_43 : decode cX7_who 43 = .ok (.istore_n 2, 1) := by decide +kernel
theorem dX7_who_44 : decode cX7_who 44 = .ok (.iconst 0, 1) := by decide +kernel
theorem dX7_who_45 : decode cX7_who 45 = .ok (.istore_n 3, 1) := by decide +kernel
theorem dX7_who_46 : decode cX7_who 46 = .ok (.iload_n 3, 1) := by decide +kernel
theorem dX7_who_47 : decode cX7_who 47 = .ok (.aload_n 0, 1) := by decide +kernel
theorem dX7_who_48 : decode cX7_who 48 = .ok (.getfield 9, 3) := by decide +kernel
theorem dX7_who_51 : decode cX7_who 51 = .ok (.iconst 1, 1) := by decide +kernel
theorem dX7_who_52 : decode cX7_who 52 = .ok (.iaload, 1) := by decide +kernel
theorem dX7_who_53 : decode cX7_who 53 = .ok (.if_icmp .ge 28, 3) := by decide +kernel
theorem dX7_who_56 : decode cX7_who 56 = .ok (.iload_n 2, 1) := by decide +kernel
theorem dX7_who_57 : decode cX7_who 57 = .ok (.aload_n 0, 1) := by decide +kernel
theorem dX7_who_58 : decode cX7_who 58 = .ok (.iload_n 1, 1) := by decide +kernel
theorem dX7_who_59 : decode cX7_who 59 = .ok (.iload_n 3, 1) := by decide +kernel
theorem dX7_who_60 : decode cX7_who 60 = .ok (.invokevirtual 230, 3) := by decide +kernel
theorem dX7_who_63 : decode cX7_who 63 = .ok (.ifCond .eq 9, 3) := by decide +kernel
theorem dX7_who_66 : decode cX7_who 66 = .ok (.iconst 1, 1) := by decide +kernel
theorem dX7_who_67 : decode cX7_who 67 = .ok (.iload_n 3, 1) := by decide +kernel
theorem dX7_who_68 : decode cX7_who 68 = .ok (.ishl, 1) := by decide +kernel
theorem dX7_who_69 : decode cX7_who 69 = .ok (.goto 4, 3) := by decide +kernel
theorem dX7_who_72 : decode cX7_who 72 = .ok (.iconst 0, 1) := by decide +kernel
theorem dX7_who_73 : decode cX7_who 73 = .ok (.ior, 1) := by decide +kernel
theorem dX7_who_74 : decode cX7_who 74 = .ok (.istore_n 2, 1) := by decide +kernel
theorem dX7_who_75 : decode cX7_who 75 = .ok (.iinc 3 1, 3) := by decide +kernel
theorem dX7_who_78 : decode cX7_who 78 = .ok (.goto (-32), 3) := by decide +kernel
theorem dX7_who_81 : decode cX7_who 81 = .ok (.iload_n 2, 1) := by decide +kernel
theorem dX7_who_82 : decode cX7_who 82 = .ok (.ireturn, 1) := by decide +kernel
theorem dX7_drawn_0 : decode cX7_drawn 0 = .ok (.aload_n 0, 1) := by decide +kernel
theorem dX7_drawn_1 : decode cX7_drawn 1 = .ok (.getfield 9, 3) := by decide +kernel
theorem dX7_drawn_4 : decode cX7_drawn 4 = .ok (.iconst 2, 1) := by decide +kernel
theorem dX7_drawn_5 : decode cX7_drawn 5 = .ok (.aload_n 0, 1) := by decide +kernel
theorem dX7_drawn_6 : decode cX7_drawn 6 = .ok (.getfield 9, 3) := by decide +kernel
theorem dX7_drawn_9 : decode cX7_drawn 9 = .ok (.iconst 2, 1) := by decide +kernel
theorem dX7_drawn_10 : decode cX7_drawn 10 = .ok (.iaload, 1) := by decide +kernel
theorem dX7_drawn_11 : decode cX7_drawn 11 = .ok (.ldc 239, 2) := by decide +kernel
theorem dX7_drawn_13 : decode cX7_drawn 13 = .ok (.imul, 1) := by decide +kernel
theorem dX7_drawn_14 : decode cX7_drawn 14 = .ok (.sipush 12345, 3) := by decide +kernel
theorem dX7_drawn_17 : decode cX7_drawn 17 = .ok (.iadd, 1) := by decide +kernel
theorem dX7_drawn_18 : decode cX7_drawn 18 = .ok (.iastore, 1) := by decide +kernel
theorem dX7_drawn_19 : decode cX7_drawn 19 = .ok (.aload_n 0, 1) := by decide +kernel
theorem dX7_drawn_20 : decode cX7_drawn 20 = .ok (.getfield 9, 3) := by decide +kernel
theorem dX7_drawn_23 : decode cX7_drawn 23 = .ok (.iconst 2, 1) := by decide +kernel
theorem dX7_drawn_24 : decode cX7_drawn 24 = .ok (.iaload, 1) := by decide +kernel
theorem dX7_drawn_25 : decode cX7_drawn 25 = .ok (.bipush 8, 2) := by decide +kernel
theorem dX7_drawn_27 : decode cX7_drawn 27 = .ok (.iushr, 1) := by decide +kernel
theorem dX7_drawn_28 : decode cX7_drawn 28 = .ok (.ireturn, 1) := by decide +kernel
theorem dX7_strangers_0 : decode cX7_strangers 0 = .ok (.iload_n 1, 1) := by decide +kernel
theorem dX7_strangers_1 : decode cX7_strangers 1 = .ok (.iconst 1, 1) := by decide +kernel
theorem dX7_strangers_2 : decode cX7_strangers 2 = .ok (.bipush 20, 2) := by decide +kernel
theorem dX7_strangers_4 : decode cX7_strangers 4 = .ok (.invokestatic 88, 3) := by decide +kernel
theorem dX7_strangers_7 : decode cX7_strangers 7 = .ok (.ifCond .ne 10, 3) := by decide +kernel
theorem dX7_strangers_10 : decode cX7_strangers 10 = .ok (.aload_n 0, 1) := by decide +kernel
theorem dX7_strangers_11 : decode cX7_strangers 11 = .ok (.ldc 69, 2) := by decide +kernel
theorem dX7_strangers_13 : decode cX7_strangers 13 = .ok (.invokevirtual 75, 3) := by decide +kernel
theorem dX7_strangers_16 : decode cX7_strangers 16 = .ok (.ireturn, 1) := by decide +kernel
theorem dX7_strangers_17 : decode cX7_strangers 17 = .ok (.iconst 0, 1) := by decide +kernel
theorem dX7_strangers_18 : decode cX7_strangers 18 = .ok (.istore_n 2, 1) := by decide +kernel
theorem dX7_strangers_19 : decode cX7_strangers 19 = .ok (.iload_n 2, 1) := by decide +kernel
theorem dX7_strangers_20 : decode cX7_strangers 20 = .ok (.iload_n 1, 1) := by decide +kernel
theorem dX7_strangers_21 : decode cX7_strangers 21 = .ok (.if_icmp .ge 33, 3) := by decide +kernel
theorem dX7_strangers_24 : decode cX7_strangers 24 = .ok (.aload_n 0, 1) := by decide +kernel
theorem dX7_strangers_25 : decode cX7_strangers 25 = .ok (.invokevirtual 240, 3) := by decide +kernel
theorem dX7_strangers_28 : decode cX7_strangers 28 = .ok (.bipush 12, 2) := by decide +kernel
theorem dX7_strangers_30 : decode cX7_strangers 30 = .ok (.irem, 1) := by decide +kernel
theorem dX7_strangers_31 : decode cX7_strangers 31 = .ok (.istore_n 3, 1) := by decide +kernel
theorem dX7_strangers_32 : decode cX7_strangers 32 = .ok (.aload_n 0, 1) := by decide +kernel
theorem dX7_strangers_33 : decode cX7_strangers 33 = .ok (.getfield 9, 3) := by decide +kernel
theorem dX7_strangers_36 : decode cX7_strangers 36 = .ok (.bipush 14, 2) := by decide +kernel
theorem dX7_strangers_38 : decode cX7_strangers 38 = .ok (.iload_n 3, 1) := by decide +kernel
theorem dX7_strangers_39 : decode cX7_strangers 39 = .ok (.iadd, 1) := by decide +kernel
theorem dX7_strangers_40 : decode cX7_strangers 40 = .ok (.aload_n 0, 1) := by decide +kernel
theorem dX7_strangers_41 : decode cX7_strangers 41 = .ok (.invokevirtual 240, 3) := by decide +kernel
theorem dX7_strangers_44 : decode cX7_strangers 44 = .ok (.bipush 100, 2) := by decide +kernel
theorem dX7_strangers_46 : decode cX7_strangers 46 = .ok (.irem, 1) := by decide +kernel
theorem dX7_strangers_47 : decode cX7_strangers 47 = .ok (.iastore, 1) := by decide +kernel
theorem dX7_strangers_48 : decode cX7_strangers 48 = .ok (.iinc 2 1, 3) := by decide +kernel
theorem dX7_strangers_51 : decode cX7_strangers 51 = .ok (.goto (-32), 3) := by decide +kernel
theorem dX7_strangers_54 : decode cX7_strangers 54 = .ok (.aload_n 0, 1) := by decide +kernel
theorem dX7_strangers_55 : decode cX7_strangers 55 = .ok (.invokevirtual 164, 3) := by decide +kernel
theorem dX7_strangers_58 : decode cX7_strangers 58 = .ok (.ireturn, 1) := by decide +kernel
theorem dX7_odds_0 : decode cX7_odds 0 = .ok (.aload_n 0, 1) := by decide +kernel
theorem dX7_odds_1 : decode cX7_odds 1 = .ok (.iload_n 1, 1) := by decide +kernel
theorem dX7_odds_2 : decode cX7_odds 2 = .ok (.invokevirtual 126, 3) := by decide +kernel
theorem dX7_odds_5 : decode cX7_odds 5 = .ok (.ifCond .eq 22, 3) := by decide +kernel
theorem dX7_odds_8 : decode cX7_odds 8 = .ok (.iload_n 2, 1) := by decide +kernel
theorem dX7_odds_9 : decode cX7_odds 9 = .ok (.iconst 0, 1) := by decide +kernel
theorem dX7_odds_10 : decode cX7_odds 10 = .ok (.bipush 14, 2) := by decide +kernel
theorem dX7_odds_12 : decode cX7_odds 12 = .ok (.invokestatic 88, 3) := by decide +kernel
theorem dX7_odds_15 : decode cX7_odds 15 = .ok (.ifCond .eq 12, 3) := by decide +kernel
theorem dX7_odds_18 : decode cX7_odds 18 = .ok (.iload_n 3, 1) := by decide +kernel
theorem dX7_odds_19 : decode cX7_odds 19 = .ok (.iconst 0, 1) := by decide +kernel
theorem dX7_odds_20 : decode cX7_odds 20 = .ok (.iconst 1, 1) := by decide +kernel
theorem dX7_odds_21 : decode cX7_odds 21 = .ok (.invokestatic 88, 3) := by decide +kernel
theorem dX7_odds_24 : decode cX7_odds 24 = .ok (.ifCond .ne 11, 3) := by decide +kernel
theorem dX7_odds_27 : decode cX7_odds 27 = .ok (.aload_n 0, 1) := by decide +kernel
theorem dX7_odds_28 : decode cX7_odds 28 = .ok (.ldc 69, 2) := by decide +kernel
theorem dX7_odds_30 : decode cX7_odds 30 = .ok (.invokevirtual 75, 3) := by decide +kernel
theorem dX7_odds_33 : decode cX7_odds 33 = .ok (.i2l, 1) := by decide +kernel
theorem dX7_odds_34 : decode cX7_odds 34 = .ok (.lreturn, 1) := by decide +kernel
theorem dX7_odds_35 : decode cX7_odds 35 = .ok (.bipush 12, 2) := by decide +kernel
theorem dX7_odds_37 : decode cX7_odds 37 = .ok (.aload_n 0, 1) := by decide +kernel
theorem dX7_odds_38 : decode cX7_odds 38 = .ok (.iload_n 1, 1) := by decide +kernel
theorem dX7_odds_39 : decode cX7_odds 39 = .ok (.invokevirtual 129, 3) := by decide +kernel
theorem dX7_odds_42 : decode cX7_odds 42 = .ok (.invokestatic 152, 3) := by decide +kernel
theorem dX7_odds_45 : decode cX7_odds 45 = .ok (.isub, 1) := by decide +kernel
theorem dX7_odds_46 : decode cX7_odds 46 = .ok (.istore 4, 2) := by decide +kernel
theorem dX7_odds_48 : decode cX7_odds 48 = .ok (.bipush 12, 2) := by decide +kernel
theorem dX7_odds_50 : decode cX7_odds 50 = .ok (.istore 5, 2) := by decide +kernel
theorem dX7_odds_52 : decode cX7_odds 52 = .ok (.iload 4, 2) := by decide +kernel
theorem dX7_odds_54 : decode cX7_odds 54 = .ok (.istore 6, 2) := by decide +kernel
theorem dX7_odds_56 : decode cX7_odds 56 = .ok (.iload 6, 2) := by decide +kernel
theorem dX7_odds_58 : decode cX7_odds 58 = .ok (.ifCond .eq 21, 3) := by decide +kernel
theorem dX7_odds_61 : decode cX7_odds 61 = .ok (.iload 5, 2) := by decide +kernel
theorem dX7_odds_63 : decode cX7_odds 63 = .ok (.iload 6, 2) := by decide +kernel
theorem dX7_odds_65 : decode cX7_odds 65 = .ok (.irem, 1) := by decide +kernel
theorem dX7_odds_66 : decode cX7_odds 66 = .ok (.istore 7, 2) := by decide +kernel
theorem dX7_odds_68 : decode cX7_odds 68 = .ok (.iload 6, 2) := by decide +kernel
theorem dX7_odds_70 : decode cX7_odds 70 = .ok (.istore 5, 2) := by decide +kernel
theorem dX7_odds_72 : decode cX7_odds 72 = .ok (.iload 7, 2) := by decide +kernel
theorem dX7_odds_74 : decode cX7_odds 74 = .ok (.istore 6, 2) := by decide +kernel
theorem dX7_odds_76 : decode cX7_odds 76 = .ok (.goto (-20), 3) := by decide +kernel
theorem dX7_odds_79 : decode cX7_odds 79 = .ok (.lconst 1, 1) := by decide +kernel
theorem dX7_odds_80 : decode cX7_odds 80 = .ok (.lstore 7, 2) := by decide +kernel
theorem dX7_odds_82 : decode cX7_odds 82 = .ok (.iconst 0, 1) := by decide +kernel
theorem dX7_odds_83 : decode cX7_odds 83 = .ok (.istore 9, 2) := by decide +kernel
theorem dX7_odds_85 : decode cX7_odds 85 = .ok (.iload 9, 2) := by decide +kernel
theorem dX7_odds_87 : decode cX7_odds 87 = .ok (.iload_n 2, 1) := by decide +kernel
theorem dX7_odds_88 : decode cX7_odds 88 = .ok (.if_icmp .ge 29, 3) := by decide +kernel
theorem dX7_odds_91 : decode cX7_odds 91 = .ok (.lload 7, 2) := by decide +kernel
theorem dX7_odds_93 : decode cX7_odds 93 = .ok (.iload_n 3, 1) := by decide +kernel
theorem dX7_odds_94 : decode cX7_odds 94 = .ok (.ifCond .ne 8, 3) := by decide +kernel
theorem dX7_odds_97 : decode cX7_odds 97 = .ok (.iload 4, 2) := by decide +kernel
theorem dX7_odds_99 : decode cX7_odds 99 = .ok (.goto 5, 3) := by decide +kernel
theorem dX7_odds_102 : decode cX7_odds 102 = .ok (.bipush 12, 2) := by decide +kernel
theorem dX7_odds_104 : decode cX7_odds 104 = .ok (.iload 5, 2) := by decide +kernel
theorem dX7_odds_106 : decode cX7_odds 106 = .ok (.idiv, 1) := by decide +kernel
theorem dX7_odds_107 : decode cX7_odds 107 = .ok (.i2l, 1) := by decide +kernel
theorem dX7_odds_108 : decode cX7_odds 108 = .ok (.lmul, 1) := by decide +kernel
theorem dX7_odds_109 : decode cX7_odds 109 = .ok (.lstore 7, 2) := by decide +kernel
theorem dX7_odds_111 : decode cX7_odds 111 = .ok (.iinc 9 1, 3) := by decide +kernel
theorem dX7_odds_114 : decode cX7_odds 114 = .ok (.goto (-29), 3) := by decide +kernel
theorem dX7_odds_117 : decode cX7_odds 117 = .ok (.lload 7, 2) := by decide +kernel
theorem dX7_odds_119 : decode cX7_odds 119 = .ok (.lreturn, 1) := by decide +kernel
theorem dX7_seed_0 : decode cX7_seed 0 = .ok (.aload_n 0, 1) := by decide +kernel
theorem dX7_seed_1 : decode cX7_seed 1 = .ok (.iconst 2, 1) := by decide +kernel
theorem dX7_seed_2 : decode cX7_seed 2 = .ok (.iload_n 1, 1) := by decide +kernel
theorem dX7_seed_3 : decode cX7_seed 3 = .ok (.invokevirtual 102, 3) := by decide +kernel
theorem dX7_seed_6 : decode cX7_seed 6 = .ok (.ireturn, 1) := by decide +kernel
theorem dX7_feed_0 : decode cX7_feed 0 = .ok (.iload_n 2, 1) := by decide +kernel
theorem dX7_feed_1 : decode cX7_feed 1 = .ok (.iconst 1, 1) := by decide +kernel
theorem dX7_feed_2 : decode cX7_feed 2 = .ok (.iconst 4, 1) := by decide +kernel
theorem dX7_feed_3 : decode cX7_feed 3 = .ok (.invokestatic 88, 3) := by decide +kernel
theorem dX7_feed_6 : decode cX7_feed 6 = .ok (.ifCond .ne 10, 3) := by decide +kernel
theorem dX7_feed_9 : decode cX7_feed 9 = .ok (.aload_n 0, 1) := by decide +kernel
theorem dX7_feed_10 : decode cX7_feed 10 = .ok (.ldc 69, 2) := by decide +kernel
theorem dX7_feed_12 : decode cX7_feed 12 = .ok (.invokevirtual 75, 3) := by decide +kernel
theorem dX7_feed_15 : decode cX7_feed 15 = .ok (.ireturn, 1) := by decide +kernel
theorem dX7_feed_16 : decode cX7_feed 16 = .ok (.aload_n 0, 1) := by decide +kernel
theorem dX7_feed_17 : decode cX7_feed 17 = .ok (.getfield 243, 3) := by decide +kernel
theorem dX7_feed_20 : decode cX7_feed 20 = .ok (.iload_n 2, 1) := by decide +kernel
theorem dX7_feed_21 : decode cX7_feed 21 = .ok (.iadd, 1) := by decide +kernel
theorem dX7_feed_22 : decode cX7_feed 22 = .ok (.bipush 120, 2) := by decide +kernel
theorem dX7_feed_24 : decode cX7_feed 24 = .ok (.if_icmp .le 10, 3) := by decide +kernel
theorem dX7_feed_27 : decode cX7_feed 27 = .ok (.aload_n 0, 1) := by decide +kernel
theorem dX7_feed_28 : decode cX7_feed 28 = .ok (.ldc 108, 2) := by decide +kernel
theorem dX7_feed_30 : decode cX7_feed 30 = .ok (.invokevirtual 75, 3) := by decide +kernel
theorem dX7_feed_33 : decode cX7_feed 33 = .ok (.ireturn, 1) := by decide +kernel
theorem dX7_feed_34 : decode cX7_feed 34 = .ok (.iload_n 2, 1) := by decide +kernel
theorem dX7_feed_35 : decode cX7_feed 35 = .ok (.iconst 1, 1) := by decide +kernel
theorem dX7_feed_36 : decode cX7_feed 36 = .ok (.isub, 1) := by decide +kernel
theorem dX7_feed_37 : decode cX7_feed 37 = .ok (.istore_n 3, 1) := by decide +kernel
theorem dX7_feed_38 : decode cX7_feed 38 = .ok (.iload_n 3, 1) := by decide +kernel
theorem dX7_feed_39 : decode cX7_feed 39 = .ok (.ifCond .lt 38, 3) := by decide +kernel
theorem dX7_feed_42 : decode cX7_feed 42 = .ok (.aload_n 0, 1) := by decide +kernel
theorem dX7_feed_43 : decode cX7_feed 43 = .ok (.getfield 31, 3) := by decide +kernel
theorem dX7_feed_46 : decode cX7_feed 46 = .ok (.aload_n 0, 1) := by decide +kernel
theorem dX7_feed_47 : decode cX7_feed 47 = .ok (.getfield 243, 3) := by decide +kernel
theorem dX7_feed_50 : decode cX7_feed 50 = .ok (.iload_n 1, 1) := by decide +kernel
theorem dX7_feed_51 : decode cX7_feed 51 = .ok (.bipush 8, 2) := by decide +kernel
theorem dX7_feed_53 : decode cX7_feed 53 = .ok (.iload_n 3, 1) := by decide +kernel
theorem dX7_feed_54 : decode cX7_feed 54 = .ok (.imul, 1) := by decide +kernel
theorem dX7_feed_55 : decode cX7_feed 55 = .ok (.ishr, 1) := by decide +kernel
theorem dX7_feed_56 : decode cX7_feed 56 = .ok (.sipush 255, 3) := by decide +kernel
theorem dX7_feed_59 : decode cX7_feed 59 = .ok (.iand, 1) := by decide +kernel
theorem dX7_feed_60 : decode cX7_feed 60 = .ok (.iastore, 1) := by decide +kernel
theorem dX7_feed_61 : decode cX7_feed 61 = .ok (.aload_n 0, 1) := by decide +kernel
theorem dX7_feed_62 : decode cX7_feed 62 = .ok (.dup, 1) := by decide +kernel
theorem dX7_feed_63 : decode cX7_feed 63 = .ok (.getfield 243, 3) := by decide +kernel
theorem dX7_feed_66 : decode cX7_feed 66 = .ok (.iconst 1, 1) := by decide +kernel
theorem dX7_feed_67 : decode cX7_feed 67 = .ok (.iadd, 1) := by decide +kernel
theorem dX7_feed_68 : decode cX7_feed 68 = .ok (.putfield 243, 3) := by decide +kernel
theorem dX7_feed_71 : decode cX7_feed 71 = .ok (.iinc 3 (-1), 3) := by decide +kernel
theorem dX7_feed_74 : decode cX7_feed 74 = .ok (.goto (-36), 3) := by decide +kernel
theorem dX7_feed_77 : decode cX7_feed 77 = .ok (.aload_n 0, 1) := by decide +kernel
theorem dX7_feed_78 : decode cX7_feed 78 = .ok (.getfield 243, 3) := by decide +kernel
theorem dX7_feed_81 : decode cX7_feed 81 = .ok (.ireturn, 1) := by decide +kernel
theorem dX7_wipe_0 : decode cX7_wipe 0 = .ok (.aload_n 0, 1) := by decide +kernel
theorem dX7_wipe_1 : decode cX7_wipe 1 = .ok (.getfield 243, 3) := by decide +kernel
theorem dX7_wipe_4 : decode cX7_wipe 4 = .ok (.istore_n 1, 1) := by decide +kernel
theorem dX7_wipe_5 : decode cX7_wipe 5 = .ok (.aload_n 0, 1) := by decide +kernel
theorem dX7_wipe_6 : decode cX7_wipe 6 = .ok (.iconst 0, 1) := by decide +kernel
theorem dX7_wipe_7 : decode cX7_wipe 7 = .ok (.putfield 243, 3) := by decide +kernel
theorem dX7_wipe_10 : decode cX7_wipe 10 = .ok (.iload_n 1, 1) := by decide +kernel
theorem dX7_wipe_11 : decode cX7_wipe 11 = .ok (.ireturn, 1) := by decide +kernel
theorem dX7_byteAt_0 : decode cX7_byteAt 0 = .ok (.iload_n 1, 1) := by decide +kernel
theorem dX7_byteAt_1 : decode cX7_byteAt 1 = .ok (.aload_n 0, 1) := by decide +kernel
theorem dX7_byteAt_2 : decode cX7_byteAt 2 = .ok (.getfield 243, 3) := by decide +kernel
theorem dX7_byteAt_5 : decode cX7_byteAt 5 = .ok (.if_icmp .ge 12, 3) := by decide +kernel
theorem dX7_byteAt_8 : decode cX7_byteAt 8 = .ok (.aload_n 0, 1) := by decide +kernel
theorem dX7_byteAt_9 : decode cX7_byteAt 9 = .ok (.getfield 31, 3) := by decide +kernel
theorem dX7_byteAt_12 : decode cX7_byteAt 12 = .ok (.iload_n 1, 1) := by decide +kernel
theorem dX7_byteAt_13 : decode cX7_byteAt 13 = .ok (.iaload, 1) := by decide +kernel
theorem dX7_byteAt_14 : decode cX7_byteAt 14 = .ok (.goto 4, 3) := by decide +kernel
theorem dX7_byteAt_17 : decode cX7_byteAt 17 = .ok (.iconst (-1), 1) := by decide +kernel
theorem dX7_byteAt_18 : decode cX7_byteAt 18 = .ok (.ireturn, 1) := by decide +kernel
theorem dX7_next_0 : decode cX7_next 0 = .ok (.aload_n 0, 1) := by decide +kernel
theorem dX7_next_1 : decode cX7_next 1 = .ok (.aload_n 0, 1) := by decide +kernel
theorem dX7_next_2 : decode cX7_next 2 = .ok (.getfield 246, 3) := by decide +kernel
theorem dX7_next_5 : decode cX7_next 5 = .ok (.putfield 249, 3) := by decide +kernel
theorem dX7_next_8 : decode cX7_next 8 = .ok (.aload_n 0, 1) := by decide +kernel
theorem dX7_next_9 : decode cX7_next 9 = .ok (.aload_n 0, 1) := by decide +kernel
theorem dX7_next_10 : decode cX7_next 10 = .ok (.getfield 249, 3) := by decide +kernel
theorem dX7_next_13 : decode cX7_next 13 = .ok (.invokevirtual 252, 3) := by decide +kernel
theorem dX7_next_16 : decode cX7_next 16 = .ok (.bipush 32, 2) := by decide +kernel
theorem dX7_next_18 : decode cX7_next 18 = .ok (.if_icmp .ne 16, 3) := by decide +kernel
theorem dX7_next_21 : decode cX7_next 21 = .ok (.aload_n 0, 1) := by decide +kernel
theorem dX7_next_22 : decode cX7_next 22 = .ok (.dup, 1) := by decide +kernel
theorem dX7_next_23 : decode cX7_next 23 = .ok (.getfield 249, 3) := by decide +kernel
theorem dX7_next_26 : decode cX7_next 26 = .ok (.iconst 1, 1) := by decide +kernel
theorem dX7_next_27 : decode cX7_next 27 = .ok (.iadd, 1) := by decide +kernel
theorem dX7_next_28 : decode cX7_next 28 = .ok (.putfield 249, 3) := by decide +kernel
theorem dX7_next_31 : decode cX7_next 31 = .ok (.goto (-23), 3) := by decide +kernel
theorem dX7_next_34 : decode cX7_next 34 = .ok (.aload_n 0, 1) := by decide +kernel
theorem dX7_next_35 : decode cX7_next 35 = .ok (.aload_n 0, 1) := by decide +kernel
theorem dX7_next_36 : decode cX7_next 36 = .ok (.getfield 249, 3) := by decide +kernel
theorem dX7_next_39 : decode cX7_next 39 = .ok (.invokevirtual 252, 3) := by decide +kernel
theorem dX7_next_42 : decode cX7_next 42 = .ok (.istore_n 1, 1) := by decide +kernel
theorem dX7_next_43 : decode cX7_next 43 = .ok (.aload_n 0, 1) := by decide +kernel
theorem dX7_next_44 : decode cX7_next 44 = .ok (.aload_n 0, 1) := by decide +kernel
theorem dX7_next_45 : decode cX7_next 45 = .ok (.getfield 249, 3) := by decide +kernel
theorem dX7_next_48 : decode cX7_next 48 = .ok (.putfield 246, 3) := by decide +kernel
theorem dX7_next_51 : decode cX7_next 51 = .ok (.aload_n 0, 1) := by decide +kernel
theorem dX7_next_52 : decode cX7_next 52 = .ok (.iconst 0, 1) := by decide +kernel
theorem dX7_next_53 : decode cX7_next 53 = .ok (.putfield 255, 3) := by decide +kernel
theorem dX7_next_56 : decode cX7_next 56 = .ok (.iload_n 1, 1) := by decide +kernel
theorem dX7_next_57 : decode cX7_next 57 = .ok (.ifCond .ge 11, 3) := by decide +kernel
theorem dX7_next_60 : decode cX7_next 60 = .ok (.aload_n 0, 1) := by decide +kernel
theorem dX7_next_61 : decode cX7_next 61 = .ok (.iconst 0, 1) := by decide +kernel
theorem dX7_next_62 : decode cX7_next 62 = .ok (.putfield 258, 3) := by decide +kernel
theorem dX7_next_65 : decode cX7_next 65 = .ok (.goto 141, 3) := by decide +kernel
theorem dX7_next_68 : decode cX7_next 68 = .ok (.iload_n 1, 1) := by decide +kernel
theorem dX7_next_69 : decode cX7_next 69 = .ok (.bipush 97, 2) := by decide +kernel
theorem dX7_next_71 : decode cX7_next 71 = .ok (.bipush 122, 2) := by decide +kernel
theorem dX7_next_73 : decode cX7_next 73 = .ok (.invokestatic 88, 3) := by decide +kernel
theorem dX7_next_76 : decode cX7_next 76 = .ok (.ifCond .eq 39, 3) := by decide +kernel
theorem dX7_next_79 : decode cX7_next 79 = .ok (.aload_n 0, 1) := by decide +kernel
theorem dX7_next_80 : decode cX7_next 80 = .ok (.iconst 1, 1) := by decide +kernel
theorem dX7_next_81 : decode cX7_next 81 = .ok (.putfield 258, 3) := by decide +kernel
theorem dX7_next_84 : decode cX7_next 84 = .ok (.aload_n 0, 1) := by decide +kernel
theorem dX7_next_85 : decode cX7_next 85 = .ok (.aload_n 0, 1) := by decide +kernel
theorem dX7_next_86 : decode cX7_next 86 = .ok (.getfield 246, 3) := by decide +kernel
theorem dX7_next_89 : decode cX7_next 89 = .ok (.invokevirtual 252, 3) := by decide +kernel
theorem dX7_next_92 : decode cX7_next 92 = .ok (.bipush 97, 2) := by decide +kernel
theorem dX7_next_94 : decode cX7_next 94 = .ok (.bipush 122, 2) := by decide +kernel
theorem dX7_next_96 : decode cX7_next 96 = .ok (.invokestatic 88, 3) := by decide +kernel
theorem dX7_next_99 : decode cX7_next 99 = .ok (.ifCond .eq 107, 3) := by decide +kernel
theorem dX7_next_102 : decode cX7_next 102 = .ok (.aload_n 0, 1) := by decide +kernel
theorem dX7_next_103 : decode cX7_next 103 = .ok (.dup, 1) := by decide +kernel
theorem dX7_next_104 : decode cX7_next 104 = .ok (.getfield 246, 3) := by decide +kernel
theorem dX7_next_107 : decode cX7_next 107 = .ok (.iconst 1, 1) := by decide +kernel
theorem dX7_next_108 : decode cX7_next 108 = .ok (.iadd, 1) := by decide +kernel
theorem dX7_next_109 : decode cX7_next 109 = .ok (.putfield 246, 3) := by decide +kernel
theorem dX7_next_112 : decode cX7_next 112 = .ok (.goto (-28), 3) := by decide +kernel
theorem dX7_next_115 : decode cX7_next 115 = .ok (.iload_n 1, 1) := by decide +kernel
theorem dX7_next_116 : decode cX7_next 116 = .ok (.bipush 48, 2) := by decide +kernel
theorem dX7_next_118 : decode cX7_next 118 = .ok (.bipush 57, 2) := by decide +kernel
theorem dX7_next_120 : decode cX7_next 120 = .ok (.invokestatic 88, 3) := by decide +kernel
theorem dX7_next_123 : decode cX7_next 123 = .ok (.ifCond .eq 68, 3) := by decide +kernel
theorem dX7_next_126 : decode cX7_next 126 = .ok (.aload_n 0, 1) := by decide +kernel
theorem dX7_next_127 : decode cX7_next 127 = .ok (.iconst 2, 1) := by decide +kernel
theorem dX7_next_128 : decode cX7_next 128 = .ok (.putfield 258, 3) := by decide +kernel
theorem dX7_next_131 : decode cX7_next 131 = .ok (.aload_n 0, 1) := by decide +kernel
theorem dX7_next_132 : decode cX7_next 132 = .ok (.aload_n 0, 1) := by decide +kernel
theorem dX7_next_133 : decode cX7_next 133 = .ok (.getfield 246, 3) := by decide +kernel
theorem dX7_next_136 : decode cX7_next 136 = .ok (.invokevirtual 252, 3) := by decide +kernel
theorem dX7_next_139 : decode cX7_next 139 = .ok (.bipush 48, 2) := by decide +kernel
theorem dX7_next_141 : decode cX7_next 141 = .ok (.bipush 57, 2) := by decide +kernel
theorem dX7_next_143 : decode cX7_next 143 = .ok (.invokestatic 88, 3) := by decide +kernel
theorem dX7_next_146 : decode cX7_next 146 = .ok (.ifCond .eq 60, 3) := by decide +kernel
theorem dX7_next_149 : decode cX7_next 149 = .ok (.aload_n 0, 1) := by decide +kernel
theorem dX7_next_150 : decode cX7_next 150 = .ok (.sipush 1000, 3) := by decide +kernel
theorem dX7_next_153 : decode cX7_next 153 = .ok (.bipush 10, 2) := by decide +kernel
theorem dX7_next_155 : decode cX7_next 155 = .ok (.aload_n 0, 1) := by decide +kernel
theorem dX7_next_156 : decode cX7_next 156 = .ok (.getfield 255, 3) := by decide +kernel
theorem dX7_next_159 : decode cX7_next 159 = .ok (.imul, 1) := by decide +kernel
theorem dX7_next_160 : decode cX7_next 160 = .ok (.aload_n 0, 1) := by decide +kernel
theorem dX7_next_161 : decode cX7_next 161 = .ok (.aload_n 0, 1) := by decide +kernel
theorem dX7_next_162 : decode cX7_next 162 = .ok (.getfield 246, 3) := by decide +kernel
theorem dX7_next_165 : decode cX7_next 165 = .ok (.invokevirtual 252, 3) := by decide +kernel
theorem dX7_next_168 : decode cX7_next 168 = .ok (.iadd, 1) := by decide +kernel
theorem dX7_next_169 : decode cX7_next 169 = .ok (.bipush 48, 2) := by decide +kernel
theorem dX7_next_171 : decode cX7_next 171 = .ok (.isub, 1) := by decide +kernel
theorem dX7_next_172 : decode cX7_next 172 = .ok (.invokestatic 79, 3) := by decide +kernel
theorem dX7_next_175 : decode cX7_next 175 = .ok (.putfield 255, 3) := by decide +kernel
theorem dX7_next_178 : decode cX7_next 178 = .ok (.aload_n 0, 1) := by decide +kernel
theorem dX7_next_179 : decode cX7_next 179 = .ok (.dup, 1) := by decide +kernel
theorem dX7_next_180 : decode cX7_next 180 = .ok (.getfield 246, 3) := by decide +kernel
theorem dX7_next_183 : decode cX7_next 183 = .ok (.iconst 1, 1) := by decide +kernel
theorem dX7_next_184 : decode cX7_next 184 = .ok (.iadd, 1) := by decide +kernel
theorem dX7_next_185 : decode cX7_next 185 = .ok (.putfield 246, 3) := by decide +kernel
theorem dX7_next_188 : decode cX7_next 188 = .ok (.goto (-57), 3) := by decide +kernel
theorem dX7_next_191 : decode cX7_next 191 = .ok (.aload_n 0, 1) := by decide +kernel
theorem dX7_next_192 : decode cX7_next 192 = .ok (.iconst 3, 1) := by decide +kernel
theorem dX7_next_193 : decode cX7_next 193 = .ok (.putfield 258, 3) := by decide +kernel
theorem dX7_next_196 : decode cX7_next 196 = .ok (.aload_n 0, 1) := by decide +kernel
theorem dX7_next_197 : decode cX7_next 197 = .ok (.dup, 1) := by decide +kernel
theorem dX7_next_198 : decode cX7_next 198 = .ok (.getfield 246, 3) := by decide +kernel
theorem dX7_next_201 : decode cX7_next 201 = .ok (.iconst 1, 1) := by decide +kernel
theorem dX7_next_202 : decode cX7_next 202 = .ok (.iadd, 1) := by decide +kernel
theorem dX7_next_203 : decode cX7_next 203 = .ok (.putfield 246, 3) := by decide +kernel
theorem dX7_next_206 : decode cX7_next 206 = .ok (.return_, 1) := by decide +kernel
theorem dX7_isWord_0 : decode cX7_isWord 0 = .ok (.aload_n 0, 1) := by decide +kernel
theorem dX7_isWord_1 : decode cX7_isWord 1 = .ok (.getfield 258, 3) := by decide +kernel
theorem dX7_isWord_4 : decode cX7_isWord 4 = .ok (.iconst 1, 1) := by decide +kernel
theorem dX7_isWord_5 : decode cX7_isWord 5 = .ok (.if_icmp .ne 23, 3) := by decide +kernel
theorem dX7_isWord_8 : decode cX7_isWord 8 = .ok (.aload_n 0, 1) := by decide +kernel
theorem dX7_isWord_9 : decode cX7_isWord 9 = .ok (.getfield 246, 3) := by decide +kernel
theorem dX7_isWord_12 : decode cX7_isWord 12 = .ok (.aload_n 0, 1) := by decide +kernel
theorem dX7_isWord_13 : decode cX7_isWord 13 = .ok (.getfield 249, 3) := by decide +kernel
theorem dX7_isWord_16 : decode cX7_isWord 16 = .ok (.isub, 1) := by decide +kernel
theorem dX7_isWord_17 : decode cX7_isWord 17 = .ok (.aload_n 1, 1) := by decide +kernel
theorem dX7_isWord_18 : decode cX7_isWord 18 = .ok (.invokevirtual 261, 3) := by decide +kernel
theorem dX7_isWord_21 : decode cX7_isWord 21 = .ok (.if_icmp .ne 7, 3) := by decide +kernel
theorem dX7_isWord_24 : decode cX7_isWord 24 = .ok (.iconst 1, 1) := by decide +kernel
theorem dX7_isWord_25 : decode cX7_isWord 25 = .ok (.goto 4, 3) := by decide +kernel
theorem dX7_isWord_28 : decode cX7_isWord 28 = .ok (.iconst 0, 1) := by decide +kernel
theorem dX7_isWord_29 : decode cX7_isWord 29 = .ok (.istore_n 2, 1) := by decide +kernel
theorem dX7_isWord_30 : decode cX7_isWord 30 = .ok (.iconst 0, 1) := by decide +kernel
theorem dX7_isWord_31 : decode cX7_isWord 31 = .ok (.istore_n 3, 1) := by decide +kernel
theorem dX7_isWord_32 : decode cX7_isWord 32 = .ok (.iload_n 3, 1) := by decide +kernel
theorem dX7_isWord_33 : decode cX7_isWord 33 = .ok (.aload_n 1, 1) := by decide +kernel
theorem dX7_isWord_34 : decode cX7_isWord 34 = .ok (.invokevirtual 261, 3) := by decide +kernel
theorem dX7_isWord_37 : decode cX7_isWord 37 = .ok (.if_icmp .ge 38, 3) := by decide +kernel
theorem dX7_isWord_40 : decode cX7_isWord 40 = .ok (.iload_n 2, 1) := by decide +kernel
theorem dX7_isWord_41 : decode cX7_isWord 41 = .ok (.ifCond .eq 34, 3) := by decide +kernel
theorem dX7_isWord_44 : decode cX7_isWord 44 = .ok (.aload_n 0, 1) := by decide +kernel
theorem dX7_isWord_45 : decode cX7_isWord 45 = .ok (.getfield 31, 3) := by decide +kernel
theorem dX7_isWord_48 : decode cX7_isWord 48 = .ok (.aload_n 0, 1) := by decide +kernel
theorem dX7_isWord_49 : decode cX7_isWord 49 = .ok (.getfield 249, 3) := by decide +kernel
theorem dX7_isWord_52 : decode cX7_isWord 52 = .ok (.iload_n 3, 1) := by decide +kernel
theorem dX7_isWord_53 : decode cX7_isWord 53 = .ok (.iadd, 1) := by decide +kernel
theorem dX7_isWord_54 : decode cX7_isWord 54 = .ok (.iaload, 1) := by decide +kernel
theorem dX7_isWord_55 : decode cX7_isWord 55 = .ok (.aload_n 1, 1) := by decide +kernel
theorem dX7_isWord_56 : decode cX7_isWord 56 = .ok (.iload_n 3, 1) := by decide +kernel
theorem dX7_isWord_57 : decode cX7_isWord 57 = .ok (.invokevirtual 264, 3) := by decide +kernel
theorem dX7_isWord_60 : decode cX7_isWord 60 = .ok (.if_icmp .ne 7, 3) := by decide +kernel
theorem dX7_isWord_63 : decode cX7_isWord 63 = .ok (.iconst 1, 1) := by decide +kernel
theorem dX7_isWord_64 : decode cX7_isWord 64 = .ok (.goto 4, 3) := by decide +kernel
theorem dX7_isWord_67 : decode cX7_isWord 67 = .ok (.iconst 0, 1) := by decide +kernel
theorem dX7_isWord_68 : decode cX7_isWord 68 = .ok (.istore_n 2, 1) := by decide +kernel
theorem dX7_isWord_69 : decode cX7_isWord 69 = .ok (.iinc 3 1, 3) := by decide +kernel
theorem dX7_isWord_72 : decode cX7_isWord 72 = .ok (.goto (-40), 3) := by decide +kernel
theorem dX7_isWord_75 : decode cX7_isWord 75 = .ok (.iload_n 2, 1) := by decide +kernel
theorem dX7_isWord_76 : decode cX7_isWord 76 = .ok (.ireturn, 1) := by decide +kernel
theorem dX7_must_0 : decode cX7_must 0 = .ok (.aload_n 0, 1) := by decide +kernel
theorem dX7_must_1 : decode cX7_must 1 = .ok (.aload_n 0, 1) := by decide +kernel
theorem dX7_must_2 : decode cX7_must 2 = .ok (.getfield 268, 3) := by decide +kernel
theorem dX7_must_5 : decode cX7_must 5 = .ok (.ifCond .ne 7, 3) := by decide +kernel
theorem dX7_must_8 : decode cX7_must 8 = .ok (.iload_n 1, 1) := by decide +kernel
theorem dX7_must_9 : decode cX7_must 9 = .ok (.ifCond .ne 7, 3) := by decide +kernel
theorem dX7_must_12 : decode cX7_must 12 = .ok (.iconst 1, 1) := by decide +kernel
theorem dX7_must_13 : decode cX7_must 13 = .ok (.goto 4, 3) := by decide +kernel
theorem dX7_must_16 : decode cX7_must 16 = .ok (.iconst 0, 1) := by decide +kernel
theorem dX7_must_17 : decode cX7_must 17 = .ok (.putfield 268, 3) := by decide +kernel
theorem dX7_must_20 : decode cX7_must 20 = .ok (.aload_n 0, 1) := by decide +kernel
theorem dX7_must_21 : decode cX7_must 21 = .ok (.getfield 268, 3) := by decide +kernel
theorem dX7_must_24 : decode cX7_must 24 = .ok (.ifCond .ne 7, 3) := by decide +kernel
theorem dX7_must_27 : decode cX7_must 27 = .ok (.aload_n 0, 1) := by decide +kernel
theorem dX7_must_28 : decode cX7_must 28 = .ok (.invokevirtual 272, 3) := by decide +kernel
theorem dX7_must_31 : decode cX7_must 31 = .ok (.return_, 1) := by decide +kernel
theorem dX7_number_0 : decode cX7_number 0 = .ok (.aload_n 0, 1) := by decide +kernel
theorem dX7_number_1 : decode cX7_number 1 = .ok (.getfield 255, 3) := by decide +kernel
theorem dX7_number_4 : decode cX7_number 4 = .ok (.istore_n 3, 1) := by decide +kernel
theorem dX7_number_5 : decode cX7_number 5 = .ok (.aload_n 0, 1) := by decide +kernel
theorem dX7_number_6 : decode cX7_number 6 = .ok (.aload_n 0, 1) := by decide +kernel
theorem dX7_number_7 : decode cX7_number 7 = .ok (.getfield 258, 3) := by decide +kernel
theorem dX7_number_10 : decode cX7_number 10 = .ok (.iconst 2, 1) := by decide +kernel
theorem dX7_number_11 : decode cX7_number 11 = .ok (.if_icmp .ne 16, 3) := by decide +kernel
theorem dX7_number_14 : decode cX7_number 14 = .ok (.iload_n 3, 1) := by decide +kernel
theorem dX7_number_15 : decode cX7_number 15 = .ok (.iload_n 1, 1) := by decide +kernel
theorem dX7_number_16 : decode cX7_number 16 = .ok (.iload_n 2, 1) := by decide +kernel
theorem dX7_number_17 : decode cX7_number 17 = .ok (.invokestatic 88, 3) := by decide +kernel
theorem dX7_number_20 : decode cX7_number 20 = .ok (.ifCond .eq 7, 3) := by decide +kernel
theorem dX7_number_23 : decode cX7_number 23 = .ok (.iconst 1, 1) := by decide +kernel
theorem dX7_number_24 : decode cX7_number 24 = .ok (.goto 4, 3) := by decide +kernel
theorem dX7_number_27 : decode cX7_number 27 = .ok (.iconst 0, 1) := by decide +kernel
theorem dX7_number_28 : decode cX7_number 28 = .ok (.invokevirtual 275, 3) := by decide +kernel
theorem dX7_number_31 : decode cX7_number 31 = .ok (.iload_n 3, 1) := by decide +kernel
theorem dX7_number_32 : decode cX7_number 32 = .ok (.ireturn, 1) := by decide +kernel
theorem dX7_addItem_0 : decode cX7_addItem 0 = .ok (.iconst 3, 1) := by decide +kernel
theorem dX7_addItem_1 : decode cX7_addItem 1 = .ok (.aload_n 0, 1) := by decide +kernel
theorem dX7_addItem_2 : decode cX7_addItem 2 = .ok (.getfield 279, 3) := by decide +kernel
theorem dX7_addItem_5 : decode cX7_addItem 5 = .ok (.imul, 1) := by decide +kernel
theorem dX7_addItem_6 : decode cX7_addItem 6 = .ok (.istore 4, 2) := by decide +kernel
theorem dX7_addItem_8 : decode cX7_addItem 8 = .ok (.aload_n 0, 1) := by decide +kernel
theorem dX7_addItem_9 : decode cX7_addItem 9 = .ok (.getfield 54, 3) := by decide +kernel
theorem dX7_addItem_12 : decode cX7_addItem 12 = .ok (.iload 4, 2) := by decide +kernel
theorem dX7_addItem_14 : decode cX7_addItem 14 = .ok (.iload_n 1, 1) := by decide +kernel
theorem dX7_addItem_15 : decode cX7_addItem 15 = .ok (.iastore, 1) := by decide +kernel
theorem dX7_addItem_16 : decode cX7_addItem 16 = .ok (.aload_n 0, 1) := by decide +kernel
theorem dX7_addItem_17 : decode cX7_addItem 17 = .ok (.getfield 54, 3) := by decide +kernel
theorem dX7_addItem_20 : decode cX7_addItem 20 = .ok (.iload 4, 2) := by decide +kernel
theorem dX7_addItem_22 : decode cX7_addItem 22 = .ok (.iconst 1, 1) := by decide +kernel
theorem dX7_addItem_23 : decode cX7_addItem 23 = .ok (.iadd, 1) := by decide +kernel
theorem dX7_addItem_24 : decode cX7_addItem 24 = .ok (.iload_n 2, 1) := by decide +kernel
theorem dX7_addItem_25 : decode cX7_addItem 25 = .ok (.iastore, 1) := by decide +kernel
theorem dX7_addItem_26 : decode cX7_addItem 26 = .ok (.aload_n 0, 1) := by decide +kernel
theorem dX7_addItem_27 : decode cX7_addItem 27 = .ok (.getfield 54, 3) := by decide +kernel
theorem dX7_addItem_30 : decode cX7_addItem 30 = .ok (.iload 4, 2) := by decide +kernel
theorem dX7_addItem_32 : decode cX7_addItem 32 = .ok (.iconst 2, 1) := by decide +kernel
theorem dX7_addItem_33 : decode cX7_addItem 33 = .ok (.iadd, 1) := by decide +kernel
theorem dX7_addItem_34 : decode cX7_addItem 34 = .ok (.iload_n 3, 1) := by decide +kernel
theorem dX7_addItem_35 : decode cX7_addItem 35 = .ok (.iastore, 1) := by decide +kernel
theorem dX7_addItem_36 : decode cX7_addItem 36 = .ok (.aload_n 0, 1) := by decide +kernel
theorem dX7_addItem_37 : decode cX7_addItem 37 = .ok (.dup, 1) := by decide +kernel
theorem dX7_addItem_38 : decode cX7_addItem 38 = .ok (.getfield 279, 3) := by decide +kernel
theorem dX7_addItem_41 : decode cX7_addItem 41 = .ok (.iconst 1, 1) := by decide +kernel
theorem dX7_addItem_42 : decode cX7_addItem 42 = .ok (.iadd, 1) := by decide +kernel
theorem dX7_addItem_43 : decode cX7_addItem 43 = .ok (.putfield 279, 3) := by decide +kernel
theorem dX7_addItem_46 : decode cX7_addItem 46 = .ok (.return_, 1) := by decide +kernel
theorem dX7_kindTold_0 : decode cX7_kindTold 0 = .ok (.iconst (-1), 1) := by decide +kernel
theorem dX7_kindTold_1 : decode cX7_kindTold 1 = .ok (.istore_n 1, 1) := by decide +kernel
theorem dX7_kindTold_2 : decode cX7_kindTold 2 = .ok (.iconst 0, 1) := by decide +kernel
theorem dX7_kindTold_3 : decode cX7_kindTold 3 = .ok (.istore_n 2, 1) := by decide +kernel
theorem dX7_kindTold_4 : decode cX7_kindTold 4 = .ok (.iload_n 2, 1) := by decide +kernel
theorem dX7_kindTold_5 : decode cX7_kindTold 5 = .ok (.aload_n 0, 1) := by decide +kernel
theorem dX7_kindTold_6 : decode cX7_kindTold 6 = .ok (.getfield 50, 3) := by decide +kernel
theorem dX7_kindTold_9 : decode cX7_kindTold 9 = .ok (.arraylength, 1) := by decide +kernel
theorem dX7_kindTold_10 : decode cX7_kindTold 10 = .ok (.if_icmp .ge 28, 3) := by decide +kernel
theorem dX7_kindTold_13 : decode cX7_kindTold 13 = .ok (.aload_n 0, 1) := by decide +kernel
theorem dX7_kindTold_14 : decode cX7_kindTold 14 = .ok (.aload_n 0, 1) := by decide +kernel
theorem dX7_kindTold_15 : decode cX7_kindTold 15 = .ok (.getfield 50, 3) := by decide +kernel
theorem dX7_kindTold_18 : decode cX7_kindTold 18 = .ok (.iload_n 2, 1) := by decide +kernel
theorem dX7_kindTold_19 : decode cX7_kindTold 19 = .ok (.aaload, 1) := by decide +kernel
theorem dX7_kindTold_20 : decode cX7_kindTold 20 = .ok (.invokevirtual 282, 3) := by decide +kernel
theorem dX7_kindTold_23 : decode cX7_kindTold 23 = .ok (.ifCond .eq 7, 3) := by decide +kernel
theorem dX7_kindTold_26 : decode cX7_kindTold 26 = .ok (.iload_n 2, 1) := by decide +kernel
theorem dX7_kindTold_27 : decode cX7_kindTold 27 = .ok (.goto 4, 3) := by decide +kernel
theorem dX7_kindTold_30 : decode cX7_kindTold 30 = .ok (.iload_n 1, 1) := by decide +kernel
theorem dX7_kindTold_31 : decode cX7_kindTold 31 = .ok (.istore_n 1, 1) := by decide +kernel
theorem dX7_kindTold_32 : decode cX7_kindTold 32 = .ok (.iinc 2 1, 3) := by decide +kernel
theorem dX7_kindTold_35 : decode cX7_kindTold 35 = .ok (.goto (-31), 3) := by decide +kernel
theorem dX7_kindTold_38 : decode cX7_kindTold 38 = .ok (.iload_n 1, 1) := by decide +kernel
theorem dX7_kindTold_39 : decode cX7_kindTold 39 = .ok (.ireturn, 1) := by decide +kernel
theorem dX7_afterWord_0 : decode cX7_afterWord 0 = .ok (.aload_n 0, 1) := by decide +kernel
theorem dX7_afterWord_1 : decode cX7_afterWord 1 = .ok (.getfield 268, 3) := by decide +kernel
theorem dX7_afterWord_4 : decode cX7_afterWord 4 = .ok (.ifCond .ne 11, 3) := by decide +kernel
theorem dX7_afterWord_7 : decode cX7_afterWord 7 = .ok (.aload_n 0, 1) := by decide +kernel
theorem dX7_afterWord_8 : decode cX7_afterWord 8 = .ok (.aload_n 1, 1) := by decide +kernel
theorem dX7_afterWord_9 : decode cX7_afterWord 9 = .ok (.invokevirtual 282, 3) := by decide +kernel
theorem dX7_afterWord_12 : decode cX7_afterWord 12 = .ok (.ifCond .ne 5, 3) := by decide +kernel
theorem dX7_afterWord_15 : decode cX7_afterWord 15 = .ok (.iload_n 2, 1) := by decide +kernel
theorem dX7_afterWord_16 : decode cX7_afterWord 16 = .ok (.ireturn, 1) := by decide +kernel
theorem dX7_afterWord_17 : decode cX7_afterWord 17 = .ok (.aload_n 0, 1) := by decide +kernel
theorem dX7_afterWord_18 : decode cX7_afterWord 18 = .ok (.iconst 1, 1) := by decide +kernel
theorem dX7_afterWord_19 : decode cX7_afterWord 19 = .ok (.invokevirtual 275, 3) := by decide +kernel
theorem dX7_afterWord_22 : decode cX7_afterWord 22 = .ok (.aload_n 0, 1) := by decide +kernel
theorem dX7_afterWord_23 : decode cX7_afterWord 23 = .ok (.iconst 0, 1) := by decide +kernel
theorem dX7_afterWord_24 : decode cX7_afterWord 24 = .ok (.bipush 99, 2) := by decide +kernel
theorem dX7_afterWord_26 : decode cX7_afterWord 26 = .ok (.invokevirtual 286, 3) := by decide +kernel
theorem dX7_afterWord_29 : decode cX7_afterWord 29 = .ok (.ireturn, 1) := by decide +kernel
theorem dX7_readItem_0 : decode cX7_readItem 0 = .ok (.aload_n 0, 1) := by decide +kernel
theorem dX7_readItem_1 : decode cX7_readItem 1 = .ok (.invokevirtual 289, 3) := by decide +kernel
theorem dX7_readItem_4 : decode cX7_readItem 4 = .ok (.istore_n 1, 1) := by decide +kernel
theorem dX7_readItem_5 : decode cX7_readItem 5 = .ok (.iload_n 1, 1) := by decide +kernel
theorem dX7_readItem_6 : decode cX7_readItem 6 = .ok (.ifCond .lt 59, 3) := by decide +kernel
theorem dX7_readItem_9 : decode cX7_readItem 9 = .ok (.aload_n 0, 1) := by decide +kernel
theorem dX7_readItem_10 : decode cX7_readItem 10 = .ok (.aload_n 0, 1) := by decide +kernel
theorem dX7_readItem_11 : decode cX7_readItem 11 = .ok (.getfield 292, 3) := by decide +kernel
theorem dX7_readItem_14 : decode cX7_readItem 14 = .ok (.bipush 6, 2) := by decide +kernel
theorem dX7_readItem_16 : decode cX7_readItem 16 = .ok (.if_icmp .ge 7, 3) := by decide +kernel
theorem dX7_readItem_19 : decode cX7_readItem 19 = .ok (.iconst 1, 1) := by decide +kernel
theorem dX7_readItem_20 : decode cX7_readItem 20 = .ok (.goto 4, 3) := by decide +kernel
theorem dX7_readItem_23 : decode cX7_readItem 23 = .ok (.iconst 0, 1) := by decide +kernel
theorem dX7_readItem_24 : decode cX7_readItem 24 = .ok (.invokevirtual 275, 3) := by decide +kernel
theorem dX7_readItem_27 : decode cX7_readItem 27 = .ok (.aload_n 0, 1) := by decide +kernel
theorem dX7_readItem_28 : decode cX7_readItem 28 = .ok (.dup, 1) := by decide +kernel
theorem dX7_readItem_29 : decode cX7_readItem 29 = .ok (.getfield 292, 3) := by decide +kernel
theorem dX7_readItem_32 : decode cX7_readItem 32 = .ok (.iconst 1, 1) := by decide +kernel
theorem dX7_readItem_33 : decode cX7_readItem 33 = .ok (.iadd, 1) := by decide +kernel
theorem dX7_readItem_34 : decode cX7_readItem 34 = .ok (.putfield 292, 3) := by decide +kernel
theorem dX7_readItem_37 : decode cX7_readItem 37 = .ok (.aload_n 0, 1) := by decide +kernel
theorem dX7_readItem_38 : decode cX7_readItem 38 = .ok (.ldc_w 295, 3) := by decide +kernel
theorem dX7_readItem_41 : decode cX7_readItem 41 = .ok (.bipush 50, 2) := by decide +kernel
theorem dX7_readItem_43 : decode cX7_readItem 43 = .ok (.invokevirtual 297, 3) := by decide +kernel
theorem dX7_readItem_46 : decode cX7_readItem 46 = .ok (.istore_n 2, 1) := by decide +kernel
theorem dX7_readItem_47 : decode cX7_readItem 47 = .ok (.aload_n 0, 1) := by decide +kernel
theorem dX7_readItem_48 : decode cX7_readItem 48 = .ok (.iload_n 1, 1) := by decide +kernel
theorem dX7_readItem_49 : decode cX7_readItem 49 = .ok (.iload_n 2, 1) := by decide +kernel
theorem dX7_readItem_50 : decode cX7_readItem 50 = .ok (.aload_n 0, 1) := by decide +kernel
theorem dX7_readItem_51 : decode cX7_readItem 51 = .ok (.ldc_w 301, 3) := by decide +kernel
theorem dX7_readItem_54 : decode cX7_readItem 54 = .ok (.bipush 30, 2) := by decide +kernel
theorem dX7_readItem_56 : decode cX7_readItem 56 = .ok (.invokevirtual 297, 3) := by decide +kernel
theorem dX7_readItem_59 : decode cX7_readItem 59 = .ok (.invokevirtual 303, 3) := by decide +kernel
theorem dX7_readItem_62 : decode cX7_readItem 62 = .ok (.goto 129, 3) := by decide +kernel
theorem dX7_readItem_65 : decode cX7_readItem 65 = .ok (.aload_n 0, 1) := by decide +kernel
theorem dX7_readItem_66 : decode cX7_readItem 66 = .ok (.ldc_w 307, 3) := by decide +kernel
theorem dX7_readItem_69 : decode cX7_readItem 69 = .ok (.invokevirtual 282, 3) := by decide +kernel
theorem dX7_readItem_72 : decode cX7_readItem 72 = .ok (.ifCond .eq 33, 3) := by decide +kernel
theorem dX7_readItem_75 : decode cX7_readItem 75 = .ok (.aload_n 0, 1) := by decide +kernel
theorem dX7_readItem_76 : decode cX7_readItem 76 = .ok (.iconst 1, 1) := by decide +kernel
theorem dX7_readItem_77 : decode cX7_readItem 77 = .ok (.invokevirtual 275, 3) := by decide +kernel
theorem dX7_readItem_80 : decode cX7_readItem 80 = .ok (.aload_n 0, 1) := by decide +kernel
theorem dX7_readItem_81 : decode cX7_readItem 81 = .ok (.iconst 0, 1) := by decide +kernel
theorem dX7_readItem_82 : decode cX7_readItem 82 = .ok (.bipush 11, 2) := by decide +kernel
theorem dX7_readItem_84 : decode cX7_readItem 84 = .ok (.invokevirtual 286, 3) := by decide +kernel
theorem dX7_readItem_87 : decode cX7_readItem 87 = .ok (.istore_n 2, 1) := by decide +kernel
theorem dX7_readItem_88 : decode cX7_readItem 88 = .ok (.aload_n 0, 1) := by decide +kernel
theorem dX7_readItem_89 : decode cX7_readItem 89 = .ok (.bipush 10, 2) := by decide +kernel
theorem dX7_readItem_91 : decode cX7_readItem 91 = .ok (.iload_n 2, 1) := by decide +kernel
theorem dX7_readItem_92 : decode cX7_readItem 92 = .ok (.aload_n 0, 1) := by decide +kernel
theorem dX7_readItem_93 : decode cX7_readItem 93 = .ok (.iconst 0, 1) := by decide +kernel
theorem dX7_readItem_94 : decode cX7_readItem 94 = .ok (.bipush 99, 2) := by decide +kernel
theorem dX7_readItem_96 : decode cX7_readItem 96 = .ok (.invokevirtual 286, 3) := by decide +kernel
theorem dX7_readItem_99 : decode cX7_readItem 99 = .ok (.invokevirtual 303, 3) := by decide +kernel
theorem dX7_readItem_102 : decode cX7_readItem 102 = .ok (.goto 89, 3) := by decide +kernel
theorem dX7_readItem_105 : decode cX7_readItem 105 = .ok (.aload_n 0, 1) := by decide +kernel
theorem dX7_readItem_106 : decode cX7_readItem 106 = .ok (.ldc_w 309, 3) := by decide +kernel
theorem dX7_readItem_109 : decode cX7_readItem 109 = .ok (.invokevirtual 282, 3) := by decide +kernel
theorem dX7_readItem_112 : decode cX7_readItem 112 = .ok (.ifCond .eq 26, 3) := by decide +kernel
theorem dX7_readItem_115 : decode cX7_readItem 115 = .ok (.aload_n 0, 1) := by decide +kernel
theorem dX7_readItem_116 : decode cX7_readItem 116 = .ok (.iconst 1, 1) := by decide +kernel
theorem dX7_readItem_117 : decode cX7_readItem 117 = .ok (.invokevirtual 275, 3) := by decide +kernel
theorem dX7_readItem_120 : decode cX7_readItem 120 = .ok (.aload_n 0, 1) := by decide +kernel
theorem dX7_readItem_121 : decode cX7_readItem 121 = .ok (.bipush 10, 2) := by decide +kernel
theorem dX7_readItem_123 : decode cX7_readItem 123 = .ok (.aload_n 0, 1) := by decide +kernel
theorem dX7_readItem_124 : decode cX7_readItem 124 = .ok (.iconst 0, 1) := by decide +kernel
theorem dX7_readItem_125 : decode cX7_readItem 125 = .ok (.bipush 11, 2) := by decide +kernel
theorem dX7_readItem_127 : decode cX7_readItem 127 = .ok (.invokevirtual 286, 3) := by decide +kernel
theorem dX7_readItem_130 : decode cX7_readItem 130 = .ok (.bipush 50, 2) := by decide +kernel
theorem dX7_readItem_132 : decode cX7_readItem 132 = .ok (.invokevirtual 303, 3) := by decide +kernel
theorem dX7_readItem_135 : decode cX7_readItem 135 = .ok (.goto 56, 3) := by decide +kernel
theorem dX7_readItem_138 : decode cX7_readItem 138 = .ok (.aload_n 0, 1) := by decide +kernel
theorem dX7_readItem_139 : decode cX7_readItem 139 = .ok (.ldc_w 311, 3) := by decide +kernel
theorem dX7_readItem_142 : decode cX7_readItem 142 = .ok (.invokevirtual 282, 3) := by decide +kernel
theorem dX7_readItem_145 : decode cX7_readItem 145 = .ok (.ifCond .eq 7, 3) := by decide +kernel
theorem dX7_readItem_148 : decode cX7_readItem 148 = .ok (.iconst 1, 1) := by decide +kernel
theorem dX7_readItem_149 : decode cX7_readItem 149 = .ok (.goto 4, 3) := by decide +kernel
theorem dX7_readItem_152 : decode cX7_readItem 152 = .ok (.iconst 0, 1) := by decide +kernel
theorem dX7_readItem_153 : decode cX7_readItem 153 = .ok (.istore_n 2, 1) := by decide +kernel
theorem dX7_readItem_154 : decode cX7_readItem 154 = .ok (.aload_n 0, 1) := by decide +kernel
theorem dX7_readItem_155 : decode cX7_readItem 155 = .ok (.aload_n 0, 1) := by decide +kernel
theorem dX7_readItem_156 : decode cX7_readItem 156 = .ok (.ldc_w 311, 3) := by decide +kernel
theorem dX7_readItem_159 : decode cX7_readItem 159 = .ok (.invokevirtual 282, 3) := by decide +kernel
theorem dX7_readItem_162 : decode cX7_readItem 162 = .ok (.ifCond .ne 13, 3) := by decide +kernel
theorem dX7_readItem_165 : decode cX7_readItem 165 = .ok (.aload_n 0, 1) := by decide +kernel
theorem dX7_readItem_166 : decode cX7_readItem 166 = .ok (.ldc_w 313, 3) := by decide +kernel
theorem dX7_readItem_169 : decode cX7_readItem 169 = .ok (.invokevirtual 282, 3) := by decide +kernel
theorem dX7_readItem_172 : decode cX7_readItem 172 = .ok (.ifCond .eq 7, 3) := by decide +kernel
theorem dX7_readItem_175 : decode cX7_readItem 175 = .ok (.iconst 1, 1) := by decide +kernel
theorem dX7_readItem_176 : decode cX7_readItem 176 = .ok (.goto 4, 3) := by decide +kernel
theorem dX7_readItem_179 : decode cX7_readItem 179 = .ok (.iconst 0, 1) := by decide +kernel
theorem dX7_readItem_180 : decode cX7_readItem 180 = .ok (.invokevirtual 275, 3) := by decide +kernel
theorem dX7_readItem_183 : decode cX7_readItem 183 = .ok (.aload_n 0, 1) := by decide +kernel
theorem dX7_readItem_184 : decode cX7_readItem 184 = .ok (.bipush 11, 2) := by decide +kernel
theorem dX7_readItem_186 : decode cX7_readItem 186 = .ok (.iload_n 2, 1) := by decide +kernel
theorem dX7_readItem_187 : decode cX7_readItem 187 = .ok (.iconst 0, 1) := by decide +kernel
theorem dX7_readItem_188 : decode cX7_readItem 188 = .ok (.invokevirtual 303, 3) := by decide +kernel
theorem dX7_readItem_191 : decode cX7_readItem 191 = .ok (.return_, 1) := by decide +kernel
theorem dX7_isToldSo_0 : decode cX7_isToldSo 0 = .ok (.aload_n 0, 1) := by decide +kernel
theorem dX7_isToldSo_1 : decode cX7_isToldSo 1 = .ok (.getfield 54, 3) := by decide +kernel
theorem dX7_isToldSo_4 : decode cX7_isToldSo 4 = .ok (.iload_n 1, 1) := by decide +kernel
theorem dX7_isToldSo_5 : decode cX7_isToldSo 5 = .ok (.iconst 1, 1) := by decide +kernel
theorem dX7_isToldSo_6 : decode cX7_isToldSo 6 = .ok (.iadd, 1) := by decide +kernel
theorem dX7_isToldSo_7 : decode cX7_isToldSo 7 = .ok (.iaload, 1) := by decide +kernel
theorem dX7_isToldSo_8 : decode cX7_isToldSo 8 = .ok (.istore_n 2, 1) := by decide +kernel
theorem dX7_isToldSo_9 : decode cX7_isToldSo 9 = .ok (.aload_n 0, 1) := by decide +kernel
theorem dX7_isToldSo_10 : decode cX7_isToldSo 10 = .ok (.getfield 54, 3) := by decide +kernel
theorem dX7_isToldSo_13 : decode cX7_isToldSo 13 = .ok (.iload_n 1, 1) := by decide +kernel
theorem dX7_isToldSo_14 : decode cX7_isToldSo 14 = .ok (.iconst 2, 1) := by decide +kernel
theorem dX7_isToldSo_15 : decode cX7_isToldSo 15 = .ok (.iadd, 1) := by decide +kernel
theorem dX7_isToldSo_16 : decode cX7_isToldSo 16 = .ok (.iaload, 1) := by decide +kernel
theorem dX7_isToldSo_17 : decode cX7_isToldSo 17 = .ok (.istore_n 3, 1) := by decide +kernel
theorem dX7_isToldSo_18 : decode cX7_isToldSo 18 = .ok (.aload_n 0, 1) := by decide +kernel
theorem dX7_isToldSo_19 : decode cX7_isToldSo 19 = .ok (.getfield 54, 3) := by decide +kernel
theorem dX7_isToldSo_22 : decode cX7_isToldSo 22 = .ok (.iload_n 1, 1) := by decide +kernel
theorem dX7_isToldSo_23 : decode cX7_isToldSo 23 = .ok (.iaload, 1) := by decide +kernel
theorem dX7_isToldSo_24 : decode cX7_isToldSo 24 = .ok (.bipush 10, 2) := by decide +kernel
theorem dX7_isToldSo_26 : decode cX7_isToldSo 26 = .ok (.if_icmp .ne 15, 3) := by decide +kernel
theorem dX7_isToldSo_29 : decode cX7_isToldSo 29 = .ok (.aload_n 0, 1) := by decide +kernel
theorem dX7_isToldSo_30 : decode cX7_isToldSo 30 = .ok (.bipush 14, 2) := by decide +kernel
theorem dX7_isToldSo_32 : decode cX7_isToldSo 32 = .ok (.iload_n 2, 1) := by decide +kernel
theorem dX7_isToldSo_33 : decode cX7_isToldSo 33 = .ok (.iadd, 1) := by decide +kernel
theorem dX7_isToldSo_34 : decode cX7_isToldSo 34 = .ok (.iload_n 3, 1) := by decide +kernel
theorem dX7_isToldSo_35 : decode cX7_isToldSo 35 = .ok (.invokevirtual 102, 3) := by decide +kernel
theorem dX7_isToldSo_38 : decode cX7_isToldSo 38 = .ok (.goto 35, 3) := by decide +kernel
theorem dX7_isToldSo_41 : decode cX7_isToldSo 41 = .ok (.aload_n 0, 1) := by decide +kernel
theorem dX7_isToldSo_42 : decode cX7_isToldSo 42 = .ok (.getfield 54, 3) := by decide +kernel
theorem dX7_isToldSo_45 : decode cX7_isToldSo 45 = .ok (.iload_n 1, 1) := by decide +kernel
theorem dX7_isToldSo_46 : decode cX7_isToldSo 46 = .ok (.iaload, 1) := by decide +kernel
theorem dX7_isToldSo_47 : decode cX7_isToldSo 47 = .ok (.bipush 11, 2) := by decide +kernel
theorem dX7_isToldSo_49 : decode cX7_isToldSo 49 = .ok (.if_icmp .ne 12, 3) := by decide +kernel
theorem dX7_isToldSo_52 : decode cX7_isToldSo 52 = .ok (.aload_n 0, 1) := by decide +kernel
theorem dX7_isToldSo_53 : decode cX7_isToldSo 53 = .ok (.iconst 3, 1) := by decide +kernel
theorem dX7_isToldSo_54 : decode cX7_isToldSo 54 = .ok (.iload_n 2, 1) := by decide +kernel
theorem dX7_isToldSo_55 : decode cX7_isToldSo 55 = .ok (.invokevirtual 102, 3) := by decide +kernel
theorem dX7_isToldSo_58 : decode cX7_isToldSo 58 = .ok (.goto 15, 3) := by decide +kernel
theorem dX7_isToldSo_61 : decode cX7_isToldSo 61 = .ok (.aload_n 0, 1) := by decide +kernel
theorem dX7_isToldSo_62 : decode cX7_isToldSo 62 = .ok (.aload_n 0, 1) := by decide +kernel
theorem dX7_isToldSo_63 : decode cX7_isToldSo 63 = .ok (.getfield 54, 3) := by decide +kernel
theorem dX7_isToldSo_66 : decode cX7_isToldSo 66 = .ok (.iload_n 1, 1) := by decide +kernel
theorem dX7_isToldSo_67 : decode cX7_isToldSo 67 = .ok (.iaload, 1) := by decide +kernel
theorem dX7_isToldSo_68 : decode cX7_isToldSo 68 = .ok (.iload_n 2, 1) := by decide +kernel
theorem dX7_isToldSo_69 : decode cX7_isToldSo 69 = .ok (.iload_n 3, 1) := by decide +kernel
theorem dX7_isToldSo_70 : decode cX7_isToldSo 70 = .ok (.invokevirtual 109, 3) := by decide +kernel
theorem dX7_isToldSo_73 : decode cX7_isToldSo 73 = .ok (.ireturn, 1) := by decide +kernel
theorem dX7_text_0 : decode cX7_text 0 = .ok (.aload_n 0, 1) := by decide +kernel
theorem dX7_text_1 : decode cX7_text 1 = .ok (.iconst 0, 1) := by decide +kernel
theorem dX7_text_2 : decode cX7_text 2 = .ok (.putfield 246, 3) := by decide +kernel
theorem dX7_text_5 : decode cX7_text 5 = .ok (.aload_n 0, 1) := by decide +kernel
theorem dX7_text_6 : decode cX7_text 6 = .ok (.iconst 0, 1) := by decide +kernel
theorem dX7_text_7 : decode cX7_text 7 = .ok (.putfield 268, 3) := by decide +kernel
theorem dX7_text_10 : decode cX7_text 10 = .ok (.aload_n 0, 1) := by decide +kernel
theorem dX7_text_11 : decode cX7_text 11 = .ok (.iconst 0, 1) := by decide +kernel
theorem dX7_text_12 : decode cX7_text 12 = .ok (.putfield 279, 3) := by decide +kernel
theorem dX7_text_15 : decode cX7_text 15 = .ok (.aload_n 0, 1) := by decide +kernel
theorem dX7_text_16 : decode cX7_text 16 = .ok (.aload_n 0, 1) := by decide +kernel
theorem dX7_text_17 : decode cX7_text 17 = .ok (.getfield 9, 3) := by decide +kernel
theorem dX7_text_20 : decode cX7_text 20 = .ok (.iconst 1, 1) := by decide +kernel
theorem dX7_text_21 : decode cX7_text 21 = .ok (.iaload, 1) := by decide +kernel
theorem dX7_text_22 : decode cX7_text 22 = .ok (.putfield 292, 3) := by decide +kernel
theorem dX7_text_25 : decode cX7_text 25 = .ok (.aload_n 0, 1) := by decide +kernel
theorem dX7_text_26 : decode cX7_text 26 = .ok (.invokevirtual 272, 3) := by decide +kernel
theorem dX7_text_29 : decode cX7_text 29 = .ok (.aload_n 0, 1) := by decide +kernel
theorem dX7_text_30 : decode cX7_text 30 = .ok (.invokevirtual 315, 3) := by decide +kernel
theorem dX7_text_33 : decode cX7_text 33 = .ok (.aload_n 0, 1) := by decide +kernel
theorem dX7_text_34 : decode cX7_text 34 = .ok (.getfield 268, 3) := by decide +kernel
theorem dX7_text_37 : decode cX7_text 37 = .ok (.ifCond .ne 37, 3) := by decide +kernel
theorem dX7_text_40 : decode cX7_text 40 = .ok (.aload_n 0, 1) := by decide +kernel
theorem dX7_text_41 : decode cX7_text 41 = .ok (.getfield 258, 3) := by decide +kernel
theorem dX7_text_44 : decode cX7_text 44 = .ok (.iconst 3, 1) := by decide +kernel
theorem dX7_text_45 : decode cX7_text 45 = .ok (.if_icmp .ne 29, 3) := by decide +kernel
theorem dX7_text_48 : decode cX7_text 48 = .ok (.aload_n 0, 1) := by decide +kernel
theorem dX7_text_49 : decode cX7_text 49 = .ok (.getfield 31, 3) := by decide +kernel
theorem dX7_text_52 : decode cX7_text 52 = .ok (.aload_n 0, 1) := by decide +kernel
theorem dX7_text_53 : decode cX7_text 53 = .ok (.getfield 249, 3) := by decide +kernel
theorem dX7_text_56 : decode cX7_text 56 = .ok (.iaload, 1) := by decide +kernel
theorem dX7_text_57 : decode cX7_text 57 = .ok (.bipush 59, 2) := by decide +kernel
theorem dX7_text_59 : decode cX7_text 59 = .ok (.if_icmp .ne 15, 3) := by decide +kernel
theorem dX7_text_62 : decode cX7_text 62 = .ok (.aload_n 0, 1) := by decide +kernel
theorem dX7_text_63 : decode cX7_text 63 = .ok (.iconst 1, 1) := by decide +kernel
theorem dX7_text_64 : decode cX7_text 64 = .ok (.invokevirtual 275, 3) := by decide +kernel
theorem dX7_text_67 : decode cX7_text 67 = .ok (.aload_n 0, 1) := by decide +kernel
theorem dX7_text_68 : decode cX7_text 68 = .ok (.invokevirtual 315, 3) := by decide +kernel
theorem dX7_text_71 : decode cX7_text 71 = .ok (.goto (-38), 3) := by decide +kernel
theorem dX7_text_74 : decode cX7_text 74 = .ok (.aload_n 0, 1) := by decide +kernel
theorem dX7_text_75 : decode cX7_text 75 = .ok (.aload_n 0, 1) := by decide +kernel
theorem dX7_text_76 : decode cX7_text 76 = .ok (.getfield 258, 3) := by decide +kernel
theorem dX7_text_79 : decode cX7_text 79 = .ok (.ifCond .ne 7, 3) := by decide +kernel
theorem dX7_text_82 : decode cX7_text 82 = .ok (.iconst 1, 1) := by decide +kernel
theorem dX7_text_83 : decode cX7_text 83 = .ok (.goto 4, 3) := by decide +kernel
theorem dX7_text_86 : decode cX7_text 86 = .ok (.iconst 0, 1) := by decide +kernel
theorem dX7_text_87 : decode cX7_text 87 = .ok (.invokevirtual 275, 3) := by decide +kernel
theorem dX7_text_90 : decode cX7_text 90 = .ok (.aload_n 0, 1) := by decide +kernel
theorem dX7_text_91 : decode cX7_text 91 = .ok (.iconst 0, 1) := by decide +kernel
theorem dX7_text_92 : decode cX7_text 92 = .ok (.putfield 243, 3) := by decide +kernel
theorem dX7_text_95 : decode cX7_text 95 = .ok (.aload_n 0, 1) := by decide +kernel
theorem dX7_text_96 : decode cX7_text 96 = .ok (.getfield 268, 3) := by decide +kernel
theorem dX7_text_99 : decode cX7_text 99 = .ok (.ifCond .eq 10, 3) := by decide +kernel
theorem dX7_text_102 : decode cX7_text 102 = .ok (.iconst (-1), 1) := by decide +kernel
theorem dX7_text_103 : decode cX7_text 103 = .ok (.aload_n 0, 1) := by decide +kernel
theorem dX7_text_104 : decode cX7_text 104 = .ok (.getfield 249, 3) := by decide +kernel
theorem dX7_text_107 : decode cX7_text 107 = .ok (.isub, 1) := by decide +kernel
theorem dX7_text_108 : decode cX7_text 108 = .ok (.ireturn, 1) := by decide +kernel
theorem dX7_text_109 : decode cX7_text 109 = .ok (.iconst 0, 1) := by decide +kernel
theorem dX7_text_110 : decode cX7_text 110 = .ok (.istore_n 1, 1) := by decide +kernel
theorem dX7_text_111 : decode cX7_text 111 = .ok (.iconst 0, 1) := by decide +kernel
theorem dX7_text_112 : decode cX7_text 112 = .ok (.istore_n 2, 1) := by decide +kernel
theorem dX7_text_113 : decode cX7_text 113 = .ok (.iload_n 2, 1) := by decide +kernel
theorem dX7_text_114 : decode cX7_text 114 = .ok (.aload_n 0, 1) := by decide +kernel
theorem dX7_text_115 : decode cX7_text 115 = .ok (.getfield 279, 3) := by decide +kernel
theorem dX7_text_118 : decode cX7_text 118 = .ok (.if_icmp .ge 27, 3) := by decide +kernel
theorem dX7_text_121 : decode cX7_text 121 = .ok (.iload_n 1, 1) := by decide +kernel
theorem dX7_text_122 : decode cX7_text 122 = .ok (.aload_n 0, 1) := by decide +kernel
theorem dX7_text_123 : decode cX7_text 123 = .ok (.iconst 3, 1) := by decide +kernel
theorem dX7_text_124 : decode cX7_text 124 = .ok (.iload_n 2, 1) := by decide +kernel
theorem dX7_text_125 : decode cX7_text 125 = .ok (.imul, 1) := by decide +kernel
theorem dX7_text_126 : decode cX7_text 126 = .ok (.invokevirtual 318, 3) := by decide +kernel
theorem dX7_text_129 : decode cX7_text 129 = .ok (.ifCond .ge 7, 3) := by decide +kernel
theorem dX7_text_132 : decode cX7_text 132 = .ok (.iconst 0, 1) := by decide +kernel
theorem dX7_text_133 : decode cX7_text 133 = .ok (.goto 4, 3) := by decide +kernel
theorem dX7_text_136 : decode cX7_text 136 = .ok (.iconst 1, 1) := by decide +kernel
theorem dX7_text_137 : decode cX7_text 137 = .ok (.iadd, 1) := by decide +kernel
theorem dX7_text_138 : decode cX7_text 138 = .ok (.istore_n 1, 1) := by decide +kernel
theorem dX7_text_139 : decode cX7_text 139 = .ok (.iinc 2 1, 3) := by decide +kernel
theorem dX7_text_142 : decode cX7_text 142 = .ok (.goto (-29), 3) := by decide +kernel
theorem dX7_text_145 : decode cX7_text 145 = .ok (.iload_n 1, 1) := by decide +kernel
theorem dX7_text_146 : decode cX7_text 146 = .ok (.ireturn, 1) := by decide +kernel
theorem dX7_isSpot_0 : decode cX7_isSpot 0 = .ok (.iload_n 0, 1) := by decide +kernel
theorem dX7_isSpot_1 : decode cX7_isSpot 1 = .ok (.iconst 0, 1) := by decide +kernel
theorem dX7_isSpot_2 : decode cX7_isSpot 2 = .ok (.bipush 9, 2) := by decide +kernel
theorem dX7_isSpot_4 : decode cX7_isSpot 4 = .ok (.invokestatic 88, 3) := by decide +kernel
theorem dX7_isSpot_7 : decode cX7_isSpot 7 = .ok (.ireturn, 1) := by decide +kernel
theorem dX7_hold_0 : decode cX7_hold 0 = .ok (.iload_n 1, 1) := by decide +kernel
theorem dX7_hold_1 : decode cX7_hold 1 = .ok (.invokestatic 321, 3) := by decide +kernel
theorem dX7_hold_4 : decode cX7_hold 4 = .ok (.ifCond .eq 16, 3) := by decide +kernel
theorem dX7_hold_7 : decode cX7_hold 7 = .ok (.iload_n 2, 1) := by decide +kernel
theorem dX7_hold_8 : decode cX7_hold 8 = .ok (.iconst (-1), 1) := by decide +kernel
theorem dX7_hold_9 : decode cX7_hold 9 = .ok (.if_icmp .eq 18, 3) := by decide +kernel
theorem dX7_hold_12 : decode cX7_hold 12 = .ok (.aload_n 0, 1) := by decide +kernel
theorem dX7_hold_13 : decode cX7_hold 13 = .ok (.iload_n 2, 1) := by decide +kernel
theorem dX7_hold_14 : decode cX7_hold 14 = .ok (.invokevirtual 126, 3) := by decide +kernel
theorem dX7_hold_17 : decode cX7_hold 17 = .ok (.ifCond .ne 10, 3) := by decide +kernel
theorem dX7_hold_20 : decode cX7_hold 20 = .ok (.aload_n 0, 1) := by decide +kernel
theorem dX7_hold_21 : decode cX7_hold 21 = .ok (.ldc 69, 2) := by decide +kernel
theorem dX7_hold_23 : decode cX7_hold 23 = .ok (.invokevirtual 75, 3) := by decide +kernel
theorem dX7_hold_26 : decode cX7_hold 26 = .ok (.ireturn, 1) := by decide +kernel
theorem dX7_hold_27 : decode cX7_hold 27 = .ok (.aload_n 0, 1) := by decide +kernel
theorem dX7_hold_28 : decode cX7_hold 28 = .ok (.getfield 9, 3) := by decide +kernel
theorem dX7_hold_31 : decode cX7_hold 31 = .ok (.iconst 4, 1) := by decide +kernel
theorem dX7_hold_32 : decode cX7_hold 32 = .ok (.iload_n 1, 1) := by decide +kernel
theorem dX7_hold_33 : decode cX7_hold 33 = .ok (.iadd, 1) := by decide +kernel
theorem dX7_hold_34 : decode cX7_hold 34 = .ok (.iload_n 2, 1) := by decide +kernel
theorem dX7_hold_35 : decode cX7_hold 35 = .ok (.iastore, 1) := by decide +kernel
theorem dX7_hold_36 : decode cX7_hold 36 = .ok (.iconst 1, 1) := by decide +kernel
theorem dX7_hold_37 : decode cX7_hold 37 = .ok (.ireturn, 1) := by decide +kernel
theorem dX7_as_0 : decode cX7_as 0 = .ok (.iload_n 1, 1) := by decide +kernel
theorem dX7_as_1 : decode cX7_as 1 = .ok (.invokestatic 321, 3) := by decide +kernel
theorem dX7_as_4 : decode cX7_as 4 = .ok (.ifCond .eq 10, 3) := by decide +kernel
theorem dX7_as_7 : decode cX7_as 7 = .ok (.iload_n 2, 1) := by decide +kernel
theorem dX7_as_8 : decode cX7_as 8 = .ok (.invokestatic 105, 3) := by decide +kernel
theorem dX7_as_11 : decode cX7_as 11 = .ok (.ifCond .ne 10, 3) := by decide +kernel
theorem dX7_as_14 : decode cX7_as 14 = .ok (.aload_n 0, 1) := by decide +kernel
theorem dX7_as_15 : decode cX7_as 15 = .ok (.ldc 69, 2) := by decide +kernel
theorem dX7_as_17 : decode cX7_as 17 = .ok (.invokevirtual 75, 3) := by decide +kernel
theorem dX7_as_20 : decode cX7_as 20 = .ok (.ireturn, 1) := by decide +kernel
theorem dX7_as_21 : decode cX7_as 21 = .ok (.aload_n 0, 1) := by decide +kernel
theorem dX7_as_22 : decode cX7_as 22 = .ok (.getfield 9, 3) := by decide +kernel
theorem dX7_as_25 : decode cX7_as 25 = .ok (.iconst 4, 1) := by decide +kernel
theorem dX7_as_26 : decode cX7_as 26 = .ok (.iload_n 1, 1) := by decide +kernel
theorem dX7_as_27 : decode cX7_as 27 = .ok (.iadd, 1) := by decide +kernel
theorem dX7_as_28 : decode cX7_as 28 = .ok (.iaload, 1) := by decide +kernel
theorem dX7_as_29 : decode cX7_as 29 = .ok (.istore_n 3, 1) := by decide +kernel
theorem dX7_as_30 : decode cX7_as 30 = .ok (.iload_n 3, 1) := by decide +kernel
theorem dX7_as_31 : decode cX7_as 31 = .ok (.ifCond .ge 10, 3) := by decide +kernel
theorem dX7_as_34 : decode cX7_as 34 = .ok (.aload_n 0, 1) := by decide +kernel
theorem dX7_as_35 : decode cX7_as 35 = .ok (.ldc 223, 2) := by decide +kernel
theorem dX7_as_37 : decode cX7_as 37 = .ok (.invokevirtual 75, 3) := by decide +kernel
theorem dX7_as_40 : decode cX7_as 40 = .ok (.ireturn, 1) := by decide +kernel
theorem dX7_as_41 : decode cX7_as 41 = .ok (.aload_n 0, 1) := by decide +kernel
theorem dX7_as_42 : decode cX7_as 42 = .ok (.iload_n 3, 1) := by decide +kernel
theorem dX7_as_43 : decode cX7_as 43 = .ok (.iconst 0, 1) := by decide +kernel
theorem dX7_as_44 : decode cX7_as 44 = .ok (.invokevirtual 113, 3) := by decide +kernel
theorem dX7_as_47 : decode cX7_as 47 = .ok (.iload_n 2, 1) := by decide +kernel
theorem dX7_as_48 : decode cX7_as 48 = .ok (.invokestatic 324, 3) := by decide +kernel
theorem dX7_as_51 : decode cX7_as 51 = .ok (.ifCond .eq 7, 3) := by decide +kernel
theorem dX7_as_54 : decode cX7_as 54 = .ok (.iload_n 3, 1) := by decide +kernel
theorem dX7_as_55 : decode cX7_as 55 = .ok (.goto 10, 3) := by decide +kernel
theorem dX7_as_58 : decode cX7_as 58 = .ok (.aload_n 0, 1) := by decide +kernel
theorem dX7_as_59 : decode cX7_as 59 = .ok (.ldc_w 327, 3) := by decide +kernel
theorem dX7_as_62 : decode cX7_as 62 = .ok (.invokevirtual 75, 3) := by decide +kernel
theorem dX7_as_65 : decode cX7_as 65 = .ok (.ireturn, 1) := by decide +kernel
theorem dX7_isSheet_0 : decode cX7_isSheet 0 = .ok (.iload_n 0, 1) := by decide +kernel
theorem dX7_isSheet_1 : decode cX7_isSheet 1 = .ok (.iconst 0, 1) := by decide +kernel
theorem dX7_isSheet_2 : decode cX7_isSheet 2 = .ok (.iconst 3, 1) := by decide +kernel
theorem dX7_isSheet_3 : decode cX7_isSheet 3 = .ok (.invokestatic 88, 3) := by decide +kernel
theorem dX7_isSheet_6 : decode cX7_isSheet 6 = .ok (.ireturn, 1) := by decide +kernel
theorem dX7_cutTo_0 : decode cX7_cutTo 0 = .ok (.iload_n 1, 1) := by decide +kernel
theorem dX7_cutTo_1 : decode cX7_cutTo 1 = .ok (.bipush 8, 2) := by decide +kernel
theorem dX7_cutTo_3 : decode cX7_cutTo 3 = .ok (.if_icmp .ne 8, 3) := by decide +kernel
theorem dX7_cutTo_6 : decode cX7_cutTo 6 = .ok (.iload_n 0, 1) := by decide +kernel
theorem dX7_cutTo_7 : decode cX7_cutTo 7 = .ok (.i2b, 1) := by decide +kernel
theorem dX7_cutTo_8 : decode cX7_cutTo 8 = .ok (.goto 15, 3) := by decide +kernel
theorem dX7_cutTo_11 : decode cX7_cutTo 11 = .ok (.iload_n 1, 1) := by decide +kernel
theorem dX7_cutTo_12 : decode cX7_cutTo 12 = .ok (.bipush 16, 2) := by decide +kernel
theorem dX7_cutTo_14 : decode cX7_cutTo 14 = .ok (.if_icmp .ne 8, 3) := by decide +kernel
theorem dX7_cutTo_17 : decode cX7_cutTo 17 = .ok (.iload_n 0, 1) := by decide +kernel
theorem dX7_cutTo_18 : decode cX7_cutTo 18 = .ok (.i2s, 1) := by decide +kernel
theorem dX7_cutTo_19 : decode cX7_cutTo 19 = .ok (.goto 4, 3) := by decide +kernel
theorem dX7_cutTo_22 : decode cX7_cutTo 22 = .ok (.iload_n 0, 1) := by decide +kernel
theorem dX7_cutTo_23 : decode cX7_cutTo 23 = .ok (.ireturn, 1) := by decide +kernel
theorem dX7_sheet_0 : decode cX7_sheet 0 = .ok (.iload_n 1, 1) := by decide +kernel
theorem dX7_sheet_1 : decode cX7_sheet 1 = .ok (.invokestatic 220, 3) := by decide +kernel
theorem dX7_sheet_4 : decode cX7_sheet 4 = .ok (.ifCond .eq 25, 3) := by decide +kernel
theorem dX7_sheet_7 : decode cX7_sheet 7 = .ok (.iload_n 2, 1) := by decide +kernel
theorem dX7_sheet_8 : decode cX7_sheet 8 = .ok (.ifCond .eq 28, 3) := by decide +kernel
theorem dX7_sheet_11 : decode cX7_sheet 11 = .ok (.iload_n 2, 1) := by decide +kernel
theorem dX7_sheet_12 : decode cX7_sheet 12 = .ok (.bipush 8, 2) := by decide +kernel
theorem dX7_sheet_14 : decode cX7_sheet 14 = .ok (.if_icmp .eq 22, 3) := by decide +kernel
theorem dX7_sheet_17 : decode cX7_sheet 17 = .ok (.iload_n 2, 1) := by decide +kernel
theorem dX7_sheet_18 : decode cX7_sheet 18 = .ok (.bipush 16, 2) := by decide +kernel
theorem dX7_sheet_20 : decode cX7_sheet 20 = .ok (.if_icmp .eq 16, 3) := by decide +kernel
theorem dX7_sheet_23 : decode cX7_sheet 23 = .ok (.iload_n 2, 1) := by decide +kernel
theorem dX7_sheet_24 : decode cX7_sheet 24 = .ok (.bipush 32, 2) := by decide +kernel
theorem dX7_sheet_26 : decode cX7_sheet 26 = .ok (.if_icmp .eq 10, 3) := by decide +kernel
theorem dX7_sheet_29 : decode cX7_sheet 29 = .ok (.aload_n 0, 1) := by decide +kernel
theorem dX7_sheet_30 : decode cX7_sheet 30 = .ok (.ldc 69, 2) := by decide +kernel
theorem dX7_sheet_32 : decode cX7_sheet 32 = .ok (.invokevirtual 75, 3) := by decide +kernel
theorem dX7_sheet_35 : decode cX7_sheet 35 = .ok (.ireturn, 1) := by decide +kernel
theorem dX7_sheet_36 : decode cX7_sheet 36 = .ok (.iload_n 3, 1) := by decide +kernel
theorem dX7_sheet_37 : decode cX7_sheet 37 = .ok (.ifCond .ge 11, 3) := by decide +kernel
theorem dX7_sheet_40 : decode cX7_sheet 40 = .ok (.aload_n 0, 1) := by decide +kernel
theorem dX7_sheet_41 : decode cX7_sheet 41 = .ok (.ldc_w 328, 3) := by decide +kernel
theorem dX7_sheet_44 : decode cX7_sheet 44 = .ok (.invokevirtual 75, 3) := by decide +kernel
theorem dX7_sheet_47 : decode cX7_sheet 47 = .ok (.ireturn, 1) := by decide +kernel
theorem dX7_sheet_48 : decode cX7_sheet 48 = .ok (.iload_n 3, 1) := by decide +kernel
theorem dX7_sheet_49 : decode cX7_sheet 49 = .ok (.bipush 40, 2) := by decide +kernel
theorem dX7_sheet_51 : decode cX7_sheet 51 = .ok (.if_icmp .le 10, 3) := by decide +kernel
theorem dX7_sheet_54 : decode cX7_sheet 54 = .ok (.aload_n 0, 1) := by decide +kernel
theorem dX7_sheet_55 : decode cX7_sheet 55 = .ok (.ldc 69, 2) := by decide +kernel
theorem dX7_sheet_57 : decode cX7_sheet 57 = .ok (.invokevirtual 75, 3) := by decide +kernel
theorem dX7_sheet_60 : decode cX7_sheet 60 = .ok (.ireturn, 1) := by decide +kernel
theorem dX7_sheet_61 : decode cX7_sheet 61 = .ok (.aload_n 0, 1) := by decide +kernel
theorem dX7_sheet_62 : decode cX7_sheet 62 = .ok (.getfield 57, 3) := by decide +kernel
theorem dX7_sheet_65 : decode cX7_sheet 65 = .ok (.iload_n 1, 1) := by decide +kernel
theorem dX7_sheet_66 : decode cX7_sheet 66 = .ok (.iload_n 2, 1) := by decide +kernel
theorem dX7_sheet_67 : decode cX7_sheet 67 = .ok (.iastore, 1) := by decide +kernel
theorem dX7_sheet_68 : decode cX7_sheet 68 = .ok (.aload_n 0, 1) := by decide +kernel
theorem dX7_sheet_69 : decode cX7_sheet 69 = .ok (.getfield 60, 3) := by decide +kernel
theorem dX7_sheet_72 : decode cX7_sheet 72 = .ok (.iload_n 1, 1) := by decide +kernel
theorem dX7_sheet_73 : decode cX7_sheet 73 = .ok (.iload_n 2, 1) := by decide +kernel
theorem dX7_sheet_74 : decode cX7_sheet 74 = .ok (.ifCond .ne 7, 3) := by decide +kernel
theorem dX7_sheet_77 : decode cX7_sheet 77 = .ok (.iconst 0, 1) := by decide +kernel
theorem dX7_sheet_78 : decode cX7_sheet 78 = .ok (.goto 4, 3) := by decide +kernel
theorem dX7_sheet_81 : decode cX7_sheet 81 = .ok (.iload_n 3, 1) := by decide +kernel
theorem dX7_sheet_82 : decode cX7_sheet 82 = .ok (.iastore, 1) := by decide +kernel
theorem dX7_sheet_83 : decode cX7_sheet 83 = .ok (.iconst 0, 1) := by decide +kernel
theorem dX7_sheet_84 : decode cX7_sheet 84 = .ok (.istore 4, 2) := by decide +kernel
theorem dX7_sheet_86 : decode cX7_sheet 86 = .ok (.iload 4, 2) := by decide +kernel
theorem dX7_sheet_88 : decode cX7_sheet 88 = .ok (.bipush 40, 2) := by decide +kernel
theorem dX7_sheet_90 : decode cX7_sheet 90 = .ok (.if_icmp .ge 22, 3) := by decide +kernel
theorem dX7_sheet_93 : decode cX7_sheet 93 = .ok (.aload_n 0, 1) := by decide +kernel
theorem dX7_sheet_94 : decode cX7_sheet 94 = .ok (.getfield 63, 3) := by decide +kernel
theorem dX7_sheet_97 : decode cX7_sheet 97 = .ok (.bipush 40, 2) := by decide +kernel
theorem dX7_sheet_99 : decode cX7_sheet 99 = .ok (.iload_n 1, 1) := by decide +kernel
theorem dX7_sheet_100 : decode cX7_sheet 100 = .ok (.imul, 1) := by decide +kernel
theorem dX7_sheet_101 : decode cX7_sheet 101 = .ok (.iload 4, 2) := by decide +kernel
theorem dX7_sheet_103 : decode cX7_sheet 103 = .ok (.iadd, 1) := by decide +kernel
theorem dX7_sheet_104 : decode cX7_sheet 104 = .ok (.iconst 0, 1) := by decide +kernel
theorem dX7_sheet_105 : decode cX7_sheet 105 = .ok (.iastore, 1) := by decide +kernel
theorem dX7_sheet_106 : decode cX7_sheet 106 = .ok (.iinc 4 1, 3) := by decide +kernel
theorem dX7_sheet_109 : decode cX7_sheet 109 = .ok (.goto (-23), 3) := by decide +kernel
theorem dX7_sheet_112 : decode cX7_sheet 112 = .ok (.aload_n 0, 1) := by decide +kernel
theorem dX7_sheet_113 : decode cX7_sheet 113 = .ok (.getfield 60, 3) := by decide +kernel
theorem dX7_sheet_116 : decode cX7_sheet 116 = .ok (.iload_n 1, 1) := by decide +kernel
theorem dX7_sheet_117 : decode cX7_sheet 117 = .ok (.iaload, 1) := by decide +kernel
theorem dX7_sheet_118 : decode cX7_sheet 118 = .ok (.ireturn, 1) := by decide +kernel
theorem dX7_write_0 : decode cX7_write 0 = .ok (.iload_n 1, 1) := by decide +kernel
theorem dX7_write_1 : decode cX7_write 1 = .ok (.invokestatic 220, 3) := by decide +kernel
theorem dX7_write_4 : decode cX7_write 4 = .ok (.ifCond .ne 10, 3) := by decide +kernel
theorem dX7_write_7 : decode cX7_write 7 = .ok (.aload_n 0, 1) := by decide +kernel
theorem dX7_write_8 : decode cX7_write 8 = .ok (.ldc 69, 2) := by decide +kernel
theorem dX7_write_10 : decode cX7_write 10 = .ok (.invokevirtual 75, 3) := by decide +kernel
theorem dX7_write_13 : decode cX7_write 13 = .ok (.ireturn, 1) := by decide +kernel
theorem dX7_write_14 : decode cX7_write 14 = .ok (.aload_n 0, 1) := by decide +kernel
theorem dX7_write_15 : decode cX7_write 15 = .ok (.getfield 57, 3) := by decide +kernel
theorem dX7_write_18 : decode cX7_write 18 = .ok (.iload_n 1, 1) := by decide +kernel
theorem dX7_write_19 : decode cX7_write 19 = .ok (.iaload, 1) := by decide +kernel
theorem dX7_write_20 : decode cX7_write 20 = .ok (.ifCond .ne 10, 3) := by decide +kernel
theorem dX7_write_23 : decode cX7_write 23 = .ok (.aload_n 0, 1) := by decide +kernel
theorem dX7_write_24 : decode cX7_write 24 = .ok (.ldc 223, 2) := by decide +kernel
theorem dX7_write_26 : decode cX7_write 26 = .ok (.invokevirtual 75, 3) := by decide +kernel
theorem dX7_write_29 : decode cX7_write 29 = .ok (.ireturn, 1) := by decide +kernel
theorem dX7_write_30 : decode cX7_write 30 = .ok (.iload_n 2, 1) := by decide +kernel
theorem dX7_write_31 : decode cX7_write 31 = .ok (.iconst 0, 1) := by decide +kernel
theorem dX7_write_32 : decode cX7_write 32 = .ok (.aload_n 0, 1) := by decide +kernel
theorem dX7_write_33 : decode cX7_write 33 = .ok (.getfield 60, 3) := by decide +kernel
theorem dX7_write_36 : decode cX7_write 36 = .ok (.iload_n 1, 1) := by decide +kernel
theorem dX7_write_37 : decode cX7_write 37 = .ok (.iaload, 1) := by decide +kernel
theorem dX7_write_38 : decode cX7_write 38 = .ok (.iconst 1, 1) := by decide +kernel
theorem dX7_write_39 : decode cX7_write 39 = .ok (.isub, 1) := by decide +kernel
theorem dX7_write_40 : decode cX7_write 40 = .ok (.invokestatic 88, 3) := by decide +kernel
theorem dX7_write_43 : decode cX7_write 43 = .ok (.ifCond .ne 10, 3) := by decide +kernel
theorem dX7_write_46 : decode cX7_write 46 = .ok (.aload_n 0, 1) := by decide +kernel
theorem dX7_write_47 : decode cX7_write 47 = .ok (.ldc 69, 2) := by decide +kernel
theorem dX7_write_49 : decode cX7_write 49 = .ok (.invokevirtual 75, 3) := by decide +kernel
theorem dX7_write_52 : decode cX7_write 52 = .ok (.ireturn, 1) := by decide +kernel
theorem dX7_write_53 : decode cX7_write 53 = .ok (.aload_n 0, 1) := by decide +kernel
theorem dX7_write_54 : decode cX7_write 54 = .ok (.getfield 63, 3) := by decide +kernel
theorem dX7_write_57 : decode cX7_write 57 = .ok (.bipush 40, 2) := by decide +kernel
theorem dX7_write_59 : decode cX7_write 59 = .ok (.iload_n 1, 1) := by decide +kernel
theorem dX7_write_60 : decode cX7_write 60 = .ok (.imul, 1) := by decide +kernel
theorem dX7_write_61 : decode cX7_write 61 = .ok (.iload_n 2, 1) := by decide +kernel
theorem dX7_write_62 : decode cX7_write 62 = .ok (.iadd, 1) := by decide +kernel
theorem dX7_write_63 : decode cX7_write 63 = .ok (.iload_n 3, 1) := by decide +kernel
theorem dX7_write_64 : decode cX7_write 64 = .ok (.aload_n 0, 1) := by decide +kernel
theorem dX7_write_65 : decode cX7_write 65 = .ok (.getfield 57, 3) := by decide +kernel
theorem dX7_write_68 : decode cX7_write 68 = .ok (.iload_n 1, 1) := by decide +kernel
theorem dX7_write_69 : decode cX7_write 69 = .ok (.iaload, 1) := by decide +kernel
theorem dX7_write_70 : decode cX7_write 70 = .ok (.invokestatic 329, 3) := by decide +kernel
theorem dX7_write_73 : decode cX7_write 73 = .ok (.iastore, 1) := by decide +kernel
theorem dX7_write_74 : decode cX7_write 74 = .ok (.iconst 1, 1) := by decide +kernel
theorem dX7_write_75 : decode cX7_write 75 = .ok (.ireturn, 1) := by decide +kernel
theorem dX7_copy_0 : decode cX7_copy 0 = .ok (.iload_n 1, 1) := by decide +kernel
theorem dX7_copy_1 : decode cX7_copy 1 = .ok (.invokestatic 220, 3) := by decide +kernel
theorem dX7_copy_4 : decode cX7_copy 4 = .ok (.ifCond .eq 10, 3) := by decide +kernel
theorem dX7_copy_7 : decode cX7_copy 7 = .ok (.iload_n 3, 1) := by decide +kernel
theorem dX7_copy_8 : decode cX7_copy 8 = .ok (.invokestatic 220, 3) := by decide +kernel
theorem dX7_copy_11 : decode cX7_copy 11 = .ok (.ifCond .ne 10, 3) := by decide +kernel
theorem dX7_copy_14 : decode cX7_copy 14 = .ok (.aload_n 0, 1) := by decide +kernel
theorem dX7_copy_15 : decode cX7_copy 15 = .ok (.ldc 69, 2) := by decide +kernel
theorem dX7_copy_17 : decode cX7_copy 17 = .ok (.invokevirtual 75, 3) := by decide +kernel
theorem dX7_copy_20 : decode cX7_copy 20 = .ok (.ireturn, 1) := by decide +kernel
theorem dX7_copy_21 : decode cX7_copy 21 = .ok (.aload_n 0, 1) := by decide +kernel
theorem dX7_copy_22 : decode cX7_copy 22 = .ok (.getfield 57, 3) := by decide +kernel
theorem dX7_copy_25 : decode cX7_copy 25 = .ok (.iload_n 1, 1) := by decide +kernel
theorem dX7_copy_26 : decode cX7_copy 26 = .ok (.iaload, 1) := by decide +kernel
theorem dX7_copy_27 : decode cX7_copy 27 = .ok (.ifCond .eq 12, 3) := by decide +kernel
theorem dX7_copy_30 : decode cX7_copy 30 = .ok (.aload_n 0, 1) := by decide +kernel
theorem dX7_copy_31 : decode cX7_copy 31 = .ok (.getfield 57, 3) := by decide +kernel
theorem dX7_copy_34 : decode cX7_copy 34 = .ok (.iload_n 3, 1) := by decide +kernel
theorem dX7_copy_35 : decode cX7_copy 35 = .ok (.iaload, 1) := by decide +kernel
theorem dX7_copy_36 : decode cX7_copy 36 = .ok (.ifCond .ne 10, 3) := by decide +kernel
theorem dX7_copy_39 : decode cX7_copy 39 = .ok (.aload_n 0, 1) := by decide +kernel
theorem dX7_copy_40 : decode cX7_copy 40 = .ok (.ldc 223, 2) := by decide +kernel
theorem dX7_copy_42 : decode cX7_copy 42 = .ok (.invokevirtual 75, 3) := by decide +kernel
theorem dX7_copy_45 : decode cX7_copy 45 = .ok (.ireturn, 1) := by decide +kernel
theorem dX7_copy_46 : decode cX7_copy 46 = .ok (.aload_n 0, 1) := by decide +kernel
theorem dX7_copy_47 : decode cX7_copy 47 = .ok (.getfield 57, 3) := by decide +kernel
theorem dX7_copy_50 : decode cX7_copy 50 = .ok (.iload_n 1, 1) := by decide +kernel
theorem dX7_copy_51 : decode cX7_copy 51 = .ok (.iaload, 1) := by decide +kernel
theorem dX7_copy_52 : decode cX7_copy 52 = .ok (.aload_n 0, 1) := by decide +kernel
theorem dX7_copy_53 : decode cX7_copy 53 = .ok (.getfield 57, 3) := by decide +kernel
theorem dX7_copy_56 : decode cX7_copy 56 = .ok (.iload_n 3, 1) := by decide +kernel
theorem dX7_copy_57 : decode cX7_copy 57 = .ok (.iaload, 1) := by decide +kernel
theorem dX7_copy_58 : decode cX7_copy 58 = .ok (.if_icmp .eq 11, 3) := by decide +kernel
theorem dX7_copy_61 : decode cX7_copy 61 = .ok (.aload_n 0, 1) := by decide +kernel
theorem dX7_copy_62 : decode cX7_copy 62 = .ok (.ldc_w 327, 3) := by decide +kernel
theorem dX7_copy_65 : decode cX7_copy 65 = .ok (.invokevirtual 75, 3) := by decide +kernel
theorem dX7_copy_68 : decode cX7_copy 68 = .ok (.ireturn, 1) := by decide +kernel
theorem dX7_copy_69 : decode cX7_copy 69 = .ok (.iload_n 2, 1) := by decide +kernel
theorem dX7_copy_70 : decode cX7_copy 70 = .ok (.ifCond .lt 48, 3) := by decide +kernel
theorem dX7_copy_73 : decode cX7_copy 73 = .ok (.iload 4, 2) := by decide +kernel
theorem dX7_copy_75 : decode cX7_copy 75 = .ok (.ifCond .lt 43, 3) := by decide +kernel
theorem dX7_copy_78 : decode cX7_copy 78 = .ok (.iload 5, 2) := by decide +kernel
theorem dX7_copy_80 : decode cX7_copy 80 = .ok (.ifCond .lt 38, 3) := by decide +kernel
theorem dX7_copy_83 : decode cX7_copy 83 = .ok (.iload_n 2, 1) := by decide +kernel
theorem dX7_copy_84 : decode cX7_copy 84 = .ok (.i2l, 1) := by decide +kernel
theorem dX7_copy_85 : decode cX7_copy 85 = .ok (.iload 5, 2) := by decide +kernel
theorem dX7_copy_87 : decode cX7_copy 87 = .ok (.i2l, 1) := by decide +kernel
theorem dX7_copy_88 : decode cX7_copy 88 = .ok (.ladd, 1) := by decide +kernel
theorem dX7_copy_89 : decode cX7_copy 89 = .ok (.aload_n 0, 1) := by decide +kernel
theorem dX7_copy_90 : decode cX7_copy 90 = .ok (.getfield 60, 3) := by decide +kernel
theorem dX7_copy_93 : decode cX7_copy 93 = .ok (.iload_n 1, 1) := by decide +kernel
theorem dX7_copy_94 : decode cX7_copy 94 = .ok (.iaload, 1) := by decide +kernel
theorem dX7_copy_95 : decode cX7_copy 95 = .ok (.i2l, 1) := by decide +kernel
theorem dX7_copy_96 : decode cX7_copy 96 = .ok (.lcmp, 1) := by decide +kernel
theorem dX7_copy_97 : decode cX7_copy 97 = .ok (.ifCond .gt 21, 3) := by decide +kernel
theorem dX7_copy_100 : decode cX7_copy 100 = .ok (.iload 4, 2) := by decide +kernel
theorem dX7_copy_102 : decode cX7_copy 102 = .ok (.i2l, 1) := by decide +kernel
theorem dX7_copy_103 : decode cX7_copy 103 = .ok (.iload 5, 2) := by decide +kernel
theorem dX7_copy_105 : decode cX7_copy 105 = .ok (.i2l, 1) := by decide +kernel
theorem dX7_copy_106 : decode cX7_copy 106 = .ok (.ladd, 1) := by decide +kernel
theorem dX7_copy_107 : decode cX7_copy 107 = .ok (.aload_n 0, 1) := by decide +kernel
theorem dX7_copy_108 : decode cX7_copy 108 = .ok (.getfield 60, 3) := by decide +kernel
theorem dX7_copy_111 : decode cX7_copy 111 = .ok (.iload_n 3, 1) := by decide +kernel
theorem dX7_copy_112 : decode cX7_copy 112 = .ok (.iaload, 1) := by decide +kernel
theorem dX7_copy_113 : decode cX7_copy 113 = .ok (.i2l, 1) := by decide +kernel
theorem dX7_copy_114 : decode cX7_copy 114 = .ok (.lcmp, 1) := by decide +kernel
theorem dX7_copy_115 : decode cX7_copy 115 = .ok (.ifCond .le 10, 3) := by decide +kernel
theorem dX7_copy_118 : decode cX7_copy 118 = .ok (.aload_n 0, 1) := by decide +kernel
theorem dX7_copy_119 : decode cX7_copy 119 = .ok (.ldc 69, 2) := by decide +kernel
theorem dX7_copy_121 : decode cX7_copy 121 = .ok (.invokevirtual 75, 3) := by decide +kernel
theorem dX7_copy_124 : decode cX7_copy 124 = .ok (.ireturn, 1) := by decide +kernel
theorem dX7_copy_125 : decode cX7_copy 125 = .ok (.iconst 0, 1) := by decide +kernel
theorem dX7_copy_126 : decode cX7_copy 126 = .ok (.istore 6, 2) := by decide +kernel
theorem dX7_copy_128 : decode cX7_copy 128 = .ok (.iload 6, 2) := by decide +kernel
theorem dX7_copy_130 : decode cX7_copy 130 = .ok (.iload 5, 2) := by decide +kernel
theorem dX7_copy_132 : decode cX7_copy 132 = .ok (.if_icmp .ge 30, 3) := by decide +kernel
theorem dX7_copy_135 : decode cX7_copy 135 = .ok (.aload_n 0, 1) := by decide +kernel
theorem dX7_copy_136 : decode cX7_copy 136 = .ok (.getfield 66, 3) := by decide +kernel
theorem dX7_copy_139 : decode cX7_copy 139 = .ok (.iload 6, 2) := by decide +kernel
theorem dX7_copy_141 : decode cX7_copy 141 = .ok (.aload_n 0, 1) := by decide +kernel
theorem dX7_copy_142 : decode cX7_copy 142 = .ok (.getfield 63, 3) := by decide +kernel
theorem dX7_copy_145 : decode cX7_copy 145 = .ok (.bipush 40, 2) := by decide +kernel
theorem dX7_copy_147 : decode cX7_copy 147 = .ok (.iload_n 1, 1) := by decide +kernel
theorem dX7_copy_148 : decode cX7_copy 148 = .ok (.imul, 1) := by decide +kernel
theorem dX7_copy_149 : decode cX7_copy 149 = .ok (.iload_n 2, 1) := by decide +kernel
theorem dX7_copy_150 : decode cX7_copy 150 = .ok (.iadd, 1) := by decide +kernel
theorem dX7_copy_151 : decode cX7_copy 151 = .ok (.iload 6, 2) := by decide +kernel
theorem dX7_copy_153 : decode cX7_copy 153 = .ok (.iadd, 1) := by decide +kernel
theorem dX7_copy_154 : decode cX7_copy 154 = .ok (.iaload, 1) := by decide +kernel
theorem dX7_copy_155 : decode cX7_copy 155 = .ok (.iastore, 1) := by decide +kernel
theorem dX7_copy_156 : decode cX7_copy 156 = .ok (.iinc 6 1, 3) := by decide +kernel
theorem dX7_copy_159 : decode cX7_copy 159 = .ok (.goto (-31), 3) := by decide +kernel
theorem dX7_copy_162 : decode cX7_copy 162 = .ok (.iconst 0, 1) := by decide +kernel
theorem dX7_copy_163 : decode cX7_copy 163 = .ok (.istore 6, 2) := by decide +kernel
theorem dX7_copy_165 : decode cX7_copy 165 = .ok (.iload 6, 2) := by decide +kernel
theorem dX7_copy_167 : decode cX7_copy 167 = .ok (.iload 5, 2) := by decide +kernel
theorem dX7_copy_169 : decode cX7_copy 169 = .ok (.if_icmp .ge 31, 3) := by decide +kernel
theorem dX7_copy_172 : decode cX7_copy 172 = .ok (.aload_n 0, 1) := by decide +kernel
theorem dX7_copy_173 : decode cX7_copy 173 = .ok (.getfield 63, 3) := by decide +kernel
theorem dX7_copy_176 : decode cX7_copy 176 = .ok (.bipush 40, 2) := by decide +kernel
theorem dX7_copy_178 : decode cX7_copy 178 = .ok (.iload_n 3, 1) := by decide +kernel
theorem dX7_copy_179 : decode cX7_copy 179 = .ok (.imul, 1) := by decide +kernel
theorem dX7_copy_180 : decode cX7_copy 180 = .ok (.iload 4, 2) := by decide +kernel
theorem dX7_copy_182 : decode cX7_copy 182 = .ok (.iadd, 1) := by decide +kernel
theorem dX7_copy_183 : decode cX7_copy 183 = .ok (.iload 6, 2) := by decide +kernel
theorem dX7_copy_185 : decode cX7_copy 185 = .ok (.iadd, 1) := by decide +kernel
theorem dX7_copy_186 : decode cX7_copy 186 = .ok (.aload_n 0, 1) := by decide +kernel
theorem dX7_copy_187 : decode cX7_copy 187 = .ok (.getfield 66, 3) := by decide +kernel
theorem dX7_copy_190 : decode cX7_copy 190 = .ok (.iload 6, 2) := by decide +kernel
theorem dX7_copy_192 : decode cX7_copy 192 = .ok (.iaload, 1) := by decide +kernel
theorem dX7_copy_193 : decode cX7_copy 193 = .ok (.iastore, 1) := by decide +kernel
theorem dX7_copy_194 : decode cX7_copy 194 = .ok (.iinc 6 1, 3) := by decide +kernel
theorem dX7_copy_197 : decode cX7_copy 197 = .ok (.goto (-32), 3) := by decide +kernel
theorem dX7_copy_200 : decode cX7_copy 200 = .ok (.iload 5, 2) := by decide +kernel
theorem dX7_copy_202 : decode cX7_copy 202 = .ok (.ireturn, 1) := by decide +kernel
theorem dX7_above_0 : decode cX7_above 0 = .ok (.iload_n 0, 1) := by decide +kernel
theorem dX7_above_1 : decode cX7_above 1 = .ok (.ifCond .ne 7, 3) := by decide +kernel
theorem dX7_above_4 : decode cX7_above 4 = .ok (.iconst (-1), 1) := by decide +kernel
theorem dX7_above_5 : decode cX7_above 5 = .ok (.goto 32, 3) := by decide +kernel
theorem dX7_above_8 : decode cX7_above 8 = .ok (.iload_n 0, 1) := by decide +kernel
theorem dX7_above_9 : decode cX7_above 9 = .ok (.iconst 3, 1) := by decide +kernel
theorem dX7_above_10 : decode cX7_above 10 = .ok (.if_icmp .ne 7, 3) := by decide +kernel
theorem dX7_above_13 : decode cX7_above 13 = .ok (.iconst 2, 1) := by decide +kernel
theorem dX7_above_14 : decode cX7_above 14 = .ok (.goto 23, 3) := by decide +kernel
theorem dX7_above_17 : decode cX7_above 17 = .ok (.iload_n 0, 1) := by decide +kernel
theorem dX7_above_18 : decode cX7_above 18 = .ok (.iconst 4, 1) := by decide +kernel
theorem dX7_above_19 : decode cX7_above 19 = .ok (.if_icmp .ne 7, 3) := by decide +kernel
theorem dX7_above_22 : decode cX7_above 22 = .ok (.iconst 3, 1) := by decide +kernel
theorem dX7_above_23 : decode cX7_above 23 = .ok (.goto 14, 3) := by decide +kernel
theorem dX7_above_26 : decode cX7_above 26 = .ok (.iload_n 0, 1) := by decide +kernel
theorem dX7_above_27 : decode cX7_above 27 = .ok (.bipush 6, 2) := by decide +kernel
theorem dX7_above_29 : decode cX7_above 29 = .ok (.if_icmp .ne 7, 3) := by decide +kernel
theorem dX7_above_32 : decode cX7_above 32 = .ok (.iconst 1, 1) := by decide +kernel
theorem dX7_above_33 : decode cX7_above 33 = .ok (.goto 4, 3) := by decide +kernel
theorem dX7_above_36 : decode cX7_above 36 = .ok (.iconst 0, 1) := by decide +kernel
theorem dX7_above_37 : decode cX7_above 37 = .ok (.ireturn, 1) := by decide +kernel
theorem dX7_isUnder_0 : decode cX7_isUnder 0 = .ok (.iload_n 0, 1) := by decide +kernel
theorem dX7_isUnder_1 : decode cX7_isUnder 1 = .ok (.istore_n 2, 1) := by decide +kernel
theorem dX7_isUnder_2 : decode cX7_isUnder 2 = .ok (.iload_n 2, 1) := by decide +kernel
theorem dX7_isUnder_3 : decode cX7_isUnder 3 = .ok (.ifCond .lt 16, 3) := by decide +kernel
theorem dX7_isUnder_6 : decode cX7_isUnder 6 = .ok (.iload_n 2, 1) := by decide +kernel
theorem dX7_isUnder_7 : decode cX7_isUnder 7 = .ok (.iload_n 1, 1) := by decide +kernel
theorem dX7_isUnder_8 : decode cX7_isUnder 8 = .ok (.if_icmp .eq 11, 3) := by decide +kernel
theorem dX7_isUnder_11 : decode cX7_isUnder 11 = .ok (.iload_n 2, 1) := by decide +kernel
theorem dX7_isUnder_12 : decode cX7_isUnder 12 = .ok (.invokestatic 332, 3) := by decide +kernel
theorem dX7_isUnder_15 : decode cX7_isUnder 15 = .ok (.istore_n 2, 1) := by decide +kernel
theorem dX7_isUnder_16 : decode cX7_isUnder 16 = .ok (.goto (-14), 3) := by decide +kernel
theorem dX7_isUnder_19 : decode cX7_isUnder 19 = .ok (.iload_n 2, 1) := by decide +kernel
theorem dX7_isUnder_20 : decode cX7_isUnder 20 = .ok (.ifCond .lt 7, 3) := by decide +kernel
theorem dX7_isUnder_23 : decode cX7_isUnder 23 = .ok (.iconst 1, 1) := by decide +kernel
theorem dX7_isUnder_24 : decode cX7_isUnder 24 = .ok (.goto 4, 3) := by decide +kernel
theorem dX7_isUnder_27 : decode cX7_isUnder 27 = .ok (.iconst 0, 1) := by decide +kernel
theorem dX7_isUnder_28 : decode cX7_isUnder 28 = .ok (.ireturn, 1) := by decide +kernel
theorem dX7_load_0 : decode cX7_load 0 = .ok (.aload_n 0, 1) := by decide +kernel
theorem dX7_load_1 : decode cX7_load 1 = .ok (.iload_n 1, 1) := by decide +kernel
theorem dX7_load_2 : decode cX7_load 2 = .ok (.invokevirtual 224, 3) := by decide +kernel
theorem dX7_load_5 : decode cX7_load 5 = .ok (.ifCond .eq 13, 3) := by decide +kernel
theorem dX7_load_8 : decode cX7_load 8 = .ok (.aload_n 0, 1) := by decide +kernel
theorem dX7_load_9 : decode cX7_load 9 = .ok (.aload_n 0, 1) := by decide +kernel
theorem dX7_load_10 : decode cX7_load 10 = .ok (.iload_n 1, 1) := by decide +kernel
theorem dX7_load_11 : decode cX7_load 11 = .ok (.invokevirtual 224, 3) := by decide +kernel
theorem dX7_load_14 : decode cX7_load 14 = .ok (.invokevirtual 75, 3) := by decide +kernel
theorem dX7_load_17 : decode cX7_load 17 = .ok (.ireturn, 1) := by decide +kernel
theorem dX7_load_18 : decode cX7_load 18 = .ok (.iconst 0, 1) := by decide +kernel
theorem dX7_load_19 : decode cX7_load 19 = .ok (.istore_n 2, 1) := by decide +kernel
theorem dX7_load_20 : decode cX7_load 20 = .ok (.iload_n 2, 1) := by decide +kernel
theorem dX7_load_21 : decode cX7_load 21 = .ok (.aload_n 0, 1) := by decide +kernel
theorem dX7_load_22 : decode cX7_load 22 = .ok (.getfield 60, 3) := by decide +kernel
theorem dX7_load_25 : decode cX7_load 25 = .ok (.iload_n 1, 1) := by decide +kernel
theorem dX7_load_26 : decode cX7_load 26 = .ok (.iaload, 1) := by decide +kernel
theorem dX7_load_27 : decode cX7_load 27 = .ok (.if_icmp .ge 53, 3) := by decide +kernel
theorem dX7_load_30 : decode cX7_load 30 = .ok (.iload_n 2, 1) := by decide +kernel
theorem dX7_load_31 : decode cX7_load 31 = .ok (.invokestatic 95, 3) := by decide +kernel
theorem dX7_load_34 : decode cX7_load 34 = .ok (.ifCond .eq 46, 3) := by decide +kernel
theorem dX7_load_37 : decode cX7_load 37 = .ok (.aload_n 0, 1) := by decide +kernel
theorem dX7_load_38 : decode cX7_load 38 = .ok (.getfield 63, 3) := by decide +kernel
theorem dX7_load_41 : decode cX7_load 41 = .ok (.bipush 40, 2) := by decide +kernel
theorem dX7_load_43 : decode cX7_load 43 = .ok (.iload_n 1, 1) := by decide +kernel
theorem dX7_load_44 : decode cX7_load 44 = .ok (.imul, 1) := by decide +kernel
theorem dX7_load_45 : decode cX7_load 45 = .ok (.iload_n 2, 1) := by decide +kernel
theorem dX7_load_46 : decode cX7_load 46 = .ok (.iadd, 1) := by decide +kernel
theorem dX7_load_47 : decode cX7_load 47 = .ok (.iaload, 1) := by decide +kernel
theorem dX7_load_48 : decode cX7_load 48 = .ok (.invokestatic 99, 3) := by decide +kernel
theorem dX7_load_51 : decode cX7_load 51 = .ok (.ifCond .eq 29, 3) := by decide +kernel
theorem dX7_load_54 : decode cX7_load 54 = .ok (.aload_n 0, 1) := by decide +kernel
theorem dX7_load_55 : decode cX7_load 55 = .ok (.getfield 9, 3) := by decide +kernel
theorem dX7_load_58 : decode cX7_load 58 = .ok (.bipush 14, 2) := by decide +kernel
theorem dX7_load_60 : decode cX7_load 60 = .ok (.iload_n 2, 1) := by decide +kernel
theorem dX7_load_61 : decode cX7_load 61 = .ok (.iadd, 1) := by decide +kernel
theorem dX7_load_62 : decode cX7_load 62 = .ok (.aload_n 0, 1) := by decide +kernel
theorem dX7_load_63 : decode cX7_load 63 = .ok (.getfield 63, 3) := by decide +kernel
theorem dX7_load_66 : decode cX7_load 66 = .ok (.bipush 40, 2) := by decide +kernel
theorem dX7_load_68 : decode cX7_load 68 = .ok (.iload_n 1, 1) := by decide +kernel
theorem dX7_load_69 : decode cX7_load 69 = .ok (.imul, 1) := by decide +kernel
theorem dX7_load_70 : decode cX7_load 70 = .ok (.iload_n 2, 1) := by decide +kernel
theorem dX7_load_71 : decode cX7_load 71 = .ok (.iadd, 1) := by decide +kernel
theorem dX7_load_72 : decode cX7_load 72 = .ok (.iaload, 1) := by decide +kernel
theorem dX7_load_73 : decode cX7_load 73 = .ok (.iastore, 1) := by decide +kernel
theorem dX7_load_74 : decode cX7_load 74 = .ok (.iinc 2 1, 3) := by decide +kernel
theorem dX7_load_77 : decode cX7_load 77 = .ok (.goto (-57), 3) := by decide +kernel
theorem dX7_load_80 : decode cX7_load 80 = .ok (.iload_n 2, 1) := by decide +kernel
theorem dX7_load_81 : decode cX7_load 81 = .ok (.ireturn, 1) := by decide +kernel
theorem dX7_judge_0 : decode cX7_judge 0 = .ok (.aload_n 0, 1) := by decide +kernel
theorem dX7_judge_1 : decode cX7_judge 1 = .ok (.iload_n 1, 1) := by decide +kernel
theorem dX7_judge_2 : decode cX7_judge 2 = .ok (.invokevirtual 224, 3) := by decide +kernel
theorem dX7_judge_5 : decode cX7_judge 5 = .ok (.ifCond .eq 13, 3) := by decide +kernel
theorem dX7_judge_8 : decode cX7_judge 8 = .ok (.aload_n 0, 1) := by decide +kernel
theorem dX7_judge_9 : decode cX7_judge 9 = .ok (.aload_n 0, 1) := by decide +kernel
theorem dX7_judge_10 : decode cX7_judge 10 = .ok (.iload_n 1, 1) := by decide +kernel
theorem dX7_judge_11 : decode cX7_judge 11 = .ok (.invokevirtual 224, 3) := by decide +kernel
theorem dX7_judge_14 : decode cX7_judge 14 = .ok (.invokevirtual 75, 3) := by decide +kernel
theorem dX7_judge_17 : decode cX7_judge 17 = .ok (.ireturn, 1) := by decide +kernel
theorem dX7_judge_18 : decode cX7_judge 18 = .ok (.aload_n 0, 1) := by decide +kernel
theorem dX7_judge_19 : decode cX7_judge 19 = .ok (.getfield 9, 3) := by decide +kernel
theorem dX7_judge_22 : decode cX7_judge 22 = .ok (.aload_n 0, 1) := by decide +kernel
theorem dX7_judge_23 : decode cX7_judge 23 = .ok (.getfield 16, 3) := by decide +kernel
theorem dX7_judge_26 : decode cX7_judge 26 = .ok (.invokestatic 70, 3) := by decide +kernel
theorem dX7_judge_29 : decode cX7_judge 29 = .ok (.iconst 0, 1) := by decide +kernel
theorem dX7_judge_30 : decode cX7_judge 30 = .ok (.istore_n 2, 1) := by decide +kernel
theorem dX7_judge_31 : decode cX7_judge 31 = .ok (.iconst 0, 1) := by decide +kernel
theorem dX7_judge_32 : decode cX7_judge 32 = .ok (.istore_n 3, 1) := by decide +kernel
theorem dX7_judge_33 : decode cX7_judge 33 = .ok (.iconst 1, 1) := by decide +kernel
theorem dX7_judge_34 : decode cX7_judge 34 = .ok (.istore 4, 2) := by decide +kernel
theorem dX7_judge_36 : decode cX7_judge 36 = .ok (.iload_n 2, 1) := by decide +kernel
theorem dX7_judge_37 : decode cX7_judge 37 = .ok (.aload_n 0, 1) := by decide +kernel
theorem dX7_judge_38 : decode cX7_judge 38 = .ok (.getfield 60, 3) := by decide +kernel
theorem dX7_judge_41 : decode cX7_judge 41 = .ok (.iload_n 1, 1) := by decide +kernel
theorem dX7_judge_42 : decode cX7_judge 42 = .ok (.iaload, 1) := by decide +kernel
theorem dX7_judge_43 : decode cX7_judge 43 = .ok (.if_icmp .ge 89, 3) := by decide +kernel
theorem dX7_judge_46 : decode cX7_judge 46 = .ok (.iload 4, 2) := by decide +kernel
theorem dX7_judge_48 : decode cX7_judge 48 = .ok (.ifCond .eq 84, 3) := by decide +kernel
theorem dX7_judge_51 : decode cX7_judge 51 = .ok (.aload_n 0, 1) := by decide +kernel
theorem dX7_judge_52 : decode cX7_judge 52 = .ok (.getfield 63, 3) := by decide +kernel
theorem dX7_judge_55 : decode cX7_judge 55 = .ok (.bipush 40, 2) := by decide +kernel
theorem dX7_judge_57 : decode cX7_judge 57 = .ok (.iload_n 1, 1) := by decide +kernel
theorem dX7_judge_58 : decode cX7_judge 58 = .ok (.imul, 1) := by decide +kernel
theorem dX7_judge_59 : decode cX7_judge 59 = .ok (.iload_n 2, 1) := by decide +kernel
theorem dX7_judge_60 : decode cX7_judge 60 = .ok (.iadd, 1) := by decide +kernel
theorem dX7_judge_61 : decode cX7_judge 61 = .ok (.iaload, 1) := by decide +kernel
theorem dX7_judge_62 : decode cX7_judge 62 = .ok (.istore 5, 2) := by decide +kernel
theorem dX7_judge_64 : decode cX7_judge 64 = .ok (.aload_n 0, 1) := by decide +kernel
theorem dX7_judge_65 : decode cX7_judge 65 = .ok (.iload 5, 2) := by decide +kernel
theorem dX7_judge_67 : decode cX7_judge 67 = .ok (.invokevirtual 126, 3) := by decide +kernel
theorem dX7_judge_70 : decode cX7_judge 70 = .ok (.ifCond .eq 27, 3) := by decide +kernel
theorem dX7_judge_73 : decode cX7_judge 73 = .ok (.iload_n 3, 1) := by decide +kernel
theorem dX7_judge_74 : decode cX7_judge 74 = .ok (.iload 5, 2) := by decide +kernel
theorem dX7_judge_76 : decode cX7_judge 76 = .ok (.invokestatic 155, 3) := by decide +kernel
theorem dX7_judge_79 : decode cX7_judge 79 = .ok (.ifCond .ne 18, 3) := by decide +kernel
theorem dX7_judge_82 : decode cX7_judge 82 = .ok (.aload_n 0, 1) := by decide +kernel
theorem dX7_judge_83 : decode cX7_judge 83 = .ok (.iload 5, 2) := by decide +kernel
theorem dX7_judge_85 : decode cX7_judge 85 = .ok (.invokevirtual 146, 3) := by decide +kernel
theorem dX7_judge_88 : decode cX7_judge 88 = .ok (.bipush 12, 2) := by decide +kernel
theorem dX7_judge_90 : decode cX7_judge 90 = .ok (.if_icmp .ne 7, 3) := by decide +kernel
theorem dX7_judge_93 : decode cX7_judge 93 = .ok (.iconst 1, 1) := by decide +kernel
theorem dX7_judge_94 : decode cX7_judge 94 = .ok (.goto 4, 3) := by decide +kernel
theorem dX7_judge_97 : decode cX7_judge 97 = .ok (.iconst 0, 1) := by decide +kernel
theorem dX7_judge_98 : decode cX7_judge 98 = .ok (.istore 4, 2) := by decide +kernel
theorem dX7_judge_100 : decode cX7_judge 100 = .ok (.iload_n 3, 1) := by decide +kernel
theorem dX7_judge_101 : decode cX7_judge 101 = .ok (.iload 4, 2) := by decide +kernel
theorem dX7_judge_103 : decode cX7_judge 103 = .ok (.ifCond .eq 10, 3) := by decide +kernel
theorem dX7_judge_106 : decode cX7_judge 106 = .ok (.iconst 1, 1) := by decide +kernel
theorem dX7_judge_107 : decode cX7_judge 107 = .ok (.iload 5, 2) := by decide +kernel
theorem dX7_judge_109 : decode cX7_judge 109 = .ok (.ishl, 1) := by decide +kernel
theorem dX7_judge_110 : decode cX7_judge 110 = .ok (.goto 4, 3) := by decide +kernel
theorem dX7_judge_113 : decode cX7_judge 113 = .ok (.iconst 0, 1) := by decide +kernel
theorem dX7_judge_114 : decode cX7_judge 114 = .ok (.ior, 1) := by decide +kernel
theorem dX7_judge_115 : decode cX7_judge 115 = .ok (.istore_n 3, 1) := by decide +kernel
theorem dX7_judge_116 : decode cX7_judge 116 = .ok (.iload_n 2, 1) := by decide +kernel
theorem dX7_judge_117 : decode cX7_judge 117 = .ok (.iload 4, 2) := by decide +kernel
theorem dX7_judge_119 : decode cX7_judge 119 = .ok (.ifCond .eq 7, 3) := by decide +kernel
theorem dX7_judge_122 : decode cX7_judge 122 = .ok (.iconst 1, 1) := by decide +kernel
theorem dX7_judge_123 : decode cX7_judge 123 = .ok (.goto 4, 3) := by decide +kernel
theorem dX7_judge_126 : decode cX7_judge 126 = .ok (.iconst 0, 1) := by decide +kernel
theorem dX7_judge_127 : decode cX7_judge 127 = .ok (.iadd, 1) := by decide +kernel
theorem dX7_judge_128 : decode cX7_judge 128 = .ok (.istore_n 2, 1) := by decide +kernel
theorem dX7_judge_129 : decode cX7_judge 129 = .ok (.goto (-93), 3) := by decide +kernel
theorem dX7_judge_132 : decode cX7_judge 132 = .ok (.aload_n 0, 1) := by decide +kernel
theorem dX7_judge_133 : decode cX7_judge 133 = .ok (.iload 4, 2) := by decide +kernel
theorem dX7_judge_135 : decode cX7_judge 135 = .ok (.ifCond .eq 7, 3) := by decide +kernel
theorem dX7_judge_138 : decode cX7_judge 138 = .ok (.iconst 0, 1) := by decide +kernel
theorem dX7_judge_139 : decode cX7_judge 139 = .ok (.goto 6, 3) := by decide +kernel
theorem dX7_judge_142 : decode cX7_judge 142 = .ok (.iconst 1, 1) := by decide +kernel
theorem dX7_judge_143 : decode cX7_judge 143 = .ok (.iload_n 2, 1) := by decide +kernel
theorem dX7_judge_144 : decode cX7_judge 144 = .ok (.iadd, 1) := by decide +kernel
theorem dX7_judge_145 : decode cX7_judge 145 = .ok (.invokevirtual 158, 3) := by decide +kernel
theorem dX7_judge_148 : decode cX7_judge 148 = .ok (.ireturn, 1) := by decide +kernel
theorem dX7_image_0 : decode cX7_image 0 = .ok (.aload_n 0, 1) := by decide +kernel
theorem dX7_image_1 : decode cX7_image 1 = .ok (.getfield 9, 3) := by decide +kernel
theorem dX7_image_4 : decode cX7_image 4 = .ok (.aload_n 0, 1) := by decide +kernel
theorem dX7_image_5 : decode cX7_image 5 = .ok (.getfield 13, 3) := by decide +kernel
theorem dX7_image_8 : decode cX7_image 8 = .ok (.invokestatic 70, 3) := by decide +kernel
theorem dX7_image_11 : decode cX7_image 11 = .ok (.aload_n 0, 1) := by decide +kernel
theorem dX7_image_12 : decode cX7_image 12 = .ok (.iconst 1, 1) := by decide +kernel
theorem dX7_image_13 : decode cX7_image 13 = .ok (.putfield 335, 3) := by decide +kernel
theorem dX7_image_16 : decode cX7_image 16 = .ok (.iconst 1, 1) := by decide +kernel
theorem dX7_image_17 : decode cX7_image 17 = .ok (.ireturn, 1) := by decide +kernel
theorem dX7_undo_0 : decode cX7_undo 0 = .ok (.aload_n 0, 1) := by decide +kernel
theorem dX7_undo_1 : decode cX7_undo 1 = .ok (.getfield 335, 3) := by decide +kernel
theorem dX7_undo_4 : decode cX7_undo 4 = .ok (.ifCond .ne 10, 3) := by decide +kernel
theorem dX7_undo_7 : decode cX7_undo 7 = .ok (.aload_n 0, 1) := by decide +kernel
theorem dX7_undo_8 : decode cX7_undo 8 = .ok (.ldc 74, 2) := by decide +kernel
theorem dX7_undo_10 : decode cX7_undo 10 = .ok (.invokevirtual 75, 3) := by decide +kernel
theorem dX7_undo_13 : decode cX7_undo 13 = .ok (.ireturn, 1) := by decide +kernel
theorem dX7_undo_14 : decode cX7_undo 14 = .ok (.aload_n 0, 1) := by decide +kernel
theorem dX7_undo_15 : decode cX7_undo 15 = .ok (.getfield 13, 3) := by decide +kernel
theorem dX7_undo_18 : decode cX7_undo 18 = .ok (.aload_n 0, 1) := by decide +kernel
theorem dX7_undo_19 : decode cX7_undo 19 = .ok (.getfield 9, 3) := by decide +kernel
theorem dX7_undo_22 : decode cX7_undo 22 = .ok (.invokestatic 70, 3) := by decide +kernel
theorem dX7_undo_25 : decode cX7_undo 25 = .ok (.aload_n 0, 1) := by decide +kernel
theorem dX7_undo_26 : decode cX7_undo 26 = .ok (.getfield 9, 3) := by decide +kernel
theorem dX7_undo_29 : decode cX7_undo 29 = .ok (.iconst 0, 1) := by decide +kernel
theorem dX7_undo_30 : decode cX7_undo 30 = .ok (.iaload, 1) := by decide +kernel
theorem dX7_undo_31 : decode cX7_undo 31 = .ok (.ireturn, 1) := by decide +kernel
theorem dX7_tear_0 : decode cX7_tear 0 = .ok (.aload_n 0, 1) := by decide +kernel
theorem dX7_tear_1 : decode cX7_tear 1 = .ok (.getfield 335, 3) := by decide +kernel
theorem dX7_tear_4 : decode cX7_tear 4 = .ok (.ifCond .eq 7, 3) := by decide +kernel
theorem dX7_tear_7 : decode cX7_tear 7 = .ok (.iconst 1, 1) := by decide +kernel
theorem dX7_tear_8 : decode cX7_tear 8 = .ok (.goto 4, 3) := by decide +kernel
theorem dX7_tear_11 : decode cX7_tear 11 = .ok (.iconst 0, 1) := by decide +kernel
theorem dX7_tear_12 : decode cX7_tear 12 = .ok (.istore_n 1, 1) := by decide +kernel
theorem dX7_tear_13 : decode cX7_tear 13 = .ok (.aload_n 0, 1) := by decide +kernel
theorem dX7_tear_14 : decode cX7_tear 14 = .ok (.iconst 0, 1) := by decide +kernel
theorem dX7_tear_15 : decode cX7_tear 15 = .ok (.putfield 335, 3) := by decide +kernel
theorem dX7_tear_18 : decode cX7_tear 18 = .ok (.iload_n 1, 1) := by decide +kernel
theorem dX7_tear_19 : decode cX7_tear 19 = .ok (.ireturn, 1) := by decide +kernel
theorem dX7_count_0 : decode cX7_count 0 = .ok (.iconst 0, 1) := by decide +kernel
theorem dX7_count_1 : decode cX7_count 1 = .ok (.istore_n 2, 1) := by decide +kernel
theorem dX7_count_2 : decode cX7_count 2 = .ok (.iload_n 1, 1) := by decide +kernel
theorem dX7_count_3 : decode cX7_count 3 = .ok (.tableswitch 123 0 7 #[45, 52, 59, 65, 71, 76, 81, 88], 45) := by decide +kernel
theorem dX7_count_48 : decode cX7_count 48 = .ok (.aload_n 0, 1) := by decide +kernel
theorem dX7_count_49 : decode cX7_count 49 = .ok (.getfield 9, 3) := by decide +kernel
theorem dX7_count_52 : decode cX7_count 52 = .ok (.iconst 0, 1) := by decide +kernel
theorem dX7_count_53 : decode cX7_count 53 = .ok (.iaload, 1) := by decide +kernel
theorem dX7_count_54 : decode cX7_count 54 = .ok (.ireturn, 1) := by decide +kernel
theorem dX7_count_55 : decode cX7_count 55 = .ok (.aload_n 0, 1) := by decide +kernel
theorem dX7_count_56 : decode cX7_count 56 = .ok (.getfield 9, 3) := by decide +kernel
theorem dX7_count_59 : decode cX7_count 59 = .ok (.iconst 1, 1) := by decide +kernel
theorem dX7_count_60 : decode cX7_count 60 = .ok (.iaload, 1) := by decide +kernel
theorem dX7_count_61 : decode cX7_count 61 = .ok (.ireturn, 1) := by decide +kernel
theorem dX7_count_62 : decode cX7_count 62 = .ok (.aload_n 0, 1) := by decide +kernel
theorem dX7_count_63 : decode cX7_count 63 = .ok (.iconst 3, 1) := by decide +kernel
theorem dX7_count_64 : decode cX7_count 64 = .ok (.invokevirtual 171, 3) := by decide +kernel
theorem dX7_count_67 : decode cX7_count 67 = .ok (.ireturn, 1) := by decide +kernel
theorem dX7_count_68 : decode cX7_count 68 = .ok (.aload_n 0, 1) := by decide +kernel
theorem dX7_count_69 : decode cX7_count 69 = .ok (.iconst 1, 1) := by decide +kernel
theorem dX7_count_70 : decode cX7_count 70 = .ok (.invokevirtual 171, 3) := by decide +kernel
theorem dX7_count_73 : decode cX7_count 73 = .ok (.ireturn, 1) := by decide +kernel
theorem dX7_count_74 : decode cX7_count 74 = .ok (.aload_n 0, 1) := by decide +kernel
theorem dX7_count_75 : decode cX7_count 75 = .ok (.invokevirtual 164, 3) := by decide +kernel
theorem dX7_count_78 : decode cX7_count 78 = .ok (.ireturn, 1) := by decide +kernel
theorem dX7_count_79 : decode cX7_count 79 = .ok (.aload_n 0, 1) := by decide +kernel
theorem dX7_count_80 : decode cX7_count 80 = .ok (.getfield 243, 3) := by decide +kernel
theorem dX7_count_83 : decode cX7_count 83 = .ok (.ireturn, 1) := by decide +kernel
theorem dX7_count_84 : decode cX7_count 84 = .ok (.aload_n 0, 1) := by decide +kernel
theorem dX7_count_85 : decode cX7_count 85 = .ok (.getfield 9, 3) := by decide +kernel
theorem dX7_count_88 : decode cX7_count 88 = .ok (.iconst 2, 1) := by decide +kernel
theorem dX7_count_89 : decode cX7_count 89 = .ok (.iaload, 1) := by decide +kernel
theorem dX7_count_90 : decode cX7_count 90 = .ok (.ireturn, 1) := by decide +kernel
theorem dX7_count_91 : decode cX7_count 91 = .ok (.iconst 0, 1) := by decide +kernel
theorem dX7_count_92 : decode cX7_count 92 = .ok (.istore_n 3, 1) := by decide +kernel
theorem dX7_count_93 : decode cX7_count 93 = .ok (.iload_n 3, 1) := by decide +kernel
theorem dX7_count_94 : decode cX7_count 94 = .ok (.bipush 10, 2) := by decide +kernel
theorem dX7_count_96 : decode cX7_count 96 = .ok (.if_icmp .ge 28, 3) := by decide +kernel
theorem dX7_count_99 : decode cX7_count 99 = .ok (.iload_n 2, 1) := by decide +kernel
theorem dX7_count_100 : decode cX7_count 100 = .ok (.aload_n 0, 1) := by decide +kernel
theorem dX7_count_101 : decode cX7_count 101 = .ok (.getfield 9, 3) := by decide +kernel
theorem dX7_count_104 : decode cX7_count 104 = .ok (.iconst 4, 1) := by decide +kernel
theorem dX7_count_105 : decode cX7_count 105 = .ok (.iload_n 3, 1) := by decide +kernel
theorem dX7_count_106 : decode cX7_count 106 = .ok (.iadd, 1) := by decide +kernel
theorem dX7_count_107 : decode cX7_count 107 = .ok (.iaload, 1) := by decide +kernel
theorem dX7_count_108 : decode cX7_count 108 = .ok (.ifCond .ge 7, 3) := by decide +kernel
theorem dX7_count_111 : decode cX7_count 111 = .ok (.iconst 0, 1) := by decide +kernel
theorem dX7_count_112 : decode cX7_count 112 = .ok (.goto 4, 3) := by decide +kernel
theorem dX7_count_115 : decode cX7_count 115 = .ok (.iconst 1, 1) := by decide +kernel
theorem dX7_count_116 : decode cX7_count 116 = .ok (.iadd, 1) := by decide +kernel
theorem dX7_count_117 : decode cX7_count 117 = .ok (.istore_n 2, 1) := by decide +kernel
theorem dX7_count_118 : decode cX7_count 118 = .ok (.iinc 3 1, 3) := by decide +kernel
theorem dX7_count_121 : decode cX7_count 121 = .ok (.goto (-28), 3) := by decide +kernel
theorem dX7_count_124 : decode cX7_count 124 = .ok (.iload_n 2, 1) := by decide +kernel
theorem dX7_count_125 : decode cX7_count 125 = .ok (.ireturn, 1) := by decide +kernel
theorem dX7_count_126 : decode cX7_count 126 = .ok (.aload_n 0, 1) := by decide +kernel
theorem dX7_count_127 : decode cX7_count 127 = .ok (.ldc 69, 2) := by decide +kernel
theorem dX7_count_129 : decode cX7_count 129 = .ok (.invokevirtual 75, 3) := by decide +kernel
theorem dX7_count_132 : decode cX7_count 132 = .ok (.ireturn, 1) := by decide +kernel
theorem dX7_status_0 : decode cX7_status 0 = .ok (.iload_n 1, 1) := by decide +kernel
theorem dX7_status_1 : decode cX7_status 1 = .ok (.iconst (-1), 1) := by decide +kernel
theorem dX7_status_2 : decode cX7_status 2 = .ok (.bipush 6, 2) := by decide +kernel
theorem dX7_status_4 : decode cX7_status 4 = .ok (.invokestatic 88, 3) := by decide +kernel
theorem dX7_status_7 : decode cX7_status 7 = .ok (.ifCond .eq 14, 3) := by decide +kernel
theorem dX7_status_10 : decode cX7_status 10 = .ok (.aload_n 0, 1) := by decide +kernel
theorem dX7_status_11 : decode cX7_status 11 = .ok (.getfield 19, 3) := by decide +kernel
theorem dX7_status_14 : decode cX7_status 14 = .ok (.iload_n 1, 1) := by decide +kernel
theorem dX7_status_15 : decode cX7_status 15 = .ok (.iconst 1, 1) := by decide +kernel
theorem dX7_status_16 : decode cX7_status 16 = .ok (.iadd, 1) := by decide +kernel
theorem dX7_status_17 : decode cX7_status 17 = .ok (.iaload, 1) := by decide +kernel
theorem dX7_status_18 : decode cX7_status 18 = .ok (.goto 9, 3) := by decide +kernel
theorem dX7_status_21 : decode cX7_status 21 = .ok (.aload_n 0, 1) := by decide +kernel
theorem dX7_status_22 : decode cX7_status 22 = .ok (.ldc 69, 2) := by decide +kernel
theorem dX7_status_24 : decode cX7_status 24 = .ok (.invokevirtual 75, 3) := by decide +kernel
theorem dX7_status_27 : decode cX7_status 27 = .ok (.ireturn, 1) := by decide +kernel
end
section
theorem dX0_init_0 : decode cX0_init 0 = .ok (.aload_n 0, 1) := by decide +kernel
theorem dX0_init_1 : decode cX0_init 1 = .ok (.invokespecial 3, 3) := by decide +kernel
theorem dX0_init_4 : decode cX0_init 4 = .ok (.aload_n 0, 1) := by decide +kernel
theorem dX0_init_5 : decode cX0_init 5 = .ok (.bipush 12, 2) := by decide +kernel
theorem dX0_init_7 : decode cX0_init 7 = .ok (.newarray .int, 2) := by decide +kernel
theorem dX0_init_9 : decode cX0_init 9 = .ok (.putfield 9, 3) := by decide +kernel
theorem dX0_init_12 : decode cX0_init 12 = .ok (.aload_n 0, 1) := by decide +kernel
theorem dX0_init_13 : decode cX0_init 13 = .ok (.bipush 6, 2) := by decide +kernel
theorem dX0_init_15 : decode cX0_init 15 = .ok (.newarray .int, 2) := by decide +kernel
theorem dX0_init_17 : decode cX0_init 17 = .ok (.putfield 15, 3) := by decide +kernel
theorem dX0_init_20 : decode cX0_init 20 = .ok (.aload_n 0, 1) := by decide +kernel
theorem dX0_init_21 : decode cX0_init 21 = .ok (.bipush 6, 2) := by decide +kernel
theorem dX0_init_23 : decode cX0_init 23 = .ok (.newarray .int, 2) := by decide +kernel
theorem dX0_init_25 : decode cX0_init 25 = .ok (.putfield 18, 3) := by decide +kernel
theorem dX0_init_28 : decode cX0_init 28 = .ok (.aload_n 0, 1) := by decide +kernel
theorem dX0_init_29 : decode cX0_init 29 = .ok (.bipush 6, 2) := by decide +kernel
theorem dX0_init_31 : decode cX0_init 31 = .ok (.newarray .int, 2) := by decide +kernel
theorem dX0_init_33 : decode cX0_init 33 = .ok (.putfield 21, 3) := by decide +kernel
theorem dX0_init_36 : decode cX0_init 36 = .ok (.aload_n 0, 1) := by decide +kernel
theorem dX0_init_37 : decode cX0_init 37 = .ok (.bipush 6, 2) := by decide +kernel
theorem dX0_init_39 : decode cX0_init 39 = .ok (.newarray .int, 2) := by decide +kernel
theorem dX0_init_41 : decode cX0_init 41 = .ok (.putfield 24, 3) := by decide +kernel
theorem dX0_init_44 : decode cX0_init 44 = .ok (.aload_n 0, 1) := by decide +kernel
theorem dX0_init_45 : decode cX0_init 45 = .ok (.bipush 10, 2) := by decide +kernel
theorem dX0_init_47 : decode cX0_init 47 = .ok (.newarray .int, 2) := by decide +kernel
theorem dX0_init_49 : decode cX0_init 49 = .ok (.putfield 27, 3) := by decide +kernel
theorem dX0_init_52 : decode cX0_init 52 = .ok (.aload_n 0, 1) := by decide +kernel
theorem dX0_init_53 : decode cX0_init 53 = .ok (.iconst 0, 1) := by decide +kernel
theorem dX0_init_54 : decode cX0_init 54 = .ok (.putfield 30, 3) := by decide +kernel
theorem dX0_init_57 : decode cX0_init 57 = .ok (.aload_n 0, 1) := by decide +kernel
theorem dX0_init_58 : decode cX0_init 58 = .ok (.iconst 0, 1) := by decide +kernel
theorem dX0_init_59 : decode cX0_init 59 = .ok (.putfield 34, 3) := by decide +kernel
theorem dX0_init_62 : decode cX0_init 62 = .ok (.aload_n 0, 1) := by decide +kernel
theorem dX0_init_63 : decode cX0_init 63 = .ok (.iconst 0, 1) := by decide +kernel
theorem dX0_init_64 : decode cX0_init 64 = .ok (.putfield 37, 3) := by decide +kernel
theorem dX0_init_67 : decode cX0_init 67 = .ok (.aload_n 0, 1) := by decide +kernel
theorem dX0_init_68 : decode cX0_init 68 = .ok (.iconst 1, 1) := by decide +kernel
theorem dX0_init_69 : decode cX0_init 69 = .ok (.putfield 40, 3) := by decide +kernel
theorem dX0_init_72 : decode cX0_init 72 = .ok (.iconst 0, 1) := by decide +kernel
theorem dX0_init_73 : decode cX0_init 73 = .ok (.istore_n 1, 1) := by decide +kernel
theorem dX0_init_74 : decode cX0_init 74 = .ok (.iload_n 1, 1) := by decide +kernel
theorem dX0_init_75 : decode cX0_init 75 = .ok (.bipush 12, 2) := by decide +kernel
theorem dX0_init_77 : decode cX0_init 77 = .ok (.if_icmp .ge 17, 3) := by decide +kernel
theorem dX0_init_80 : decode cX0_init 80 = .ok (.aload_n 0, 1) := by decide +kernel
theorem dX0_init_81 : decode cX0_init 81 = .ok (.getfield 9, 3) := by decide +kernel
theorem dX0_init_84 : decode cX0_init 84 = .ok (.iload_n 1, 1) := by decide +kernel
theorem dX0_init_85 : decode cX0_init 85 = .ok (.bipush 50, 2) := by decide +kernel
theorem dX0_init_87 : decode cX0_init 87 = .ok (.iastore, 1) := by decide +kernel
theorem dX0_init_88 : decode cX0_init 88 = .ok (.iinc 1 1, 3) := by decide +kernel
theorem dX0_init_91 : decode cX0_init 91 = .ok (.goto (-17), 3) := by decide +kernel
theorem dX0_init_94 : decode cX0_init 94 = .ok (.iconst 0, 1) := by decide +kernel
theorem dX0_init_95 : decode cX0_init 95 = .ok (.istore_n 1, 1) := by decide +kernel
theorem dX0_init_96 : decode cX0_init 96 = .ok (.iload_n 1, 1) := by decide +kernel
theorem dX0_init_97 : decode cX0_init 97 = .ok (.bipush 10, 2) := by decide +kernel
theorem dX0_init_99 : decode cX0_init 99 = .ok (.if_icmp .ge 16, 3) := by decide +kernel
theorem dX0_init_102 : decode cX0_init 102 = .ok (.aload_n 0, 1) := by decide +kernel
theorem dX0_init_103 : decode cX0_init 103 = .ok (.getfield 27, 3) := by decide +kernel
theorem dX0_init_106 : decode cX0_init 106 = .ok (.iload_n 1, 1) := by decide +kernel
theorem dX0_init_107 : decode cX0_init 107 = .ok (.iconst (-1), 1) := by decide +kernel
theorem dX0_init_108 : decode cX0_init 108 = .ok (.iastore, 1) := by decide +kernel
theorem dX0_init_109 : decode cX0_init 109 = .ok (.iinc 1 1, 3) := by decide +kernel
theorem dX0_init_112 : decode cX0_init 112 = .ok (.goto (-16), 3) := by decide +kernel
theorem dX0_init_115 : decode cX0_init 115 = .ok (.return_, 1) := by decide +kernel
theorem dX0_become_0 : decode cX0_become 0 = .ok (.aload_n 1, 1) := by decide +kernel
theorem dX0_become_1 : decode cX0_become 1 = .ok (.getfield 9, 3) := by decide +kernel
theorem dX0_become_4 : decode cX0_become 4 = .ok (.iconst 0, 1) := by decide +kernel
theorem dX0_become_5 : decode cX0_become 5 = .ok (.aload_n 0, 1) := by decide +kernel
theorem dX0_become_6 : decode cX0_become 6 = .ok (.getfield 9, 3) := by decide +kernel
theorem dX0_become_9 : decode cX0_become 9 = .ok (.iconst 0, 1) := by decide +kernel
theorem dX0_become_10 : decode cX0_become 10 = .ok (.bipush 12, 2) := by decide +kernel
theorem dX0_become_12 : decode cX0_become 12 = .ok (.invokestatic 43, 3) := by decide +kernel
theorem dX0_become_15 : decode cX0_become 15 = .ok (.aload_n 1, 1) := by decide +kernel
theorem dX0_become_16 : decode cX0_become 16 = .ok (.getfield 15, 3) := by decide +kernel
theorem dX0_become_19 : decode cX0_become 19 = .ok (.iconst 0, 1) := by decide +kernel
theorem dX0_become_20 : decode cX0_become 20 = .ok (.aload_n 0, 1) := by decide +kernel
theorem dX0_become_21 : decode cX0_become 21 = .ok (.getfield 15, 3) := by decide +kernel
theorem dX0_become_24 : decode cX0_become 24 = .ok (.iconst 0, 1) := by decide +kernel
theorem dX0_become_25 : decode cX0_become 25 = .ok (.bipush 6, 2) := by decide +kernel
theorem dX0_become_27 : decode cX0_become 27 = .ok (.invokestatic 43, 3) := by decide +kernel
theorem dX0_become_30 : decode cX0_become 30 = .ok (.aload_n 1, 1) := by decide +kernel
theorem dX0_become_31 : decode cX0_become 31 = .ok (.getfield 18, 3) := by decide +kernel
theorem dX0_become_34 : decode cX0_become 34 = .ok (.iconst 0, 1) := by decide +kernel
theorem dX0_become_35 : decode cX0_become 35 = .ok (.aload_n 0, 1) := by decide +kernel
theorem dX0_become_36 : decode cX0_become 36 = .ok (.getfield 18, 3) := by decide +kernel
theorem dX0_become_39 : decode cX0_become 39 = .ok (.iconst 0, 1) := by decide +kernel
theorem dX0_become_40 : decode cX0_become 40 = .ok (.bipush 6, 2) := by decide +kernel
theorem dX0_become_42 : decode cX0_become 42 = .ok (.invokestatic 43, 3) := by decide +kernel
theorem dX0_become_45 : decode cX0_become 45 = .ok (.aload_n 1, 1) := by decide +kernel
theorem dX0_become_46 : decode cX0_become 46 = .ok (.getfield 21, 3) := by decide +kernel
theorem dX0_become_49 : decode cX0_become 49 = .ok (.iconst 0, 1) := by decide +kernel
theorem dX0_become_50 : decode cX0_become 50 = .ok (.aload_n 0, 1) := by decide +kernel
theorem dX0_become_51 : decode cX0_become 51 = .ok (.getfield 21, 3) := by decide +kernel
theorem dX0_become_54 : decode cX0_become 54 = .ok (.iconst 0, 1) := by decide +kernel
theorem dX0_become_55 : decode cX0_become 55 = .ok (.bipush 6, 2) := by decide +kernel
theorem dX0_become_57 : decode cX0_become 57 = .ok (.invokestatic 43, 3) := by decide +kernel
theorem dX0_become_60 : decode cX0_become 60 = .ok (.aload_n 1, 1) := by decide +kernel
theorem dX0_become_61 : decode cX0_become 61 = .ok (.getfield 24, 3) := by decide +kernel
theorem dX0_become_64 : decode cX0_become 64 = .ok (.iconst 0, 1) := by decide +kernel
theorem dX0_become_65 : decode cX0_become 65 = .ok (.aload_n 0, 1) := by decide +kernel
theorem dX0_become_66 : decode cX0_become 66 = .ok (.getfield 24, 3) := by decide +kernel
theorem dX0_become_69 : decode cX0_become 69 = .ok (.iconst 0, 1) := by decide +kernel
theorem dX0_become_70 : decode cX0_become 70 = .ok (.bipush 6, 2) := by decide +kernel
theorem dX0_become_72 : decode cX0_become 72 = .ok (.invokestatic 43, 3) := by decide +kernel
theorem dX0_become_75 : decode cX0_become 75 = .ok (.aload_n 1, 1) := by decide +kernel
theorem dX0_become_76 : decode cX0_become 76 = .ok (.getfield 27, 3) := by decide +kernel
theorem dX0_become_79 : decode cX0_become 79 = .ok (.iconst 0, 1) := by decide +kernel
theorem dX0_become_80 : decode cX0_become 80 = .ok (.aload_n 0, 1) := by decide +kernel
theorem dX0_become_81 : decode cX0_become 81 = .ok (.getfield 27, 3) := by decide +kernel
theorem dX0_become_84 : decode cX0_become 84 = .ok (.iconst 0, 1) := by decide +kernel
theorem dX0_become_85 : decode cX0_become 85 = .ok (.bipush 10, 2) := by decide +kernel
theorem dX0_become_87 : decode cX0_become 87 = .ok (.invokestatic 43, 3) := by decide +kernel
theorem dX0_become_90 : decode cX0_become 90 = .ok (.aload_n 0, 1) := by decide +kernel
theorem dX0_become_91 : decode cX0_become 91 = .ok (.aload_n 1, 1) := by decide +kernel
theorem dX0_become_92 : decode cX0_become 92 = .ok (.getfield 30, 3) := by decide +kernel
theorem dX0_become_95 : decode cX0_become 95 = .ok (.putfield 30, 3) := by decide +kernel
theorem dX0_become_98 : decode cX0_become 98 = .ok (.aload_n 0, 1) := by decide +kernel
theorem dX0_become_99 : decode cX0_become 99 = .ok (.aload_n 1, 1) := by decide +kernel
theorem dX0_become_100 : decode cX0_become 100 = .ok (.getfield 34, 3) := by decide +kernel
theorem dX0_become_103 : decode cX0_become 103 = .ok (.putfield 34, 3) := by decide +kernel
theorem dX0_become_106 : decode cX0_become 106 = .ok (.aload_n 0, 1) := by decide +kernel
theorem dX0_become_107 : decode cX0_become 107 = .ok (.aload_n 1, 1) := by decide +kernel
theorem dX0_become_108 : decode cX0_become 108 = .ok (.getfield 37, 3) := by decide +kernel
theorem dX0_become_111 : decode cX0_become 111 = .ok (.putfield 37, 3) := by decide +kernel
theorem dX0_become_114 : decode cX0_become 114 = .ok (.aload_n 0, 1) := by decide +kernel
theorem dX0_become_115 : decode cX0_become 115 = .ok (.aload_n 1, 1) := by decide +kernel
theorem dX0_become_116 : decode cX0_become 116 = .ok (.getfield 40, 3) := by decide +kernel
theorem dX0_become_119 : decode cX0_become 119 = .ok (.putfield 40, 3) := by decide +kernel
theorem dX0_become_122 : decode cX0_become 122 = .ok (.return_, 1) := by decide +kernel
theorem dX0_has_0 : decode cX0_has 0 = .ok (.iload_n 1, 1) := by decide +kernel
theorem dX0_has_1 : decode cX0_has 1 = .ok (.ifCond .lt 21, 3) := by decide +kernel
theorem dX0_has_4 : decode cX0_has 4 = .ok (.iload_n 1, 1) := by decide +kernel
theorem dX0_has_5 : decode cX0_has 5 = .ok (.aload_n 0, 1) := by decide +kernel
theorem dX0_has_6 : decode cX0_has 6 = .ok (.getfield 30, 3) := by decide +kernel
theorem dX0_has_9 : decode cX0_has 9 = .ok (.if_icmp .ge 13, 3) := by decide +kernel
theorem dX0_has_12 : decode cX0_has 12 = .ok (.iload_n 1, 1) := by decide +kernel
theorem dX0_has_13 : decode cX0_has 13 = .ok (.bipush 6, 2) := by decide +kernel
theorem dX0_has_15 : decode cX0_has 15 = .ok (.if_icmp .ge 7, 3) := by decide +kernel
theorem dX0_has_18 : decode cX0_has 18 = .ok (.iconst 1, 1) := by decide +kernel
theorem dX0_has_19 : decode cX0_has 19 = .ok (.goto 4, 3) := by decide +kernel
theorem dX0_has_22 : decode cX0_has 22 = .ok (.iconst 0, 1) := by decide +kernel
theorem dX0_has_23 : decode cX0_has 23 = .ok (.ireturn, 1) := by decide +kernel
theorem dX0_hasAll_0 : decode cX0_hasAll 0 = .ok (.iload_n 1, 1) := by decide +kernel
theorem dX0_hasAll_1 : decode cX0_hasAll 1 = .ok (.ifCond .lt 17, 3) := by decide +kernel
theorem dX0_hasAll_4 : decode cX0_hasAll 4 = .ok (.iload_n 1, 1) := by decide +kernel
theorem dX0_hasAll_5 : decode cX0_hasAll 5 = .ok (.iconst 1, 1) := by decide +kernel
theorem dX0_hasAll_6 : decode cX0_hasAll 6 = .ok (.aload_n 0, 1) := by decide +kernel
theorem dX0_hasAll_7 : decode cX0_hasAll 7 = .ok (.getfield 30, 3) := by decide +kernel
theorem dX0_hasAll_10 : decode cX0_hasAll 10 = .ok (.ishl, 1) := by decide +kernel
theorem dX0_hasAll_11 : decode cX0_hasAll 11 = .ok (.if_icmp .ge 7, 3) := by decide +kernel
theorem dX0_hasAll_14 : decode cX0_hasAll 14 = .ok (.iconst 1, 1) := by decide +kernel
theorem dX0_hasAll_15 : decode cX0_hasAll 15 = .ok (.goto 4, 3) := by decide +kernel
theorem dX0_hasAll_18 : decode cX0_hasAll 18 = .ok (.iconst 0, 1) := by decide +kernel
theorem dX0_hasAll_19 : decode cX0_hasAll 19 = .ok (.ireturn, 1) := by decide +kernel
theorem dX0_isFull_0 : decode cX0_isFull 0 = .ok (.aload_n 0, 1) := by decide +kernel
theorem dX0_isFull_1 : decode cX0_isFull 1 = .ok (.getfield 30, 3) := by decide +kernel
theorem dX0_isFull_4 : decode cX0_isFull 4 = .ok (.bipush 6, 2) := by decide +kernel
theorem dX0_isFull_6 : decode cX0_isFull 6 = .ok (.if_icmp .lt 7, 3) := by decide +kernel
theorem dX0_isFull_9 : decode cX0_isFull 9 = .ok (.iconst 1, 1) := by decide +kernel
theorem dX0_isFull_10 : decode cX0_isFull 10 = .ok (.goto 4, 3) := by decide +kernel
theorem dX0_isFull_13 : decode cX0_isFull 13 = .ok (.iconst 0, 1) := by decide +kernel
theorem dX0_isFull_14 : decode cX0_isFull 14 = .ok (.ireturn, 1) := by decide +kernel
theorem dX0_add_0 : decode cX0_add 0 = .ok (.aload_n 0, 1) := by decide +kernel
theorem dX0_add_1 : decode cX0_add 1 = .ok (.getfield 30, 3) := by decide +kernel
theorem dX0_add_4 : decode cX0_add 4 = .ok (.ifCond .lt 10, 3) := by decide +kernel
theorem dX0_add_7 : decode cX0_add 7 = .ok (.aload_n 0, 1) := by decide +kernel
theorem dX0_add_8 : decode cX0_add 8 = .ok (.invokevirtual 49, 3) := by decide +kernel
theorem dX0_add_11 : decode cX0_add 11 = .ok (.ifCond .eq 5, 3) := by decide +kernel
theorem dX0_add_14 : decode cX0_add 14 = .ok (.iconst (-1), 1) := by decide +kernel
theorem dX0_add_15 : decode cX0_add 15 = .ok (.ireturn, 1) := by decide +kernel
theorem dX0_add_16 : decode cX0_add 16 = .ok (.aload_n 0, 1) := by decide +kernel
theorem dX0_add_17 : decode cX0_add 17 = .ok (.getfield 15, 3) := by decide +kernel
theorem dX0_add_20 : decode cX0_add 20 = .ok (.aload_n 0, 1) := by decide +kernel
theorem dX0_add_21 : decode cX0_add 21 = .ok (.getfield 30, 3) := by decide +kernel
theorem dX0_add_24 : decode cX0_add 24 = .ok (.iload_n 1, 1) := by decide +kernel
theorem dX0_add_25 : decode cX0_add 25 = .ok (.iastore, 1) := by decide +kernel
theorem dX0_add_26 : decode cX0_add 26 = .ok (.aload_n 0, 1) := by decide +kernel
theorem dX0_add_27 : decode cX0_add 27 = .ok (.getfield 18, 3) := by decide +kernel
theorem dX0_add_30 : decode cX0_add 30 = .ok (.aload_n 0, 1) := by decide +kernel
theorem dX0_add_31 : decode cX0_add 31 = .ok (.getfield 30, 3) := by decide +kernel
theorem dX0_add_34 : decode cX0_add 34 = .ok (.iload_n 2, 1) := by decide +kernel
theorem dX0_add_35 : decode cX0_add 35 = .ok (.iastore, 1) := by decide +kernel
theorem dX0_add_36 : decode cX0_add 36 = .ok (.aload_n 0, 1) := by decide +kernel
theorem dX0_add_37 : decode cX0_add 37 = .ok (.getfield 21, 3) := by decide +kernel
theorem dX0_add_40 : decode cX0_add 40 = .ok (.aload_n 0, 1) := by decide +kernel
theorem dX0_add_41 : decode cX0_add 41 = .ok (.getfield 30, 3) := by decide +kernel
theorem dX0_add_44 : decode cX0_add 44 = .ok (.iload_n 3, 1) := by decide +kernel
theorem dX0_add_45 : decode cX0_add 45 = .ok (.iastore, 1) := by decide +kernel
theorem dX0_add_46 : decode cX0_add 46 = .ok (.aload_n 0, 1) := by decide +kernel
theorem dX0_add_47 : decode cX0_add 47 = .ok (.getfield 24, 3) := by decide +kernel
theorem dX0_add_50 : decode cX0_add 50 = .ok (.aload_n 0, 1) := by decide +kernel
theorem dX0_add_51 : decode cX0_add 51 = .ok (.getfield 30, 3) := by decide +kernel
theorem dX0_add_54 : decode cX0_add 54 = .ok (.iconst 0, 1) := by decide +kernel
theorem dX0_add_55 : decode cX0_add 55 = .ok (.iastore, 1) := by decide +kernel
theorem dX0_add_56 : decode cX0_add 56 = .ok (.aload_n 0, 1) := by decide +kernel
theorem dX0_add_57 : decode cX0_add 57 = .ok (.dup, 1) := by decide +kernel
theorem dX0_add_58 : decode cX0_add 58 = .ok (.getfield 30, 3) := by decide +kernel
theorem dX0_add_61 : decode cX0_add 61 = .ok (.iconst 1, 1) := by decide +kernel
theorem dX0_add_62 : decode cX0_add 62 = .ok (.iadd, 1) := by decide +kernel
theorem dX0_add_63 : decode cX0_add 63 = .ok (.putfield 30, 3) := by decide +kernel
theorem dX0_add_66 : decode cX0_add 66 = .ok (.aload_n 0, 1) := by decide +kernel
theorem dX0_add_67 : decode cX0_add 67 = .ok (.getfield 30, 3) := by decide +kernel
theorem dX0_add_70 : decode cX0_add 70 = .ok (.iconst 1, 1) := by decide +kernel
theorem dX0_add_71 : decode cX0_add 71 = .ok (.isub, 1) := by decide +kernel
theorem dX0_add_72 : decode cX0_add 72 = .ok (.ireturn, 1) := by decide +kernel
theorem dX0_bears_0 : decode cX0_bears 0 = .ok (.aload_n 0, 1) := by decide +kernel
theorem dX0_bears_1 : decode cX0_bears 1 = .ok (.iload_n 1, 1) := by decide +kernel
theorem dX0_bears_2 : decode cX0_bears 2 = .ok (.invokevirtual 53, 3) := by decide +kernel
theorem dX0_bears_5 : decode cX0_bears 5 = .ok (.ifCond .eq 25, 3) := by decide +kernel
theorem dX0_bears_8 : decode cX0_bears 8 = .ok (.aload_n 0, 1) := by decide +kernel
theorem dX0_bears_9 : decode cX0_bears 9 = .ok (.getfield 15, 3) := by decide +kernel
theorem dX0_bears_12 : decode cX0_bears 12 = .ok (.iload_n 1, 1) := by decide +kernel
theorem dX0_bears_13 : decode cX0_bears 13 = .ok (.iaload, 1) := by decide +kernel
theorem dX0_bears_14 : decode cX0_bears 14 = .ok (.aload_n 0, 1) := by decide +kernel
theorem dX0_bears_15 : decode cX0_bears 15 = .ok (.getfield 21, 3) := by decide +kernel
theorem dX0_bears_18 : decode cX0_bears 18 = .ok (.iload_n 1, 1) := by decide +kernel
theorem dX0_bears_19 : decode cX0_bears 19 = .ok (.iaload, 1) := by decide +kernel
theorem dX0_bears_20 : decode cX0_bears 20 = .ok (.aload_n 0, 1) := by decide +kernel
theorem dX0_bears_21 : decode cX0_bears 21 = .ok (.getfield 34, 3) := by decide +kernel
theorem dX0_bears_24 : decode cX0_bears 24 = .ok (.invokestatic 57, 3) := by decide +kernel
theorem dX0_bears_27 : decode cX0_bears 27 = .ok (.goto 4, 3) := by decide +kernel
theorem dX0_bears_30 : decode cX0_bears 30 = .ok (.iconst 0, 1) := by decide +kernel
theorem dX0_bears_31 : decode cX0_bears 31 = .ok (.ireturn, 1) := by decide +kernel
theorem dX0_unfit_0 : decode cX0_unfit 0 = .ok (.aload_n 0, 1) := by decide +kernel
theorem dX0_unfit_1 : decode cX0_unfit 1 = .ok (.iload_n 1, 1) := by decide +kernel
theorem dX0_unfit_2 : decode cX0_unfit 2 = .ok (.invokevirtual 53, 3) := by decide +kernel
theorem dX0_unfit_5 : decode cX0_unfit 5 = .ok (.ifCond .ne 5, 3) := by decide +kernel
theorem dX0_unfit_8 : decode cX0_unfit 8 = .ok (.iconst 0, 1) := by decide +kernel
theorem dX0_unfit_9 : decode cX0_unfit 9 = .ok (.ireturn, 1) := by decide +kernel
theorem dX0_unfit_10 : decode cX0_unfit 10 = .ok (.aload_n 0, 1) := by decide +kernel
theorem dX0_unfit_11 : decode cX0_unfit 11 = .ok (.iload_n 1, 1) := by decide +kernel
theorem dX0_unfit_12 : decode cX0_unfit 12 = .ok (.invokevirtual 63, 3) := by decide +kernel
theorem dX0_unfit_15 : decode cX0_unfit 15 = .ok (.istore_n 2, 1) := by decide +kernel
theorem dX0_unfit_16 : decode cX0_unfit 16 = .ok (.iconst 0, 1) := by decide +kernel
theorem dX0_unfit_17 : decode cX0_unfit 17 = .ok (.istore_n 3, 1) := by decide +kernel
theorem dX0_unfit_18 : decode cX0_unfit 18 = .ok (.iconst 0, 1) := by decide +kernel
theorem dX0_unfit_19 : decode cX0_unfit 19 = .ok (.istore 4, 2) := by decide +kernel
theorem dX0_unfit_21 : decode cX0_unfit 21 = .ok (.iload 4, 2) := by decide +kernel
theorem dX0_unfit_23 : decode cX0_unfit 23 = .ok (.bipush 12, 2) := by decide +kernel
theorem dX0_unfit_25 : decode cX0_unfit 25 = .ok (.if_icmp .ge 37, 3) := by decide +kernel
theorem dX0_unfit_28 : decode cX0_unfit 28 = .ok (.aload_n 0, 1) := by decide +kernel
theorem dX0_unfit_29 : decode cX0_unfit 29 = .ok (.getfield 18, 3) := by decide +kernel
theorem dX0_unfit_32 : decode cX0_unfit 32 = .ok (.iload_n 1, 1) := by decide +kernel
theorem dX0_unfit_33 : decode cX0_unfit 33 = .ok (.iaload, 1) := by decide +kernel
theorem dX0_unfit_34 : decode cX0_unfit 34 = .ok (.aload_n 0, 1) := by decide +kernel
theorem dX0_unfit_35 : decode cX0_unfit 35 = .ok (.getfield 9, 3) := by decide +kernel
theorem dX0_unfit_38 : decode cX0_unfit 38 = .ok (.iload 4, 2) := by decide +kernel
theorem dX0_unfit_40 : decode cX0_unfit 40 = .ok (.iaload, 1) := by decide +kernel
theorem dX0_unfit_41 : decode cX0_unfit 41 = .ok (.isub, 1) := by decide +kernel
theorem dX0_unfit_42 : decode cX0_unfit 42 = .ok (.invokestatic 66, 3) := by decide +kernel
theorem dX0_unfit_45 : decode cX0_unfit 45 = .ok (.iload_n 2, 1) := by decide +kernel
theorem dX0_unfit_46 : decode cX0_unfit 46 = .ok (.if_icmp .le 10, 3) := by decide +kernel
theorem dX0_unfit_49 : decode cX0_unfit 49 = .ok (.iload_n 3, 1) := by decide +kernel
theorem dX0_unfit_50 : decode cX0_unfit 50 = .ok (.iconst 1, 1) := by decide +kernel
theorem dX0_unfit_51 : decode cX0_unfit 51 = .ok (.iload 4, 2) := by decide +kernel
theorem dX0_unfit_53 : decode cX0_unfit 53 = .ok (.ishl, 1) := by decide +kernel
theorem dX0_unfit_54 : decode cX0_unfit 54 = .ok (.ior, 1) := by decide +kernel
theorem dX0_unfit_55 : decode cX0_unfit 55 = .ok (.istore_n 3, 1) := by decide +kernel
theorem dX0_unfit_56 : decode cX0_unfit 56 = .ok (.iinc 4 1, 3) := by decide +kernel
theorem dX0_unfit_59 : decode cX0_unfit 59 = .ok (.goto (-38), 3) := by decide +kernel
theorem dX0_unfit_62 : decode cX0_unfit 62 = .ok (.iload_n 3, 1) := by decide +kernel
theorem dX0_unfit_63 : decode cX0_unfit 63 = .ok (.ireturn, 1) := by decide +kernel
theorem dX0_draw_0 : decode cX0_draw 0 = .ok (.aload_n 0, 1) := by decide +kernel
theorem dX0_draw_1 : decode cX0_draw 1 = .ok (.aload_n 0, 1) := by decide +kernel
theorem dX0_draw_2 : decode cX0_draw 2 = .ok (.getfield 40, 3) := by decide +kernel
theorem dX0_draw_5 : decode cX0_draw 5 = .ok (.ldc 71, 2) := by decide +kernel
theorem dX0_draw_7 : decode cX0_draw 7 = .ok (.imul, 1) := by decide +kernel
theorem dX0_draw_8 : decode cX0_draw 8 = .ok (.sipush 12345, 3) := by decide +kernel
theorem dX0_draw_11 : decode cX0_draw 11 = .ok (.iadd, 1) := by decide +kernel
theorem dX0_draw_12 : decode cX0_draw 12 = .ok (.putfield 40, 3) := by decide +kernel
theorem dX0_draw_15 : decode cX0_draw 15 = .ok (.aload_n 0, 1) := by decide +kernel
theorem dX0_draw_16 : decode cX0_draw 16 = .ok (.getfield 40, 3) := by decide +kernel
theorem dX0_draw_19 : decode cX0_draw 19 = .ok (.bipush 8, 2) := by decide +kernel
theorem dX0_draw_21 : decode cX0_draw 21 = .ok (.iushr, 1) := by decide +kernel
theorem dX0_draw_22 : decode cX0_draw 22 = .ok (.ireturn, 1) := by decide +kernel
theorem dX0_heldSpots_0 : decode cX0_heldSpots 0 = .ok (.iconst 0, 1) := by decide +kernel
theorem dX0_heldSpots_1 : decode cX0_heldSpots 1 = .ok (.istore_n 1, 1) := by decide +kernel
theorem dX0_heldSpots_2 : decode cX0_heldSpots 2 = .ok (.iconst 0, 1) := by decide +kernel
theorem dX0_heldSpots_3 : decode cX0_heldSpots 3 = .ok (.istore_n 2, 1) := by decide +kernel
theorem dX0_heldSpots_4 : decode cX0_heldSpots 4 = .ok (.iload_n 2, 1) := by decide +kernel
theorem dX0_heldSpots_5 : decode cX0_heldSpots 5 = .ok (.bipush 10, 2) := by decide +kernel
theorem dX0_heldSpots_7 : decode cX0_heldSpots 7 = .ok (.if_icmp .ge 22, 3) := by decide +kernel
theorem dX0_heldSpots_10 : decode cX0_heldSpots 10 = .ok (.aload_n 0, 1) := by decide +kernel
theorem dX0_heldSpots_11 : decode cX0_heldSpots 11 = .ok (.getfield 27, 3) := by decide +kernel
theorem dX0_heldSpots_14 : decode cX0_heldSpots 14 = .ok (.iload_n 2, 1) := by decide +kernel
theorem dX0_heldSpots_15 : decode cX0_heldSpots 15 = .ok (.iaload, 1) := by decide +kernel
theorem dX0_heldSpots_16 : decode cX0_heldSpots 16 = .ok (.iconst (-1), 1) := by decide +kernel
theorem dX0_heldSpots_17 : decode cX0_heldSpots 17 = .ok (.if_icmp .eq 6, 3) := by decide +kernel
theorem dX0_heldSpots_20 : decode cX0_heldSpots 20 = .ok (.iinc 1 1, 3) := by decide +kernel
theorem dX0_heldSpots_23 : decode cX0_heldSpots 23 = .ok (.iinc 2 1, 3) := by decide +kernel
theorem dX0_heldSpots_26 : decode cX0_heldSpots 26 = .ok (.goto (-22), 3) := by decide +kernel
theorem dX0_heldSpots_29 : decode cX0_heldSpots 29 = .ok (.iload_n 1, 1) := by decide +kernel
theorem dX0_heldSpots_30 : decode cX0_heldSpots 30 = .ok (.ireturn, 1) := by decide +kernel
theorem dX1_bears_0 : decode cX1_bears 0 = .ok (.iload_n 0, 1) := by decide +kernel
theorem dX1_bears_1 : decode cX1_bears 1 = .ok (.tableswitch 96 1 6 #[39, 50, 59, 71, 93, 43], 39) := by decide +kernel
theorem dX1_bears_40 : decode cX1_bears 40 = .ok (.iload_n 1, 1) := by decide +kernel
theorem dX1_bears_41 : decode cX1_bears 41 = .ok (.iconst 2, 1) := by decide +kernel
theorem dX1_bears_42 : decode cX1_bears 42 = .ok (.idiv, 1) := by decide +kernel
theorem dX1_bears_43 : decode cX1_bears 43 = .ok (.ireturn, 1) := by decide +kernel
theorem dX1_bears_44 : decode cX1_bears 44 = .ok (.iload_n 1, 1) := by decide +kernel
theorem dX1_bears_45 : decode cX1_bears 45 = .ok (.iconst 2, 1) := by decide +kernel
theorem dX1_bears_46 : decode cX1_bears 46 = .ok (.idiv, 1) := by decide +kernel
theorem dX1_bears_47 : decode cX1_bears 47 = .ok (.bipush 40, 2) := by decide +kernel
theorem dX1_bears_49 : decode cX1_bears 49 = .ok (.iadd, 1) := by decide +kernel
theorem dX1_bears_50 : decode cX1_bears 50 = .ok (.ireturn, 1) := by decide +kernel
theorem dX1_bears_51 : decode cX1_bears 51 = .ok (.iconst 0, 1) := by decide +kernel
theorem dX1_bears_52 : decode cX1_bears 52 = .ok (.iload_n 1, 1) := by decide +kernel
theorem dX1_bears_53 : decode cX1_bears 53 = .ok (.bipush 10, 2) := by decide +kernel
theorem dX1_bears_55 : decode cX1_bears 55 = .ok (.isub, 1) := by decide +kernel
theorem dX1_bears_56 : decode cX1_bears 56 = .ok (.invokestatic 9, 3) := by decide +kernel
theorem dX1_bears_59 : decode cX1_bears 59 = .ok (.ireturn, 1) := by decide +kernel
theorem dX1_bears_60 : decode cX1_bears 60 = .ok (.iconst 0, 1) := by decide +kernel
theorem dX1_bears_61 : decode cX1_bears 61 = .ok (.iload_n 1, 1) := by decide +kernel
theorem dX1_bears_62 : decode cX1_bears 62 = .ok (.bipush 10, 2) := by decide +kernel
theorem dX1_bears_64 : decode cX1_bears 64 = .ok (.isub, 1) := by decide +kernel
theorem dX1_bears_65 : decode cX1_bears 65 = .ok (.invokestatic 9, 3) := by decide +kernel
theorem dX1_bears_68 : decode cX1_bears 68 = .ok (.bipush 20, 2) := by decide +kernel
theorem dX1_bears_70 : decode cX1_bears 70 = .ok (.iadd, 1) := by decide +kernel
theorem dX1_bears_71 : decode cX1_bears 71 = .ok (.ireturn, 1) := by decide +kernel
theorem dX1_bears_72 : decode cX1_bears 72 = .ok (.iload_n 2, 1) := by decide +kernel
theorem dX1_bears_73 : decode cX1_bears 73 = .ok (.iconst 1, 1) := by decide +kernel
theorem dX1_bears_74 : decode cX1_bears 74 = .ok (.if_icmp .ne 8, 3) := by decide +kernel
theorem dX1_bears_77 : decode cX1_bears 77 = .ok (.bipush 99, 2) := by decide +kernel
theorem dX1_bears_79 : decode cX1_bears 79 = .ok (.goto 14, 3) := by decide +kernel
theorem dX1_bears_82 : decode cX1_bears 82 = .ok (.iconst 0, 1) := by decide +kernel
theorem dX1_bears_83 : decode cX1_bears 83 = .ok (.iload_n 1, 1) := by decide +kernel
theorem dX1_bears_84 : decode cX1_bears 84 = .ok (.bipush 10, 2) := by decide +kernel
theorem dX1_bears_86 : decode cX1_bears 86 = .ok (.isub, 1) := by decide +kernel
theorem dX1_bears_87 : decode cX1_bears 87 = .ok (.invokestatic 9, 3) := by decide +kernel
theorem dX1_bears_90 : decode cX1_bears 90 = .ok (.bipush 20, 2) := by decide +kernel
theorem dX1_bears_92 : decode cX1_bears 92 = .ok (.iadd, 1) := by decide +kernel
theorem dX1_bears_93 : decode cX1_bears 93 = .ok (.ireturn, 1) := by decide +kernel
theorem dX1_bears_94 : decode cX1_bears 94 = .ok (.bipush 99, 2) := by decide +kernel
theorem dX1_bears_96 : decode cX1_bears 96 = .ok (.ireturn, 1) := by decide +kernel
theorem dX1_bears_97 : decode cX1_bears 97 = .ok (.iload_n 1, 1) := by decide +kernel
theorem dX1_bears_98 : decode cX1_bears 98 = .ok (.ireturn, 1) := by decide +kernel
theorem dX1_sway_0 : decode cX1_sway 0 = .ok (.iload_n 2, 1) := by decide +kernel
theorem dX1_sway_1 : decode cX1_sway 1 = .ok (.iload_n 1, 1) := by decide +kernel
theorem dX1_sway_2 : decode cX1_sway 2 = .ok (.isub, 1) := by decide +kernel
theorem dX1_sway_3 : decode cX1_sway 3 = .ok (.istore_n 3, 1) := by decide +kernel
theorem dX1_sway_4 : decode cX1_sway 4 = .ok (.iload_n 0, 1) := by decide +kernel
theorem dX1_sway_5 : decode cX1_sway 5 = .ok (.tableswitch 73 1 6 #[39, 43, 45, 52, 59, 43], 39) := by decide +kernel
theorem dX1_sway_44 : decode cX1_sway 44 = .ok (.iload_n 3, 1) := by decide +kernel
theorem dX1_sway_45 : decode cX1_sway 45 = .ok (.iconst 2, 1) := by decide +kernel
theorem dX1_sway_46 : decode cX1_sway 46 = .ok (.idiv, 1) := by decide +kernel
theorem dX1_sway_47 : decode cX1_sway 47 = .ok (.ireturn, 1) := by decide +kernel
theorem dX1_sway_48 : decode cX1_sway 48 = .ok (.iconst 0, 1) := by decide +kernel
theorem dX1_sway_49 : decode cX1_sway 49 = .ok (.ireturn, 1) := by decide +kernel
theorem dX1_sway_50 : decode cX1_sway 50 = .ok (.iload_n 3, 1) := by decide +kernel
theorem dX1_sway_51 : decode cX1_sway 51 = .ok (.bipush 10, 2) := by decide +kernel
theorem dX1_sway_53 : decode cX1_sway 53 = .ok (.idiv, 1) := by decide +kernel
theorem dX1_sway_54 : decode cX1_sway 54 = .ok (.iconst 1, 1) := by decide +kernel
theorem dX1_sway_55 : decode cX1_sway 55 = .ok (.iadd, 1) := by decide +kernel
theorem dX1_sway_56 : decode cX1_sway 56 = .ok (.ireturn, 1) := by decide +kernel
theorem dX1_sway_57 : decode cX1_sway 57 = .ok (.iload_n 3, 1) := by decide +kernel
theorem dX1_sway_58 : decode cX1_sway 58 = .ok (.bipush 10, 2) := by decide +kernel
theorem dX1_sway_60 : decode cX1_sway 60 = .ok (.idiv, 1) := by decide +kernel
theorem dX1_sway_61 : decode cX1_sway 61 = .ok (.iconst 1, 1) := by decide +kernel
theorem dX1_sway_62 : decode cX1_sway 62 = .ok (.isub, 1) := by decide +kernel
theorem dX1_sway_63 : decode cX1_sway 63 = .ok (.ireturn, 1) := by decide +kernel
theorem dX1_sway_64 : decode cX1_sway 64 = .ok (.bipush (-5), 2) := by decide +kernel
theorem dX1_sway_66 : decode cX1_sway 66 = .ok (.iconst 5, 1) := by decide +kernel
theorem dX1_sway_67 : decode cX1_sway 67 = .ok (.bipush 20, 2) := by decide +kernel
theorem dX1_sway_69 : decode cX1_sway 69 = .ok (.iload_n 1, 1) := by decide +kernel
theorem dX1_sway_70 : decode cX1_sway 70 = .ok (.isub, 1) := by decide +kernel
theorem dX1_sway_71 : decode cX1_sway 71 = .ok (.invokestatic 15, 3) := by decide +kernel
theorem dX1_sway_74 : decode cX1_sway 74 = .ok (.invokestatic 9, 3) := by decide +kernel
theorem dX1_sway_77 : decode cX1_sway 77 = .ok (.ireturn, 1) := by decide +kernel
theorem dX1_sway_78 : decode cX1_sway 78 = .ok (.iload_n 3, 1) := by decide +kernel
theorem dX1_sway_79 : decode cX1_sway 79 = .ok (.iconst 4, 1) := by decide +kernel
theorem dX1_sway_80 : decode cX1_sway 80 = .ok (.idiv, 1) := by decide +kernel
theorem dX1_sway_81 : decode cX1_sway 81 = .ok (.ireturn, 1) := by decide +kernel
theorem dX1_footprint_0 : decode cX1_footprint 0 = .ok (.iload_n 0, 1) := by decide +kernel
theorem dX1_footprint_1 : decode cX1_footprint 1 = .ok (.tableswitch 56 1 5 #[35, 39, 45, 45, 53], 35) := by decide +kernel
theorem dX1_footprint_36 : decode cX1_footprint 36 = .ok (.iload_n 1, 1) := by decide +kernel
theorem dX1_footprint_37 : decode cX1_footprint 37 = .ok (.iconst 5, 1) := by decide +kernel
theorem dX1_footprint_38 : decode cX1_footprint 38 = .ok (.iadd, 1) := by decide +kernel
theorem dX1_footprint_39 : decode cX1_footprint 39 = .ok (.ireturn, 1) := by decide +kernel
theorem dX1_footprint_40 : decode cX1_footprint 40 = .ok (.iload_n 1, 1) := by decide +kernel
theorem dX1_footprint_41 : decode cX1_footprint 41 = .ok (.iload_n 2, 1) := by decide +kernel
theorem dX1_footprint_42 : decode cX1_footprint 42 = .ok (.iadd, 1) := by decide +kernel
theorem dX1_footprint_43 : decode cX1_footprint 43 = .ok (.iconst 2, 1) := by decide +kernel
theorem dX1_footprint_44 : decode cX1_footprint 44 = .ok (.idiv, 1) := by decide +kernel
theorem dX1_footprint_45 : decode cX1_footprint 45 = .ok (.ireturn, 1) := by decide +kernel
theorem dX1_footprint_46 : decode cX1_footprint 46 = .ok (.iload_n 1, 1) := by decide +kernel
theorem dX1_footprint_47 : decode cX1_footprint 47 = .ok (.iload_n 2, 1) := by decide +kernel
theorem dX1_footprint_48 : decode cX1_footprint 48 = .ok (.iadd, 1) := by decide +kernel
theorem dX1_footprint_49 : decode cX1_footprint 49 = .ok (.iconst 2, 1) := by decide +kernel
theorem dX1_footprint_50 : decode cX1_footprint 50 = .ok (.idiv, 1) := by decide +kernel
theorem dX1_footprint_51 : decode cX1_footprint 51 = .ok (.iconst 3, 1) := by decide +kernel
theorem dX1_footprint_52 : decode cX1_footprint 52 = .ok (.iadd, 1) := by decide +kernel
theorem dX1_footprint_53 : decode cX1_footprint 53 = .ok (.ireturn, 1) := by decide +kernel
theorem dX1_footprint_54 : decode cX1_footprint 54 = .ok (.bipush 20, 2) := by decide +kernel
theorem dX1_footprint_56 : decode cX1_footprint 56 = .ok (.ireturn, 1) := by decide +kernel
theorem dX1_footprint_57 : decode cX1_footprint 57 = .ok (.iload_n 1, 1) := by decide +kernel
theorem dX1_footprint_58 : decode cX1_footprint 58 = .ok (.ireturn, 1) := by decide +kernel
theorem dX1_isUnder_0 : decode cX1_isUnder 0 = .ok (.iload_n 0, 1) := by decide +kernel
theorem dX1_isUnder_1 : decode cX1_isUnder 1 = .ok (.istore_n 2, 1) := by decide +kernel
theorem dX1_isUnder_2 : decode cX1_isUnder 2 = .ok (.iconst 0, 1) := by decide +kernel
theorem dX1_isUnder_3 : decode cX1_isUnder 3 = .ok (.istore_n 3, 1) := by decide +kernel
theorem dX1_isUnder_4 : decode cX1_isUnder 4 = .ok (.iload_n 3, 1) := by decide +kernel
theorem dX1_isUnder_5 : decode cX1_isUnder 5 = .ok (.getstatic 18, 3) := by decide +kernel
theorem dX1_isUnder_8 : decode cX1_isUnder 8 = .ok (.arraylength, 1) := by decide +kernel
theorem dX1_isUnder_9 : decode cX1_isUnder 9 = .ok (.if_icmp .ge 29, 3) := by decide +kernel
theorem dX1_isUnder_12 : decode cX1_isUnder 12 = .ok (.iload_n 2, 1) := by decide +kernel
theorem dX1_isUnder_13 : decode cX1_isUnder 13 = .ok (.invokestatic 22, 3) := by decide +kernel
theorem dX1_isUnder_16 : decode cX1_isUnder 16 = .ok (.ifCond .eq 22, 3) := by decide +kernel
theorem dX1_isUnder_19 : decode cX1_isUnder 19 = .ok (.iload_n 2, 1) := by decide +kernel
theorem dX1_isUnder_20 : decode cX1_isUnder 20 = .ok (.iload_n 1, 1) := by decide +kernel
theorem dX1_isUnder_21 : decode cX1_isUnder 21 = .ok (.if_icmp .ne 5, 3) := by decide +kernel
theorem dX1_isUnder_24 : decode cX1_isUnder 24 = .ok (.iconst 1, 1) := by decide +kernel
theorem dX1_isUnder_25 : decode cX1_isUnder 25 = .ok (.ireturn, 1) := by decide +kernel
theorem dX1_isUnder_26 : decode cX1_isUnder 26 = .ok (.getstatic 18, 3) := by decide +kernel
theorem dX1_isUnder_29 : decode cX1_isUnder 29 = .ok (.iload_n 2, 1) := by decide +kernel
theorem dX1_isUnder_30 : decode cX1_isUnder 30 = .ok (.iaload, 1) := by decide +kernel
theorem dX1_isUnder_31 : decode cX1_isUnder 31 = .ok (.istore_n 2, 1) := by decide +kernel
theorem dX1_isUnder_32 : decode cX1_isUnder 32 = .ok (.iinc 3 1, 3) := by decide +kernel
theorem dX1_isUnder_35 : decode cX1_isUnder 35 = .ok (.goto (-31), 3) := by decide +kernel
theorem dX1_isUnder_38 : decode cX1_isUnder 38 = .ok (.iconst 0, 1) := by decide +kernel
theorem dX1_isUnder_39 : decode cX1_isUnder 39 = .ok (.ireturn, 1) := by decide +kernel
theorem dX2_init_0 : decode cX2_init 0 = .ok (.aload_n 0, 1) := by decide +kernel
theorem dX2_init_1 : decode cX2_init 1 = .ok (.invokespecial 3, 3) := by decide +kernel
theorem dX2_init_4 : decode cX2_init 4 = .ok (.aload_n 0, 1) := by decide +kernel
theorem dX2_init_5 : decode cX2_init 5 = .ok (.new 9, 3) := by decide +kernel
theorem dX2_init_8 : decode cX2_init 8 = .ok (.dup, 1) := by decide +kernel
theorem dX2_init_9 : decode cX2_init 9 = .ok (.invokespecial 11, 3) := by decide +kernel
theorem dX2_init_12 : decode cX2_init 12 = .ok (.putfield 12, 3) := by decide +kernel
theorem dX2_init_15 : decode cX2_init 15 = .ok (.aload_n 0, 1) := by decide +kernel
theorem dX2_init_16 : decode cX2_init 16 = .ok (.new 18, 3) := by decide +kernel
theorem dX2_init_19 : decode cX2_init 19 = .ok (.dup, 1) := by decide +kernel
theorem dX2_init_20 : decode cX2_init 20 = .ok (.invokespecial 20, 3) := by decide +kernel
theorem dX2_init_23 : decode cX2_init 23 = .ok (.putfield 21, 3) := by decide +kernel
theorem dX2_init_26 : decode cX2_init 26 = .ok (.aload_n 0, 1) := by decide +kernel
theorem dX2_init_27 : decode cX2_init 27 = .ok (.bipush 7, 2) := by decide +kernel
theorem dX2_init_29 : decode cX2_init 29 = .ok (.bipush 12, 2) := by decide +kernel
theorem dX2_init_31 : decode cX2_init 31 = .ok (.multianewarray 25 2, 4) := by decide +kernel
theorem dX2_init_35 : decode cX2_init 35 = .ok (.putfield 27, 3) := by decide +kernel
theorem dX2_init_38 : decode cX2_init 38 = .ok (.aload_n 0, 1) := by decide +kernel
theorem dX2_init_39 : decode cX2_init 39 = .ok (.bipush 6, 2) := by decide +kernel
theorem dX2_init_41 : decode cX2_init 41 = .ok (.newarray .int, 2) := by decide +kernel
theorem dX2_init_43 : decode cX2_init 43 = .ok (.putfield 30, 3) := by decide +kernel
theorem dX2_init_46 : decode cX2_init 46 = .ok (.return_, 1) := by decide +kernel
theorem dX2_findOrder_0 : decode cX2_findOrder 0 = .ok (.aload_n 0, 1) := by decide +kernel
theorem dX2_findOrder_1 : decode cX2_findOrder 1 = .ok (.aload_n 1, 1) := by decide +kernel
theorem dX2_findOrder_2 : decode cX2_findOrder 2 = .ok (.invokevirtual 34, 3) := by decide +kernel
theorem dX2_findOrder_5 : decode cX2_findOrder 5 = .ok (.aload_n 0, 1) := by decide +kernel
theorem dX2_findOrder_6 : decode cX2_findOrder 6 = .ok (.iload_n 2, 1) := by decide +kernel
theorem dX2_findOrder_7 : decode cX2_findOrder 7 = .ok (.iconst 0, 1) := by decide +kernel
theorem dX2_findOrder_8 : decode cX2_findOrder 8 = .ok (.invokevirtual 38, 3) := by decide +kernel
theorem dX2_findOrder_11 : decode cX2_findOrder 11 = .ok (.ireturn, 1) := by decide +kernel
theorem dX2_countOrders_0 : decode cX2_countOrders 0 = .ok (.aload_n 0, 1) := by decide +kernel
theorem dX2_countOrders_1 : decode cX2_countOrders 1 = .ok (.aload_n 1, 1) := by decide +kernel
theorem dX2_countOrders_2 : decode cX2_countOrders 2 = .ok (.invokevirtual 34, 3) := by decide +kernel
theorem dX2_countOrders_5 : decode cX2_countOrders 5 = .ok (.aload_n 0, 1) := by decide +kernel
theorem dX2_countOrders_6 : decode cX2_countOrders 6 = .ok (.iload_n 2, 1) := by decide +kernel
theorem dX2_countOrders_7 : decode cX2_countOrders 7 = .ok (.iconst 0, 1) := by decide +kernel
theorem dX2_countOrders_8 : decode cX2_countOrders 8 = .ok (.invokevirtual 42, 3) := by decide +kernel
theorem dX2_countOrders_11 : decode cX2_countOrders 11 = .ok (.ireturn, 1) := by decide +kernel
theorem dX2_countFalls_0 : decode cX2_countFalls 0 = .ok (.aload_n 0, 1) := by decide +kernel
theorem dX2_countFalls_1 : decode cX2_countFalls 1 = .ok (.aload_n 1, 1) := by decide +kernel
theorem dX2_countFalls_2 : decode cX2_countFalls 2 = .ok (.invokevirtual 34, 3) := by decide +kernel
theorem dX2_countFalls_5 : decode cX2_countFalls 5 = .ok (.aload_n 0, 1) := by decide +kernel
theorem dX2_countFalls_6 : decode cX2_countFalls 6 = .ok (.iload_n 2, 1) := by decide +kernel
theorem dX2_countFalls_7 : decode cX2_countFalls 7 = .ok (.iconst 0, 1) := by decide +kernel
theorem dX2_countFalls_8 : decode cX2_countFalls 8 = .ok (.invokevirtual 46, 3) := by decide +kernel
theorem dX2_countFalls_11 : decode cX2_countFalls 11 = .ok (.ireturn, 1) := by decide +kernel
theorem dX2_findGreatest_0 : decode cX2_findGreatest 0 = .ok (.aload_n 0, 1) := by decide +kernel
theorem dX2_findGreatest_1 : decode cX2_findGreatest 1 = .ok (.aload_n 1, 1) := by decide +kernel
theorem dX2_findGreatest_2 : decode cX2_findGreatest 2 = .ok (.invokevirtual 34, 3) := by decide +kernel
theorem dX2_findGreatest_5 : decode cX2_findGreatest 5 = .ok (.aload_n 0, 1) := by decide +kernel
theorem dX2_findGreatest_6 : decode cX2_findGreatest 6 = .ok (.iconst 0, 1) := by decide +kernel
theorem dX2_findGreatest_7 : decode cX2_findGreatest 7 = .ok (.iconst 0, 1) := by decide +kernel
theorem dX2_findGreatest_8 : decode cX2_findGreatest 8 = .ok (.iconst 0, 1) := by decide +kernel
theorem dX2_findGreatest_9 : decode cX2_findGreatest 9 = .ok (.invokevirtual 49, 3) := by decide +kernel
theorem dX2_findGreatest_12 : decode cX2_findGreatest 12 = .ok (.ireturn, 1) := by decide +kernel
theorem dX2_placed_0 : decode cX2_placed 0 = .ok (.iload_n 1, 1) := by decide +kernel
theorem dX2_placed_1 : decode cX2_placed 1 = .ok (.ifCond .lt 18, 3) := by decide +kernel
theorem dX2_placed_4 : decode cX2_placed 4 = .ok (.iload_n 1, 1) := by decide +kernel
theorem dX2_placed_5 : decode cX2_placed 5 = .ok (.bipush 6, 2) := by decide +kernel
theorem dX2_placed_7 : decode cX2_placed 7 = .ok (.if_icmp .ge 12, 3) := by decide +kernel
theorem dX2_placed_10 : decode cX2_placed 10 = .ok (.aload_n 0, 1) := by decide +kernel
theorem dX2_placed_11 : decode cX2_placed 11 = .ok (.getfield 30, 3) := by decide +kernel
theorem dX2_placed_14 : decode cX2_placed 14 = .ok (.iload_n 1, 1) := by decide +kernel
theorem dX2_placed_15 : decode cX2_placed 15 = .ok (.iaload, 1) := by decide +kernel
theorem dX2_placed_16 : decode cX2_placed 16 = .ok (.goto 4, 3) := by decide +kernel
theorem dX2_placed_19 : decode cX2_placed 19 = .ok (.iconst (-1), 1) := by decide +kernel
theorem dX2_placed_20 : decode cX2_placed 20 = .ok (.ireturn, 1) := by decide +kernel
theorem dX2_begin_0 : decode cX2_begin 0 = .ok (.aload_n 0, 1) := by decide +kernel
theorem dX2_begin_1 : decode cX2_begin 1 = .ok (.getfield 12, 3) := by decide +kernel
theorem dX2_begin_4 : decode cX2_begin 4 = .ok (.aload_n 1, 1) := by decide +kernel
theorem dX2_begin_5 : decode cX2_begin 5 = .ok (.invokevirtual 53, 3) := by decide +kernel
theorem dX2_begin_8 : decode cX2_begin 8 = .ok (.aload_n 0, 1) := by decide +kernel
theorem dX2_begin_9 : decode cX2_begin 9 = .ok (.getfield 12, 3) := by decide +kernel
theorem dX2_begin_12 : decode cX2_begin 12 = .ok (.getfield 56, 3) := by decide +kernel
theorem dX2_begin_15 : decode cX2_begin 15 = .ok (.iconst 0, 1) := by decide +kernel
theorem dX2_begin_16 : decode cX2_begin 16 = .ok (.aload_n 0, 1) := by decide +kernel
theorem dX2_begin_17 : decode cX2_begin 17 = .ok (.getfield 27, 3) := by decide +kernel
theorem dX2_begin_20 : decode cX2_begin 20 = .ok (.iconst 0, 1) := by decide +kernel
theorem dX2_begin_21 : decode cX2_begin 21 = .ok (.aaload, 1) := by decide +kernel
theorem dX2_begin_22 : decode cX2_begin 22 = .ok (.iconst 0, 1) := by decide +kernel
theorem dX2_begin_23 : decode cX2_begin 23 = .ok (.bipush 12, 2) := by decide +kernel
theorem dX2_begin_25 : decode cX2_begin 25 = .ok (.invokestatic 59, 3) := by decide +kernel
theorem dX2_begin_28 : decode cX2_begin 28 = .ok (.return_, 1) := by decide +kernel
theorem dX2_crosses_0 : decode cX2_crosses 0 = .ok (.iload_n 2, 1) := by decide +kernel
theorem dX2_crosses_1 : decode cX2_crosses 1 = .ok (.ifCond .lt 9, 3) := by decide +kernel
theorem dX2_crosses_4 : decode cX2_crosses 4 = .ok (.iload_n 2, 1) := by decide +kernel
theorem dX2_crosses_5 : decode cX2_crosses 5 = .ok (.bipush 6, 2) := by decide +kernel
theorem dX2_crosses_7 : decode cX2_crosses 7 = .ok (.if_icmp .lt 5, 3) := by decide +kernel
theorem dX2_crosses_10 : decode cX2_crosses 10 = .ok (.iconst 0, 1) := by decide +kernel
theorem dX2_crosses_11 : decode cX2_crosses 11 = .ok (.ireturn, 1) := by decide +kernel
theorem dX2_crosses_12 : decode cX2_crosses 12 = .ok (.aload_n 0, 1) := by decide +kernel
theorem dX2_crosses_13 : decode cX2_crosses 13 = .ok (.getfield 27, 3) := by decide +kernel
theorem dX2_crosses_16 : decode cX2_crosses 16 = .ok (.iload_n 2, 1) := by decide +kernel
theorem dX2_crosses_17 : decode cX2_crosses 17 = .ok (.aaload, 1) := by decide +kernel
theorem dX2_crosses_18 : decode cX2_crosses 18 = .ok (.iconst 0, 1) := by decide +kernel
theorem dX2_crosses_19 : decode cX2_crosses 19 = .ok (.aload_n 0, 1) := by decide +kernel
theorem dX2_crosses_20 : decode cX2_crosses 20 = .ok (.getfield 27, 3) := by decide +kernel
theorem dX2_crosses_23 : decode cX2_crosses 23 = .ok (.iload_n 2, 1) := by decide +kernel
theorem dX2_crosses_24 : decode cX2_crosses 24 = .ok (.iconst 1, 1) := by decide +kernel
theorem dX2_crosses_25 : decode cX2_crosses 25 = .ok (.iadd, 1) := by decide +kernel
theorem dX2_crosses_26 : decode cX2_crosses 26 = .ok (.aaload, 1) := by decide +kernel
theorem dX2_crosses_27 : decode cX2_crosses 27 = .ok (.iconst 0, 1) := by decide +kernel
theorem dX2_crosses_28 : decode cX2_crosses 28 = .ok (.bipush 12, 2) := by decide +kernel
theorem dX2_crosses_30 : decode cX2_crosses 30 = .ok (.invokestatic 59, 3) := by decide +kernel
theorem dX2_crosses_33 : decode cX2_crosses 33 = .ok (.aload_n 0, 1) := by decide +kernel
theorem dX2_crosses_34 : decode cX2_crosses 34 = .ok (.getfield 21, 3) := by decide +kernel
theorem dX2_crosses_37 : decode cX2_crosses 37 = .ok (.aload_n 0, 1) := by decide +kernel
theorem dX2_crosses_38 : decode cX2_crosses 38 = .ok (.getfield 12, 3) := by decide +kernel
theorem dX2_crosses_41 : decode cX2_crosses 41 = .ok (.iload_n 1, 1) := by decide +kernel
theorem dX2_crosses_42 : decode cX2_crosses 42 = .ok (.invokevirtual 65, 3) := by decide +kernel
theorem dX2_crosses_45 : decode cX2_crosses 45 = .ok (.aload_n 0, 1) := by decide +kernel
theorem dX2_crosses_46 : decode cX2_crosses 46 = .ok (.getfield 21, 3) := by decide +kernel
theorem dX2_crosses_49 : decode cX2_crosses 49 = .ok (.aload_n 0, 1) := by decide +kernel
theorem dX2_crosses_50 : decode cX2_crosses 50 = .ok (.getfield 27, 3) := by decide +kernel
theorem dX2_crosses_53 : decode cX2_crosses 53 = .ok (.iload_n 2, 1) := by decide +kernel
theorem dX2_crosses_54 : decode cX2_crosses 54 = .ok (.iconst 1, 1) := by decide +kernel
theorem dX2_crosses_55 : decode cX2_crosses 55 = .ok (.iadd, 1) := by decide +kernel
theorem dX2_crosses_56 : decode cX2_crosses 56 = .ok (.aaload, 1) := by decide +kernel
theorem dX2_crosses_57 : decode cX2_crosses 57 = .ok (.invokevirtual 68, 3) := by decide +kernel
theorem dX2_crosses_60 : decode cX2_crosses 60 = .ok (.bipush 12, 2) := by decide +kernel
theorem dX2_crosses_62 : decode cX2_crosses 62 = .ok (.if_icmp .ne 7, 3) := by decide +kernel
theorem dX2_crosses_65 : decode cX2_crosses 65 = .ok (.iconst 1, 1) := by decide +kernel
theorem dX2_crosses_66 : decode cX2_crosses 66 = .ok (.goto 4, 3) := by decide +kernel
theorem dX2_crosses_69 : decode cX2_crosses 69 = .ok (.iconst 0, 1) := by decide +kernel
theorem dX2_crosses_70 : decode cX2_crosses 70 = .ok (.ireturn, 1) := by decide +kernel
theorem dX2_findFirst_0 : decode cX2_findFirst 0 = .ok (.iload_n 1, 1) := by decide +kernel
theorem dX2_findFirst_1 : decode cX2_findFirst 1 = .ok (.ifCond .eq 9, 3) := by decide +kernel
theorem dX2_findFirst_4 : decode cX2_findFirst 4 = .ok (.iload_n 2, 1) := by decide +kernel
theorem dX2_findFirst_5 : decode cX2_findFirst 5 = .ok (.bipush 6, 2) := by decide +kernel
theorem dX2_findFirst_7 : decode cX2_findFirst 7 = .ok (.if_icmp .lt 5, 3) := by decide +kernel
theorem dX2_findFirst_10 : decode cX2_findFirst 10 = .ok (.iconst 1, 1) := by decide +kernel
theorem dX2_findFirst_11 : decode cX2_findFirst 11 = .ok (.ireturn, 1) := by decide +kernel
theorem dX2_findFirst_12 : decode cX2_findFirst 12 = .ok (.iconst 0, 1) := by decide +kernel
theorem dX2_findFirst_13 : decode cX2_findFirst 13 = .ok (.istore_n 3, 1) := by decide +kernel
theorem dX2_findFirst_14 : decode cX2_findFirst 14 = .ok (.iload_n 3, 1) := by decide +kernel
theorem dX2_findFirst_15 : decode cX2_findFirst 15 = .ok (.bipush 6, 2) := by decide +kernel
theorem dX2_findFirst_17 : decode cX2_findFirst 17 = .ok (.if_icmp .ge 52, 3) := by decide +kernel
theorem dX2_findFirst_20 : decode cX2_findFirst 20 = .ok (.iload_n 1, 1) := by decide +kernel
theorem dX2_findFirst_21 : decode cX2_findFirst 21 = .ok (.iload_n 3, 1) := by decide +kernel
theorem dX2_findFirst_22 : decode cX2_findFirst 22 = .ok (.invokestatic 72, 3) := by decide +kernel
theorem dX2_findFirst_25 : decode cX2_findFirst 25 = .ok (.ifCond .eq 38, 3) := by decide +kernel
theorem dX2_findFirst_28 : decode cX2_findFirst 28 = .ok (.aload_n 0, 1) := by decide +kernel
theorem dX2_findFirst_29 : decode cX2_findFirst 29 = .ok (.iload_n 3, 1) := by decide +kernel
theorem dX2_findFirst_30 : decode cX2_findFirst 30 = .ok (.iload_n 2, 1) := by decide +kernel
theorem dX2_findFirst_31 : decode cX2_findFirst 31 = .ok (.invokevirtual 75, 3) := by decide +kernel
theorem dX2_findFirst_34 : decode cX2_findFirst 34 = .ok (.ifCond .eq 29, 3) := by decide +kernel
theorem dX2_findFirst_37 : decode cX2_findFirst 37 = .ok (.aload_n 0, 1) := by decide +kernel
theorem dX2_findFirst_38 : decode cX2_findFirst 38 = .ok (.getfield 30, 3) := by decide +kernel
theorem dX2_findFirst_41 : decode cX2_findFirst 41 = .ok (.iload_n 2, 1) := by decide +kernel
theorem dX2_findFirst_42 : decode cX2_findFirst 42 = .ok (.iload_n 3, 1) := by decide +kernel
theorem dX2_findFirst_43 : decode cX2_findFirst 43 = .ok (.iastore, 1) := by decide +kernel
theorem dX2_findFirst_44 : decode cX2_findFirst 44 = .ok (.aload_n 0, 1) := by decide +kernel
theorem dX2_findFirst_45 : decode cX2_findFirst 45 = .ok (.iload_n 1, 1) := by decide +kernel
theorem dX2_findFirst_46 : decode cX2_findFirst 46 = .ok (.iconst 1, 1) := by decide +kernel
theorem dX2_findFirst_47 : decode cX2_findFirst 47 = .ok (.iload_n 3, 1) := by decide +kernel
theorem dX2_findFirst_48 : decode cX2_findFirst 48 = .ok (.ishl, 1) := by decide +kernel
theorem dX2_findFirst_49 : decode cX2_findFirst 49 = .ok (.iconst (-1), 1) := by decide +kernel
theorem dX2_findFirst_50 : decode cX2_findFirst 50 = .ok (.ixor, 1) := by decide +kernel
theorem dX2_findFirst_51 : decode cX2_findFirst 51 = .ok (.iand, 1) := by decide +kernel
theorem dX2_findFirst_52 : decode cX2_findFirst 52 = .ok (.iload_n 2, 1) := by decide +kernel
theorem dX2_findFirst_53 : decode cX2_findFirst 53 = .ok (.iconst 1, 1) := by decide +kernel
theorem dX2_findFirst_54 : decode cX2_findFirst 54 = .ok (.iadd, 1) := by decide +kernel
theorem dX2_findFirst_55 : decode cX2_findFirst 55 = .ok (.invokevirtual 38, 3) := by decide +kernel
theorem dX2_findFirst_58 : decode cX2_findFirst 58 = .ok (.ifCond .eq 5, 3) := by decide +kernel
theorem dX2_findFirst_61 : decode cX2_findFirst 61 = .ok (.iconst 1, 1) := by decide +kernel
theorem dX2_findFirst_62 : decode cX2_findFirst 62 = .ok (.ireturn, 1) := by decide +kernel
theorem dX2_findFirst_63 : decode cX2_findFirst 63 = .ok (.iinc 3 1, 3) := by decide +kernel
theorem dX2_findFirst_66 : decode cX2_findFirst 66 = .ok (.goto (-52), 3) := by decide +kernel
theorem dX2_findFirst_69 : decode cX2_findFirst 69 = .ok (.iconst 0, 1) := by decide +kernel
theorem dX2_findFirst_70 : decode cX2_findFirst 70 = .ok (.ireturn, 1) := by decide +kernel
theorem dX2_countSafe_0 : decode cX2_countSafe 0 = .ok (.iload_n 1, 1) := by decide +kernel
theorem dX2_countSafe_1 : decode cX2_countSafe 1 = .ok (.ifCond .eq 9, 3) := by decide +kernel
theorem dX2_countSafe_4 : decode cX2_countSafe 4 = .ok (.iload_n 2, 1) := by decide +kernel
theorem dX2_countSafe_5 : decode cX2_countSafe 5 = .ok (.bipush 6, 2) := by decide +kernel
theorem dX2_countSafe_7 : decode cX2_countSafe 7 = .ok (.if_icmp .lt 5, 3) := by decide +kernel
theorem dX2_countSafe_10 : decode cX2_countSafe 10 = .ok (.iconst 1, 1) := by decide +kernel
theorem dX2_countSafe_11 : decode cX2_countSafe 11 = .ok (.ireturn, 1) := by decide +kernel
theorem dX2_countSafe_12 : decode cX2_countSafe 12 = .ok (.iconst 0, 1) := by decide +kernel
theorem dX2_countSafe_13 : decode cX2_countSafe 13 = .ok (.istore_n 3, 1) := by decide +kernel
theorem dX2_countSafe_14 : decode cX2_countSafe 14 = .ok (.iconst 0, 1) := by decide +kernel
theorem dX2_countSafe_15 : decode cX2_countSafe 15 = .ok (.istore 4, 2) := by decide +kernel
theorem dX2_countSafe_17 : decode cX2_countSafe 17 = .ok (.iload 4, 2) := by decide +kernel
theorem dX2_countSafe_19 : decode cX2_countSafe 19 = .ok (.bipush 6, 2) := by decide +kernel
theorem dX2_countSafe_21 : decode cX2_countSafe 21 = .ok (.if_icmp .ge 46, 3) := by decide +kernel
theorem dX2_countSafe_24 : decode cX2_countSafe 24 = .ok (.iload_n 1, 1) := by decide +kernel
theorem dX2_countSafe_25 : decode cX2_countSafe 25 = .ok (.iload 4, 2) := by decide +kernel
theorem dX2_countSafe_27 : decode cX2_countSafe 27 = .ok (.invokestatic 72, 3) := by decide +kernel
theorem dX2_countSafe_30 : decode cX2_countSafe 30 = .ok (.ifCond .eq 31, 3) := by decide +kernel
theorem dX2_countSafe_33 : decode cX2_countSafe 33 = .ok (.aload_n 0, 1) := by decide +kernel
theorem dX2_countSafe_34 : decode cX2_countSafe 34 = .ok (.iload 4, 2) := by decide +kernel
theorem dX2_countSafe_36 : decode cX2_countSafe 36 = .ok (.iload_n 2, 1) := by decide +kernel
theorem dX2_countSafe_37 : decode cX2_countSafe 37 = .ok (.invokevirtual 75, 3) := by decide +kernel
theorem dX2_countSafe_40 : decode cX2_countSafe 40 = .ok (.ifCond .eq 21, 3) := by decide +kernel
theorem dX2_countSafe_43 : decode cX2_countSafe 43 = .ok (.iload_n 3, 1) := by decide +kernel
theorem dX2_countSafe_44 : decode cX2_countSafe 44 = .ok (.aload_n 0, 1) := by decide +kernel
theorem dX2_countSafe_45 : decode cX2_countSafe 45 = .ok (.iload_n 1, 1) := by decide +kernel
theorem dX2_countSafe_46 : decode cX2_countSafe 46 = .ok (.iconst 1, 1) := by decide +kernel
theorem dX2_countSafe_47 : decode cX2_countSafe 47 = .ok (.iload 4, 2) := by decide +kernel
theorem dX2_countSafe_49 : decode cX2_countSafe 49 = .ok (.ishl, 1) := by decide +kernel
theorem dX2_countSafe_50 : decode cX2_countSafe 50 = .ok (.iconst (-1), 1) := by decide +kernel
theorem dX2_countSafe_51 : decode cX2_countSafe 51 = .ok (.ixor, 1) := by decide +kernel
theorem dX2_countSafe_52 : decode cX2_countSafe 52 = .ok (.iand, 1) := by decide +kernel
theorem dX2_countSafe_53 : decode cX2_countSafe 53 = .ok (.iload_n 2, 1) := by decide +kernel
theorem dX2_countSafe_54 : decode cX2_countSafe 54 = .ok (.iconst 1, 1) := by decide +kernel
theorem dX2_countSafe_55 : decode cX2_countSafe 55 = .ok (.iadd, 1) := by decide +kernel
theorem dX2_countSafe_56 : decode cX2_countSafe 56 = .ok (.invokevirtual 42, 3) := by decide +kernel
theorem dX2_countSafe_59 : decode cX2_countSafe 59 = .ok (.iadd, 1) := by decide +kernel
theorem dX2_countSafe_60 : decode cX2_countSafe 60 = .ok (.istore_n 3, 1) := by decide +kernel
theorem dX2_countSafe_61 : decode cX2_countSafe 61 = .ok (.iinc 4 1, 3) := by decide +kernel
theorem dX2_countSafe_64 : decode cX2_countSafe 64 = .ok (.goto (-47), 3) := by decide +kernel
theorem dX2_countSafe_67 : decode cX2_countSafe 67 = .ok (.iload_n 3, 1) := by decide +kernel
theorem dX2_countSafe_68 : decode cX2_countSafe 68 = .ok (.ireturn, 1) := by decide +kernel
theorem dX2_fewestFalls_0 : decode cX2_fewestFalls 0 = .ok (.iload_n 1, 1) := by decide +kernel
theorem dX2_fewestFalls_1 : decode cX2_fewestFalls 1 = .ok (.ifCond .eq 9, 3) := by decide +kernel
theorem dX2_fewestFalls_4 : decode cX2_fewestFalls 4 = .ok (.iload_n 2, 1) := by decide +kernel
theorem dX2_fewestFalls_5 : decode cX2_fewestFalls 5 = .ok (.bipush 6, 2) := by decide +kernel
theorem dX2_fewestFalls_7 : decode cX2_fewestFalls 7 = .ok (.if_icmp .lt 5, 3) := by decide +kernel
theorem dX2_fewestFalls_10 : decode cX2_fewestFalls 10 = .ok (.iconst 0, 1) := by decide +kernel
theorem dX2_fewestFalls_11 : decode cX2_fewestFalls 11 = .ok (.ireturn, 1) := by decide +kernel
theorem dX2_fewestFalls_12 : decode cX2_fewestFalls 12 = .ok (.bipush 6, 2) := by decide +kernel
theorem dX2_fewestFalls_14 : decode cX2_fewestFalls 14 = .ok (.istore_n 3, 1) := by decide +kernel
theorem dX2_fewestFalls_15 : decode cX2_fewestFalls 15 = .ok (.iconst 0, 1) := by decide +kernel
theorem dX2_fewestFalls_16 : decode cX2_fewestFalls 16 = .ok (.istore 4, 2) := by decide +kernel
theorem dX2_fewestFalls_18 : decode cX2_fewestFalls 18 = .ok (.iload 4, 2) := by decide +kernel
theorem dX2_fewestFalls_20 : decode cX2_fewestFalls 20 = .ok (.bipush 6, 2) := by decide +kernel
theorem dX2_fewestFalls_22 : decode cX2_fewestFalls 22 = .ok (.if_icmp .ge 62, 3) := by decide +kernel
theorem dX2_fewestFalls_25 : decode cX2_fewestFalls 25 = .ok (.iload_n 3, 1) := by decide +kernel
theorem dX2_fewestFalls_26 : decode cX2_fewestFalls 26 = .ok (.ifCond .le 58, 3) := by decide +kernel
theorem dX2_fewestFalls_29 : decode cX2_fewestFalls 29 = .ok (.iload_n 1, 1) := by decide +kernel
theorem dX2_fewestFalls_30 : decode cX2_fewestFalls 30 = .ok (.iload 4, 2) := by decide +kernel
theorem dX2_fewestFalls_32 : decode cX2_fewestFalls 32 = .ok (.invokestatic 72, 3) := by decide +kernel
theorem dX2_fewestFalls_35 : decode cX2_fewestFalls 35 = .ok (.ifCond .eq 43, 3) := by decide +kernel
theorem dX2_fewestFalls_38 : decode cX2_fewestFalls 38 = .ok (.aload_n 0, 1) := by decide +kernel
theorem dX2_fewestFalls_39 : decode cX2_fewestFalls 39 = .ok (.iload 4, 2) := by decide +kernel
theorem dX2_fewestFalls_41 : decode cX2_fewestFalls 41 = .ok (.iload_n 2, 1) := by decide +kernel
theorem dX2_fewestFalls_42 : decode cX2_fewestFalls 42 = .ok (.invokevirtual 75, 3) := by decide +kernel
theorem dX2_fewestFalls_45 : decode cX2_fewestFalls 45 = .ok (.ifCond .eq 7, 3) := by decide +kernel
theorem dX2_fewestFalls_48 : decode cX2_fewestFalls 48 = .ok (.iconst 0, 1) := by decide +kernel
theorem dX2_fewestFalls_49 : decode cX2_fewestFalls 49 = .ok (.goto 4, 3) := by decide +kernel
theorem dX2_fewestFalls_52 : decode cX2_fewestFalls 52 = .ok (.iconst 1, 1) := by decide +kernel
theorem dX2_fewestFalls_53 : decode cX2_fewestFalls 53 = .ok (.istore 5, 2) := by decide +kernel
theorem dX2_fewestFalls_55 : decode cX2_fewestFalls 55 = .ok (.iload_n 3, 1) := by decide +kernel
theorem dX2_fewestFalls_56 : decode cX2_fewestFalls 56 = .ok (.iload 5, 2) := by decide +kernel
theorem dX2_fewestFalls_58 : decode cX2_fewestFalls 58 = .ok (.aload_n 0, 1) := by decide +kernel
theorem dX2_fewestFalls_59 : decode cX2_fewestFalls 59 = .ok (.iload_n 1, 1) := by decide +kernel
theorem dX2_fewestFalls_60 : decode cX2_fewestFalls 60 = .ok (.iconst 1, 1) := by decide +kernel
theorem dX2_fewestFalls_61 : decode cX2_fewestFalls 61 = .ok (.iload 4, 2) := by decide +kernel
theorem dX2_fewestFalls_63 : decode cX2_fewestFalls 63 = .ok (.ishl, 1) := by decide +kernel
theorem dX2_fewestFalls_64 : decode cX2_fewestFalls 64 = .ok (.iconst (-1), 1) := by decide +kernel
theorem dX2_fewestFalls_65 : decode cX2_fewestFalls 65 = .ok (.ixor, 1) := by decide +kernel
theorem dX2_fewestFalls_66 : decode cX2_fewestFalls 66 = .ok (.iand, 1) := by decide +kernel
theorem dX2_fewestFalls_67 : decode cX2_fewestFalls 67 = .ok (.iload_n 2, 1) := by decide +kernel
theorem dX2_fewestFalls_68 : decode cX2_fewestFalls 68 = .ok (.iconst 1, 1) := by decide +kernel
theorem dX2_fewestFalls_69 : decode cX2_fewestFalls 69 = .ok (.iadd, 1) := by decide +kernel
theorem dX2_fewestFalls_70 : decode cX2_fewestFalls 70 = .ok (.invokevirtual 46, 3) := by decide +kernel
theorem dX2_fewestFalls_73 : decode cX2_fewestFalls 73 = .ok (.iadd, 1) := by decide +kernel
theorem dX2_fewestFalls_74 : decode cX2_fewestFalls 74 = .ok (.invokestatic 78, 3) := by decide +kernel
theorem dX2_fewestFalls_77 : decode cX2_fewestFalls 77 = .ok (.istore_n 3, 1) := by decide +kernel
theorem dX2_fewestFalls_78 : decode cX2_fewestFalls 78 = .ok (.iinc 4 1, 3) := by decide +kernel
theorem dX2_fewestFalls_81 : decode cX2_fewestFalls 81 = .ok (.goto (-63), 3) := by decide +kernel
theorem dX2_fewestFalls_84 : decode cX2_fewestFalls 84 = .ok (.iload_n 3, 1) := by decide +kernel
theorem dX2_fewestFalls_85 : decode cX2_fewestFalls 85 = .ok (.ireturn, 1) := by decide +kernel
theorem dX2_greatest_0 : decode cX2_greatest 0 = .ok (.iload_n 1, 1) := by decide +kernel
theorem dX2_greatest_1 : decode cX2_greatest 1 = .ok (.iload_n 2, 1) := by decide +kernel
theorem dX2_greatest_2 : decode cX2_greatest 2 = .ok (.invokestatic 83, 3) := by decide +kernel
theorem dX2_greatest_5 : decode cX2_greatest 5 = .ok (.istore 4, 2) := by decide +kernel
theorem dX2_greatest_7 : decode cX2_greatest 7 = .ok (.iload_n 3, 1) := by decide +kernel
theorem dX2_greatest_8 : decode cX2_greatest 8 = .ok (.bipush 6, 2) := by decide +kernel
theorem dX2_greatest_10 : decode cX2_greatest 10 = .ok (.if_icmp .lt 6, 3) := by decide +kernel
theorem dX2_greatest_13 : decode cX2_greatest 13 = .ok (.iload 4, 2) := by decide +kernel
theorem dX2_greatest_15 : decode cX2_greatest 15 = .ok (.ireturn, 1) := by decide +kernel
theorem dX2_greatest_16 : decode cX2_greatest 16 = .ok (.iconst 1, 1) := by decide +kernel
theorem dX2_greatest_17 : decode cX2_greatest 17 = .ok (.aload_n 0, 1) := by decide +kernel
theorem dX2_greatest_18 : decode cX2_greatest 18 = .ok (.getfield 12, 3) := by decide +kernel
theorem dX2_greatest_21 : decode cX2_greatest 21 = .ok (.getfield 86, 3) := by decide +kernel
theorem dX2_greatest_24 : decode cX2_greatest 24 = .ok (.ishl, 1) := by decide +kernel
theorem dX2_greatest_25 : decode cX2_greatest 25 = .ok (.iconst 1, 1) := by decide +kernel
theorem dX2_greatest_26 : decode cX2_greatest 26 = .ok (.isub, 1) := by decide +kernel
theorem dX2_greatest_27 : decode cX2_greatest 27 = .ok (.istore 5, 2) := by decide +kernel
theorem dX2_greatest_29 : decode cX2_greatest 29 = .ok (.iconst 0, 1) := by decide +kernel
theorem dX2_greatest_30 : decode cX2_greatest 30 = .ok (.istore 6, 2) := by decide +kernel
theorem dX2_greatest_32 : decode cX2_greatest 32 = .ok (.iload 6, 2) := by decide +kernel
theorem dX2_greatest_34 : decode cX2_greatest 34 = .ok (.aload_n 0, 1) := by decide +kernel
theorem dX2_greatest_35 : decode cX2_greatest 35 = .ok (.getfield 12, 3) := by decide +kernel
theorem dX2_greatest_38 : decode cX2_greatest 38 = .ok (.getfield 86, 3) := by decide +kernel
theorem dX2_greatest_41 : decode cX2_greatest 41 = .ok (.if_icmp .ge 52, 3) := by decide +kernel
theorem dX2_greatest_44 : decode cX2_greatest 44 = .ok (.iload 4, 2) := by decide +kernel
theorem dX2_greatest_46 : decode cX2_greatest 46 = .ok (.iload 5, 2) := by decide +kernel
theorem dX2_greatest_48 : decode cX2_greatest 48 = .ok (.if_icmp .eq 45, 3) := by decide +kernel
theorem dX2_greatest_51 : decode cX2_greatest 51 = .ok (.iload_n 1, 1) := by decide +kernel
theorem dX2_greatest_52 : decode cX2_greatest 52 = .ok (.iload 6, 2) := by decide +kernel
theorem dX2_greatest_54 : decode cX2_greatest 54 = .ok (.invokestatic 72, 3) := by decide +kernel
theorem dX2_greatest_57 : decode cX2_greatest 57 = .ok (.ifCond .ne 30, 3) := by decide +kernel
theorem dX2_greatest_60 : decode cX2_greatest 60 = .ok (.aload_n 0, 1) := by decide +kernel
theorem dX2_greatest_61 : decode cX2_greatest 61 = .ok (.iload 6, 2) := by decide +kernel
theorem dX2_greatest_63 : decode cX2_greatest 63 = .ok (.iload_n 3, 1) := by decide +kernel
theorem dX2_greatest_64 : decode cX2_greatest 64 = .ok (.invokevirtual 75, 3) := by decide +kernel
theorem dX2_greatest_67 : decode cX2_greatest 67 = .ok (.ifCond .eq 20, 3) := by decide +kernel
theorem dX2_greatest_70 : decode cX2_greatest 70 = .ok (.aload_n 0, 1) := by decide +kernel
theorem dX2_greatest_71 : decode cX2_greatest 71 = .ok (.iload_n 1, 1) := by decide +kernel
theorem dX2_greatest_72 : decode cX2_greatest 72 = .ok (.iconst 1, 1) := by decide +kernel
theorem dX2_greatest_73 : decode cX2_greatest 73 = .ok (.iload 6, 2) := by decide +kernel
theorem dX2_greatest_75 : decode cX2_greatest 75 = .ok (.ishl, 1) := by decide +kernel
theorem dX2_greatest_76 : decode cX2_greatest 76 = .ok (.ior, 1) := by decide +kernel
theorem dX2_greatest_77 : decode cX2_greatest 77 = .ok (.iload 4, 2) := by decide +kernel
theorem dX2_greatest_79 : decode cX2_greatest 79 = .ok (.iload_n 3, 1) := by decide +kernel
theorem dX2_greatest_80 : decode cX2_greatest 80 = .ok (.iconst 1, 1) := by decide +kernel
theorem dX2_greatest_81 : decode cX2_greatest 81 = .ok (.iadd, 1) := by decide +kernel
theorem dX2_greatest_82 : decode cX2_greatest 82 = .ok (.invokevirtual 49, 3) := by decide +kernel
theorem dX2_greatest_85 : decode cX2_greatest 85 = .ok (.istore 4, 2) := by decide +kernel
theorem dX2_greatest_87 : decode cX2_greatest 87 = .ok (.iinc 6 1, 3) := by decide +kernel
theorem dX2_greatest_90 : decode cX2_greatest 90 = .ok (.goto (-58), 3) := by decide +kernel
theorem dX2_greatest_93 : decode cX2_greatest 93 = .ok (.iload 4, 2) := by decide +kernel
theorem dX2_greatest_95 : decode cX2_greatest 95 = .ok (.ireturn, 1) := by decide +kernel
theorem dX2_greater_0 : decode cX2_greater 0 = .ok (.iload_n 0, 1) := by decide +kernel
theorem dX2_greater_1 : decode cX2_greater 1 = .ok (.invokestatic 90, 3) := by decide +kernel
theorem dX2_greater_4 : decode cX2_greater 4 = .ok (.iload_n 1, 1) := by decide +kernel
theorem dX2_greater_5 : decode cX2_greater 5 = .ok (.invokestatic 90, 3) := by decide +kernel
theorem dX2_greater_8 : decode cX2_greater 8 = .ok (.isub, 1) := by decide +kernel
theorem dX2_greater_9 : decode cX2_greater 9 = .ok (.istore_n 2, 1) := by decide +kernel
theorem dX2_greater_10 : decode cX2_greater 10 = .ok (.iload_n 2, 1) := by decide +kernel
theorem dX2_greater_11 : decode cX2_greater 11 = .ok (.ifCond .gt 12, 3) := by decide +kernel
theorem dX2_greater_14 : decode cX2_greater 14 = .ok (.iload_n 2, 1) := by decide +kernel
theorem dX2_greater_15 : decode cX2_greater 15 = .ok (.ifCond .ne 12, 3) := by decide +kernel
theorem dX2_greater_18 : decode cX2_greater 18 = .ok (.iload_n 0, 1) := by decide +kernel
theorem dX2_greater_19 : decode cX2_greater 19 = .ok (.iload_n 1, 1) := by decide +kernel
theorem dX2_greater_20 : decode cX2_greater 20 = .ok (.if_icmp .ge 7, 3) := by decide +kernel
theorem dX2_greater_23 : decode cX2_greater 23 = .ok (.iload_n 0, 1) := by decide +kernel
theorem dX2_greater_24 : decode cX2_greater 24 = .ok (.goto 4, 3) := by decide +kernel
theorem dX2_greater_27 : decode cX2_greater 27 = .ok (.iload_n 1, 1) := by decide +kernel
theorem dX2_greater_28 : decode cX2_greater 28 = .ok (.ireturn, 1) := by decide +kernel
theorem dX3_init_0 : decode cX3_init 0 = .ok (.aload_n 0, 1) := by decide +kernel
theorem dX3_init_1 : decode cX3_init 1 = .ok (.invokespecial 3, 3) := by decide +kernel
theorem dX3_init_4 : decode cX3_init 4 = .ok (.aload_n 0, 1) := by decide +kernel
theorem dX3_init_5 : decode cX3_init 5 = .ok (.bipush 120, 2) := by decide +kernel
theorem dX3_init_7 : decode cX3_init 7 = .ok (.newarray .int, 2) := by decide +kernel
theorem dX3_init_9 : decode cX3_init 9 = .ok (.putfield 9, 3) := by decide +kernel
theorem dX3_init_12 : decode cX3_init 12 = .ok (.aload_n 0, 1) := by decide +kernel
theorem dX3_init_13 : decode cX3_init 13 = .ok (.iconst 0, 1) := by decide +kernel
theorem dX3_init_14 : decode cX3_init 14 = .ok (.putfield 15, 3) := by decide +kernel
theorem dX3_init_17 : decode cX3_init 17 = .ok (.aload_n 0, 1) := by decide +kernel
theorem dX3_init_18 : decode cX3_init 18 = .ok (.bipush 121, 2) := by decide +kernel
theorem dX3_init_20 : decode cX3_init 20 = .ok (.newarray .int, 2) := by decide +kernel
theorem dX3_init_22 : decode cX3_init 22 = .ok (.putfield 19, 3) := by decide +kernel
theorem dX3_init_25 : decode cX3_init 25 = .ok (.aload_n 0, 1) := by decide +kernel
theorem dX3_init_26 : decode cX3_init 26 = .ok (.bipush 121, 2) := by decide +kernel
theorem dX3_init_28 : decode cX3_init 28 = .ok (.newarray .int, 2) := by decide +kernel
theorem dX3_init_30 : decode cX3_init 30 = .ok (.putfield 22, 3) := by decide +kernel
theorem dX3_init_33 : decode cX3_init 33 = .ok (.aload_n 0, 1) := by decide +kernel
theorem dX3_init_34 : decode cX3_init 34 = .ok (.bipush 121, 2) := by decide +kernel
theorem dX3_init_36 : decode cX3_init 36 = .ok (.newarray .int, 2) := by decide +kernel
theorem dX3_init_38 : decode cX3_init 38 = .ok (.putfield 25, 3) := by decide +kernel
theorem dX3_init_41 : decode cX3_init 41 = .ok (.aload_n 0, 1) := by decide +kernel
theorem dX3_init_42 : decode cX3_init 42 = .ok (.bipush 121, 2) := by decide +kernel
theorem dX3_init_44 : decode cX3_init 44 = .ok (.newarray .int, 2) := by decide +kernel
theorem dX3_init_46 : decode cX3_init 46 = .ok (.putfield 28, 3) := by decide +kernel
theorem dX3_init_49 : decode cX3_init 49 = .ok (.aload_n 0, 1) := by decide +kernel
theorem dX3_init_50 : decode cX3_init 50 = .ok (.iconst 0, 1) := by decide +kernel
theorem dX3_init_51 : decode cX3_init 51 = .ok (.putfield 31, 3) := by decide +kernel
theorem dX3_init_54 : decode cX3_init 54 = .ok (.aload_n 0, 1) := by decide +kernel
theorem dX3_init_55 : decode cX3_init 55 = .ok (.iconst 0, 1) := by decide +kernel
theorem dX3_init_56 : decode cX3_init 56 = .ok (.putfield 34, 3) := by decide +kernel
theorem dX3_init_59 : decode cX3_init 59 = .ok (.aload_n 0, 1) := by decide +kernel
theorem dX3_init_60 : decode cX3_init 60 = .ok (.iconst 5, 1) := by decide +kernel
theorem dX3_init_61 : decode cX3_init 61 = .ok (.putfield 37, 3) := by decide +kernel
theorem dX3_init_64 : decode cX3_init 64 = .ok (.aload_n 0, 1) := by decide +kernel
theorem dX3_init_65 : decode cX3_init 65 = .ok (.iconst 0, 1) := by decide +kernel
theorem dX3_init_66 : decode cX3_init 66 = .ok (.putfield 40, 3) := by decide +kernel
theorem dX3_init_69 : decode cX3_init 69 = .ok (.return_, 1) := by decide +kernel
theorem dX3_put_0 : decode cX3_put 0 = .ok (.aload_n 0, 1) := by decide +kernel
theorem dX3_put_1 : decode cX3_put 1 = .ok (.getfield 15, 3) := by decide +kernel
theorem dX3_put_4 : decode cX3_put 4 = .ok (.ifCond .lt 32, 3) := by decide +kernel
theorem dX3_put_7 : decode cX3_put 7 = .ok (.aload_n 0, 1) := by decide +kernel
theorem dX3_put_8 : decode cX3_put 8 = .ok (.getfield 15, 3) := by decide +kernel
theorem dX3_put_11 : decode cX3_put 11 = .ok (.bipush 120, 2) := by decide +kernel
theorem dX3_put_13 : decode cX3_put 13 = .ok (.if_icmp .ge 23, 3) := by decide +kernel
theorem dX3_put_16 : decode cX3_put 16 = .ok (.aload_n 0, 1) := by decide +kernel
theorem dX3_put_17 : decode cX3_put 17 = .ok (.getfield 9, 3) := by decide +kernel
theorem dX3_put_20 : decode cX3_put 20 = .ok (.aload_n 0, 1) := by decide +kernel
theorem dX3_put_21 : decode cX3_put 21 = .ok (.getfield 15, 3) := by decide +kernel
theorem dX3_put_24 : decode cX3_put 24 = .ok (.iload_n 1, 1) := by decide +kernel
theorem dX3_put_25 : decode cX3_put 25 = .ok (.iastore, 1) := by decide +kernel
theorem dX3_put_26 : decode cX3_put 26 = .ok (.aload_n 0, 1) := by decide +kernel
theorem dX3_put_27 : decode cX3_put 27 = .ok (.dup, 1) := by decide +kernel
theorem dX3_put_28 : decode cX3_put 28 = .ok (.getfield 15, 3) := by decide +kernel
theorem dX3_put_31 : decode cX3_put 31 = .ok (.iconst 1, 1) := by decide +kernel
theorem dX3_put_32 : decode cX3_put 32 = .ok (.iadd, 1) := by decide +kernel
theorem dX3_put_33 : decode cX3_put 33 = .ok (.putfield 15, 3) := by decide +kernel
theorem dX3_put_36 : decode cX3_put 36 = .ok (.return_, 1) := by decide +kernel
theorem dX3_read_0 : decode cX3_read 0 = .ok (.aload_n 0, 1) := by decide +kernel
theorem dX3_read_1 : decode cX3_read 1 = .ok (.invokevirtual 43, 3) := by decide +kernel
theorem dX3_read_4 : decode cX3_read 4 = .ok (.aload_n 0, 1) := by decide +kernel
theorem dX3_read_5 : decode cX3_read 5 = .ok (.invokevirtual 46, 3) := by decide +kernel
theorem dX3_read_8 : decode cX3_read 8 = .ok (.aload_n 0, 1) := by decide +kernel
theorem dX3_read_9 : decode cX3_read 9 = .ok (.iconst 0, 1) := by decide +kernel
theorem dX3_read_10 : decode cX3_read 10 = .ok (.invokevirtual 49, 3) := by decide +kernel
theorem dX3_read_13 : decode cX3_read 13 = .ok (.iconst 1, 1) := by decide +kernel
theorem dX3_read_14 : decode cX3_read 14 = .ok (.istore_n 2, 1) := by decide +kernel
theorem dX3_read_15 : decode cX3_read 15 = .ok (.iload_n 2, 1) := by decide +kernel
theorem dX3_read_16 : decode cX3_read 16 = .ok (.bipush 121, 2) := by decide +kernel
theorem dX3_read_18 : decode cX3_read 18 = .ok (.if_icmp .ge 59, 3) := by decide +kernel
theorem dX3_read_21 : decode cX3_read 21 = .ok (.aload_n 0, 1) := by decide +kernel
theorem dX3_read_22 : decode cX3_read 22 = .ok (.aload_n 1, 1) := by decide +kernel
theorem dX3_read_23 : decode cX3_read 23 = .ok (.invokevirtual 53, 3) := by decide +kernel
theorem dX3_read_26 : decode cX3_read 26 = .ok (.ifCond .ne 10, 3) := by decide +kernel
theorem dX3_read_29 : decode cX3_read 29 = .ok (.iconst (-1), 1) := by decide +kernel
theorem dX3_read_30 : decode cX3_read 30 = .ok (.aload_n 0, 1) := by decide +kernel
theorem dX3_read_31 : decode cX3_read 31 = .ok (.invokevirtual 57, 3) := by decide +kernel
theorem dX3_read_34 : decode cX3_read 34 = .ok (.isub, 1) := by decide +kernel
theorem dX3_read_35 : decode cX3_read 35 = .ok (.ireturn, 1) := by decide +kernel
theorem dX3_read_36 : decode cX3_read 36 = .ok (.aload_n 0, 1) := by decide +kernel
theorem dX3_read_37 : decode cX3_read 37 = .ok (.getfield 37, 3) := by decide +kernel
theorem dX3_read_40 : decode cX3_read 40 = .ok (.iconst 5, 1) := by decide +kernel
theorem dX3_read_41 : decode cX3_read 41 = .ok (.if_icmp .ne 5, 3) := by decide +kernel
theorem dX3_read_44 : decode cX3_read 44 = .ok (.iload_n 2, 1) := by decide +kernel
theorem dX3_read_45 : decode cX3_read 45 = .ok (.ireturn, 1) := by decide +kernel
theorem dX3_read_46 : decode cX3_read 46 = .ok (.aload_n 0, 1) := by decide +kernel
theorem dX3_read_47 : decode cX3_read 47 = .ok (.getfield 37, 3) := by decide +kernel
theorem dX3_read_50 : decode cX3_read 50 = .ok (.iconst 3, 1) := by decide +kernel
theorem dX3_read_51 : decode cX3_read 51 = .ok (.if_icmp .eq 10, 3) := by decide +kernel
theorem dX3_read_54 : decode cX3_read 54 = .ok (.iconst (-1), 1) := by decide +kernel
theorem dX3_read_55 : decode cX3_read 55 = .ok (.aload_n 0, 1) := by decide +kernel
theorem dX3_read_56 : decode cX3_read 56 = .ok (.invokevirtual 57, 3) := by decide +kernel
theorem dX3_read_59 : decode cX3_read 59 = .ok (.isub, 1) := by decide +kernel
theorem dX3_read_60 : decode cX3_read 60 = .ok (.ireturn, 1) := by decide +kernel
theorem dX3_read_61 : decode cX3_read 61 = .ok (.aload_n 0, 1) := by decide +kernel
theorem dX3_read_62 : decode cX3_read 62 = .ok (.aload_n 0, 1) := by decide +kernel
theorem dX3_read_63 : decode cX3_read 63 = .ok (.getfield 34, 3) := by decide +kernel
theorem dX3_read_66 : decode cX3_read 66 = .ok (.iconst 1, 1) := by decide +kernel
theorem dX3_read_67 : decode cX3_read 67 = .ok (.iadd, 1) := by decide +kernel
theorem dX3_read_68 : decode cX3_read 68 = .ok (.invokevirtual 49, 3) := by decide +kernel
theorem dX3_read_71 : decode cX3_read 71 = .ok (.iinc 2 1, 3) := by decide +kernel
theorem dX3_read_74 : decode cX3_read 74 = .ok (.goto (-59), 3) := by decide +kernel
theorem dX3_read_77 : decode cX3_read 77 = .ok (.iconst (-1), 1) := by decide +kernel
theorem dX3_read_78 : decode cX3_read 78 = .ok (.aload_n 0, 1) := by decide +kernel
theorem dX3_read_79 : decode cX3_read 79 = .ok (.invokevirtual 57, 3) := by decide +kernel
theorem dX3_read_82 : decode cX3_read 82 = .ok (.isub, 1) := by decide +kernel
theorem dX3_read_83 : decode cX3_read 83 = .ok (.ireturn, 1) := by decide +kernel
theorem dX3_place_0 : decode cX3_place 0 = .ok (.aload_n 0, 1) := by decide +kernel
theorem dX3_place_1 : decode cX3_place 1 = .ok (.getfield 34, 3) := by decide +kernel
theorem dX3_place_4 : decode cX3_place 4 = .ok (.ifCond .lt 26, 3) := by decide +kernel
theorem dX3_place_7 : decode cX3_place 7 = .ok (.aload_n 0, 1) := by decide +kernel
theorem dX3_place_8 : decode cX3_place 8 = .ok (.getfield 34, 3) := by decide +kernel
theorem dX3_place_11 : decode cX3_place 11 = .ok (.aload_n 0, 1) := by decide +kernel
theorem dX3_place_12 : decode cX3_place 12 = .ok (.getfield 31, 3) := by decide +kernel
theorem dX3_place_15 : decode cX3_place 15 = .ok (.if_icmp .ge 15, 3) := by decide +kernel
theorem dX3_place_18 : decode cX3_place 18 = .ok (.aload_n 0, 1) := by decide +kernel
theorem dX3_place_19 : decode cX3_place 19 = .ok (.getfield 22, 3) := by decide +kernel
theorem dX3_place_22 : decode cX3_place 22 = .ok (.aload_n 0, 1) := by decide +kernel
theorem dX3_place_23 : decode cX3_place 23 = .ok (.getfield 34, 3) := by decide +kernel
theorem dX3_place_26 : decode cX3_place 26 = .ok (.iaload, 1) := by decide +kernel
theorem dX3_place_27 : decode cX3_place 27 = .ok (.goto 7, 3) := by decide +kernel
theorem dX3_place_30 : decode cX3_place 30 = .ok (.aload_n 0, 1) := by decide +kernel
theorem dX3_place_31 : decode cX3_place 31 = .ok (.getfield 15, 3) := by decide +kernel
theorem dX3_place_34 : decode cX3_place 34 = .ok (.ireturn, 1) := by decide +kernel
theorem dX3_look_0 : decode cX3_look 0 = .ok (.aload_n 0, 1) := by decide +kernel
theorem dX3_look_1 : decode cX3_look 1 = .ok (.iload_n 1, 1) := by decide +kernel
theorem dX3_look_2 : decode cX3_look 2 = .ok (.putfield 34, 3) := by decide +kernel
theorem dX3_look_5 : decode cX3_look 5 = .ok (.iload_n 1, 1) := by decide +kernel
theorem dX3_look_6 : decode cX3_look 6 = .ok (.ifCond .lt 21, 3) := by decide +kernel
theorem dX3_look_9 : decode cX3_look 9 = .ok (.iload_n 1, 1) := by decide +kernel
theorem dX3_look_10 : decode cX3_look 10 = .ok (.aload_n 0, 1) := by decide +kernel
theorem dX3_look_11 : decode cX3_look 11 = .ok (.getfield 31, 3) := by decide +kernel
theorem dX3_look_14 : decode cX3_look 14 = .ok (.if_icmp .ge 13, 3) := by decide +kernel
theorem dX3_look_17 : decode cX3_look 17 = .ok (.iload_n 1, 1) := by decide +kernel
theorem dX3_look_18 : decode cX3_look 18 = .ok (.bipush 121, 2) := by decide +kernel
theorem dX3_look_20 : decode cX3_look 20 = .ok (.if_icmp .ge 7, 3) := by decide +kernel
theorem dX3_look_23 : decode cX3_look 23 = .ok (.iconst 1, 1) := by decide +kernel
theorem dX3_look_24 : decode cX3_look 24 = .ok (.goto 4, 3) := by decide +kernel
theorem dX3_look_27 : decode cX3_look 27 = .ok (.iconst 0, 1) := by decide +kernel
theorem dX3_look_28 : decode cX3_look 28 = .ok (.istore_n 2, 1) := by decide +kernel
theorem dX3_look_29 : decode cX3_look 29 = .ok (.aload_n 0, 1) := by decide +kernel
theorem dX3_look_30 : decode cX3_look 30 = .ok (.iload_n 2, 1) := by decide +kernel
theorem dX3_look_31 : decode cX3_look 31 = .ok (.ifCond .eq 12, 3) := by decide +kernel
theorem dX3_look_34 : decode cX3_look 34 = .ok (.aload_n 0, 1) := by decide +kernel
theorem dX3_look_35 : decode cX3_look 35 = .ok (.getfield 19, 3) := by decide +kernel
theorem dX3_look_38 : decode cX3_look 38 = .ok (.iload_n 1, 1) := by decide +kernel
theorem dX3_look_39 : decode cX3_look 39 = .ok (.iaload, 1) := by decide +kernel
theorem dX3_look_40 : decode cX3_look 40 = .ok (.goto 4, 3) := by decide +kernel
theorem dX3_look_43 : decode cX3_look 43 = .ok (.iconst 5, 1) := by decide +kernel
theorem dX3_look_44 : decode cX3_look 44 = .ok (.putfield 37, 3) := by decide +kernel
theorem dX3_look_47 : decode cX3_look 47 = .ok (.aload_n 0, 1) := by decide +kernel
theorem dX3_look_48 : decode cX3_look 48 = .ok (.iload_n 2, 1) := by decide +kernel
theorem dX3_look_49 : decode cX3_look 49 = .ok (.ifCond .eq 12, 3) := by decide +kernel
theorem dX3_look_52 : decode cX3_look 52 = .ok (.aload_n 0, 1) := by decide +kernel
theorem dX3_look_53 : decode cX3_look 53 = .ok (.getfield 28, 3) := by decide +kernel
theorem dX3_look_56 : decode cX3_look 56 = .ok (.iload_n 1, 1) := by decide +kernel
theorem dX3_look_57 : decode cX3_look 57 = .ok (.iaload, 1) := by decide +kernel
theorem dX3_look_58 : decode cX3_look 58 = .ok (.goto 4, 3) := by decide +kernel
theorem dX3_look_61 : decode cX3_look 61 = .ok (.iconst 0, 1) := by decide +kernel
theorem dX3_look_62 : decode cX3_look 62 = .ok (.putfield 40, 3) := by decide +kernel
theorem dX3_look_65 : decode cX3_look 65 = .ok (.return_, 1) := by decide +kernel
theorem dX3_readItem_0 : decode cX3_readItem 0 = .ok (.aload_n 0, 1) := by decide +kernel
theorem dX3_readItem_1 : decode cX3_readItem 1 = .ok (.getfield 37, 3) := by decide +kernel
theorem dX3_readItem_4 : decode cX3_readItem 4 = .ok (.iconst 1, 1) := by decide +kernel
theorem dX3_readItem_5 : decode cX3_readItem 5 = .ok (.if_icmp .eq 5, 3) := by decide +kernel
theorem dX3_readItem_8 : decode cX3_readItem 8 = .ok (.iconst 0, 1) := by decide +kernel
theorem dX3_readItem_9 : decode cX3_readItem 9 = .ok (.ireturn, 1) := by decide +kernel
theorem dX3_readItem_10 : decode cX3_readItem 10 = .ok (.aload_n 0, 1) := by decide +kernel
theorem dX3_readItem_11 : decode cX3_readItem 11 = .ok (.getfield 40, 3) := by decide +kernel
theorem dX3_readItem_14 : decode cX3_readItem 14 = .ok (.tableswitch 76 7 10 #[30, 36, 42, 59], 30) := by decide +kernel
theorem dX3_readItem_44 : decode cX3_readItem 44 = .ok (.aload_n 0, 1) := by decide +kernel
theorem dX3_readItem_45 : decode cX3_readItem 45 = .ok (.aload_n 1, 1) := by decide +kernel
theorem dX3_readItem_46 : decode cX3_readItem 46 = .ok (.invokevirtual 61, 3) := by decide +kernel
theorem dX3_readItem_49 : decode cX3_readItem 49 = .ok (.ireturn, 1) := by decide +kernel
theorem dX3_readItem_50 : decode cX3_readItem 50 = .ok (.aload_n 0, 1) := by decide +kernel
theorem dX3_readItem_51 : decode cX3_readItem 51 = .ok (.aload_n 1, 1) := by decide +kernel
theorem dX3_readItem_52 : decode cX3_readItem 52 = .ok (.invokevirtual 64, 3) := by decide +kernel
theorem dX3_readItem_55 : decode cX3_readItem 55 = .ok (.ireturn, 1) := by decide +kernel
theorem dX3_readItem_56 : decode cX3_readItem 56 = .ok (.aload_n 1, 1) := by decide +kernel
theorem dX3_readItem_57 : decode cX3_readItem 57 = .ok (.iconst 1, 1) := by decide +kernel
theorem dX3_readItem_58 : decode cX3_readItem 58 = .ok (.putfield 67, 3) := by decide +kernel
theorem dX3_readItem_61 : decode cX3_readItem 61 = .ok (.aload_n 0, 1) := by decide +kernel
theorem dX3_readItem_62 : decode cX3_readItem 62 = .ok (.aload_n 0, 1) := by decide +kernel
theorem dX3_readItem_63 : decode cX3_readItem 63 = .ok (.getfield 34, 3) := by decide +kernel
theorem dX3_readItem_66 : decode cX3_readItem 66 = .ok (.iconst 1, 1) := by decide +kernel
theorem dX3_readItem_67 : decode cX3_readItem 67 = .ok (.iadd, 1) := by decide +kernel
theorem dX3_readItem_68 : decode cX3_readItem 68 = .ok (.invokevirtual 49, 3) := by decide +kernel
theorem dX3_readItem_71 : decode cX3_readItem 71 = .ok (.iconst 1, 1) := by decide +kernel
theorem dX3_readItem_72 : decode cX3_readItem 72 = .ok (.ireturn, 1) := by decide +kernel
theorem dX3_readItem_73 : decode cX3_readItem 73 = .ok (.aload_n 1, 1) := by decide +kernel
theorem dX3_readItem_74 : decode cX3_readItem 74 = .ok (.iconst 0, 1) := by decide +kernel
theorem dX3_readItem_75 : decode cX3_readItem 75 = .ok (.putfield 67, 3) := by decide +kernel
theorem dX3_readItem_78 : decode cX3_readItem 78 = .ok (.aload_n 0, 1) := by decide +kernel
theorem dX3_readItem_79 : decode cX3_readItem 79 = .ok (.aload_n 0, 1) := by decide +kernel
theorem dX3_readItem_80 : decode cX3_readItem 80 = .ok (.getfield 34, 3) := by decide +kernel
theorem dX3_readItem_83 : decode cX3_readItem 83 = .ok (.iconst 1, 1) := by decide +kernel
theorem dX3_readItem_84 : decode cX3_readItem 84 = .ok (.iadd, 1) := by decide +kernel
theorem dX3_readItem_85 : decode cX3_readItem 85 = .ok (.invokevirtual 49, 3) := by decide +kernel
theorem dX3_readItem_88 : decode cX3_readItem 88 = .ok (.iconst 1, 1) := by decide +kernel
theorem dX3_readItem_89 : decode cX3_readItem 89 = .ok (.ireturn, 1) := by decide +kernel
theorem dX3_readItem_90 : decode cX3_readItem 90 = .ok (.aload_n 0, 1) := by decide +kernel
theorem dX3_readItem_91 : decode cX3_readItem 91 = .ok (.aload_n 1, 1) := by decide +kernel
theorem dX3_readItem_92 : decode cX3_readItem 92 = .ok (.invokevirtual 72, 3) := by decide +kernel
theorem dX3_readItem_95 : decode cX3_readItem 95 = .ok (.ireturn, 1) := by decide +kernel
theorem dX3_readWalker_0 : decode cX3_readWalker 0 = .ok (.aload_n 0, 1) := by decide +kernel
theorem dX3_readWalker_1 : decode cX3_readWalker 1 = .ok (.getfield 40, 3) := by decide +kernel
theorem dX3_readWalker_4 : decode cX3_readWalker 4 = .ok (.invokestatic 75, 3) := by decide +kernel
theorem dX3_readWalker_7 : decode cX3_readWalker 7 = .ok (.ifCond .eq 10, 3) := by decide +kernel
theorem dX3_readWalker_10 : decode cX3_readWalker 10 = .ok (.aload_n 1, 1) := by decide +kernel
theorem dX3_readWalker_11 : decode cX3_readWalker 11 = .ok (.invokevirtual 79, 3) := by decide +kernel
theorem dX3_readWalker_14 : decode cX3_readWalker 14 = .ok (.ifCond .eq 5, 3) := by decide +kernel
theorem dX3_readWalker_17 : decode cX3_readWalker 17 = .ok (.iconst 0, 1) := by decide +kernel
theorem dX3_readWalker_18 : decode cX3_readWalker 18 = .ok (.ireturn, 1) := by decide +kernel
theorem dX3_readWalker_19 : decode cX3_readWalker 19 = .ok (.aload_n 0, 1) := by decide +kernel
theorem dX3_readWalker_20 : decode cX3_readWalker 20 = .ok (.getfield 40, 3) := by decide +kernel
theorem dX3_readWalker_23 : decode cX3_readWalker 23 = .ok (.istore_n 2, 1) := by decide +kernel
theorem dX3_readWalker_24 : decode cX3_readWalker 24 = .ok (.bipush 50, 2) := by decide +kernel
theorem dX3_readWalker_26 : decode cX3_readWalker 26 = .ok (.istore_n 3, 1) := by decide +kernel
theorem dX3_readWalker_27 : decode cX3_readWalker 27 = .ok (.bipush 30, 2) := by decide +kernel
theorem dX3_readWalker_29 : decode cX3_readWalker 29 = .ok (.istore 4, 2) := by decide +kernel
theorem dX3_readWalker_31 : decode cX3_readWalker 31 = .ok (.aload_n 0, 1) := by decide +kernel
theorem dX3_readWalker_32 : decode cX3_readWalker 32 = .ok (.aload_n 0, 1) := by decide +kernel
theorem dX3_readWalker_33 : decode cX3_readWalker 33 = .ok (.getfield 34, 3) := by decide +kernel
theorem dX3_readWalker_36 : decode cX3_readWalker 36 = .ok (.iconst 1, 1) := by decide +kernel
theorem dX3_readWalker_37 : decode cX3_readWalker 37 = .ok (.iadd, 1) := by decide +kernel
theorem dX3_readWalker_38 : decode cX3_readWalker 38 = .ok (.invokevirtual 49, 3) := by decide +kernel
theorem dX3_readWalker_41 : decode cX3_readWalker 41 = .ok (.aload_n 0, 1) := by decide +kernel
theorem dX3_readWalker_42 : decode cX3_readWalker 42 = .ok (.bipush 11, 2) := by decide +kernel
theorem dX3_readWalker_44 : decode cX3_readWalker 44 = .ok (.invokevirtual 83, 3) := by decide +kernel
theorem dX3_readWalker_47 : decode cX3_readWalker 47 = .ok (.ifCond .eq 39, 3) := by decide +kernel
theorem dX3_readWalker_50 : decode cX3_readWalker 50 = .ok (.aload_n 0, 1) := by decide +kernel
theorem dX3_readWalker_51 : decode cX3_readWalker 51 = .ok (.aload_n 0, 1) := by decide +kernel
theorem dX3_readWalker_52 : decode cX3_readWalker 52 = .ok (.getfield 34, 3) := by decide +kernel
theorem dX3_readWalker_55 : decode cX3_readWalker 55 = .ok (.iconst 1, 1) := by decide +kernel
theorem dX3_readWalker_56 : decode cX3_readWalker 56 = .ok (.iadd, 1) := by decide +kernel
theorem dX3_readWalker_57 : decode cX3_readWalker 57 = .ok (.invokevirtual 49, 3) := by decide +kernel
theorem dX3_readWalker_60 : decode cX3_readWalker 60 = .ok (.aload_n 0, 1) := by decide +kernel
theorem dX3_readWalker_61 : decode cX3_readWalker 61 = .ok (.bipush 99, 2) := by decide +kernel
theorem dX3_readWalker_63 : decode cX3_readWalker 63 = .ok (.invokevirtual 86, 3) := by decide +kernel
theorem dX3_readWalker_66 : decode cX3_readWalker 66 = .ok (.ifCond .ne 5, 3) := by decide +kernel
theorem dX3_readWalker_69 : decode cX3_readWalker 69 = .ok (.iconst 0, 1) := by decide +kernel
theorem dX3_readWalker_70 : decode cX3_readWalker 70 = .ok (.ireturn, 1) := by decide +kernel
theorem dX3_readWalker_71 : decode cX3_readWalker 71 = .ok (.aload_n 0, 1) := by decide +kernel
theorem dX3_readWalker_72 : decode cX3_readWalker 72 = .ok (.getfield 40, 3) := by decide +kernel
theorem dX3_readWalker_75 : decode cX3_readWalker 75 = .ok (.istore_n 3, 1) := by decide +kernel
theorem dX3_readWalker_76 : decode cX3_readWalker 76 = .ok (.aload_n 0, 1) := by decide +kernel
theorem dX3_readWalker_77 : decode cX3_readWalker 77 = .ok (.aload_n 0, 1) := by decide +kernel
theorem dX3_readWalker_78 : decode cX3_readWalker 78 = .ok (.getfield 34, 3) := by decide +kernel
theorem dX3_readWalker_81 : decode cX3_readWalker 81 = .ok (.iconst 1, 1) := by decide +kernel
theorem dX3_readWalker_82 : decode cX3_readWalker 82 = .ok (.iadd, 1) := by decide +kernel
theorem dX3_readWalker_83 : decode cX3_readWalker 83 = .ok (.invokevirtual 49, 3) := by decide +kernel
theorem dX3_readWalker_86 : decode cX3_readWalker 86 = .ok (.aload_n 0, 1) := by decide +kernel
theorem dX3_readWalker_87 : decode cX3_readWalker 87 = .ok (.bipush 12, 2) := by decide +kernel
theorem dX3_readWalker_89 : decode cX3_readWalker 89 = .ok (.invokevirtual 83, 3) := by decide +kernel
theorem dX3_readWalker_92 : decode cX3_readWalker 92 = .ok (.ifCond .eq 40, 3) := by decide +kernel
theorem dX3_readWalker_95 : decode cX3_readWalker 95 = .ok (.aload_n 0, 1) := by decide +kernel
theorem dX3_readWalker_96 : decode cX3_readWalker 96 = .ok (.aload_n 0, 1) := by decide +kernel
theorem dX3_readWalker_97 : decode cX3_readWalker 97 = .ok (.getfield 34, 3) := by decide +kernel
theorem dX3_readWalker_100 : decode cX3_readWalker 100 = .ok (.iconst 1, 1) := by decide +kernel
theorem dX3_readWalker_101 : decode cX3_readWalker 101 = .ok (.iadd, 1) := by decide +kernel
theorem dX3_readWalker_102 : decode cX3_readWalker 102 = .ok (.invokevirtual 49, 3) := by decide +kernel
theorem dX3_readWalker_105 : decode cX3_readWalker 105 = .ok (.aload_n 0, 1) := by decide +kernel
theorem dX3_readWalker_106 : decode cX3_readWalker 106 = .ok (.bipush 99, 2) := by decide +kernel
theorem dX3_readWalker_108 : decode cX3_readWalker 108 = .ok (.invokevirtual 86, 3) := by decide +kernel
theorem dX3_readWalker_111 : decode cX3_readWalker 111 = .ok (.ifCond .ne 5, 3) := by decide +kernel
theorem dX3_readWalker_114 : decode cX3_readWalker 114 = .ok (.iconst 0, 1) := by decide +kernel
theorem dX3_readWalker_115 : decode cX3_readWalker 115 = .ok (.ireturn, 1) := by decide +kernel
theorem dX3_readWalker_116 : decode cX3_readWalker 116 = .ok (.aload_n 0, 1) := by decide +kernel
theorem dX3_readWalker_117 : decode cX3_readWalker 117 = .ok (.getfield 40, 3) := by decide +kernel
theorem dX3_readWalker_120 : decode cX3_readWalker 120 = .ok (.istore 4, 2) := by decide +kernel
theorem dX3_readWalker_122 : decode cX3_readWalker 122 = .ok (.aload_n 0, 1) := by decide +kernel
theorem dX3_readWalker_123 : decode cX3_readWalker 123 = .ok (.aload_n 0, 1) := by decide +kernel
theorem dX3_readWalker_124 : decode cX3_readWalker 124 = .ok (.getfield 34, 3) := by decide +kernel
theorem dX3_readWalker_127 : decode cX3_readWalker 127 = .ok (.iconst 1, 1) := by decide +kernel
theorem dX3_readWalker_128 : decode cX3_readWalker 128 = .ok (.iadd, 1) := by decide +kernel
theorem dX3_readWalker_129 : decode cX3_readWalker 129 = .ok (.invokevirtual 49, 3) := by decide +kernel
theorem dX3_readWalker_132 : decode cX3_readWalker 132 = .ok (.aload_n 1, 1) := by decide +kernel
theorem dX3_readWalker_133 : decode cX3_readWalker 133 = .ok (.iload_n 2, 1) := by decide +kernel
theorem dX3_readWalker_134 : decode cX3_readWalker 134 = .ok (.iload_n 3, 1) := by decide +kernel
theorem dX3_readWalker_135 : decode cX3_readWalker 135 = .ok (.iload 4, 2) := by decide +kernel
theorem dX3_readWalker_137 : decode cX3_readWalker 137 = .ok (.invokevirtual 89, 3) := by decide +kernel
theorem dX3_readWalker_140 : decode cX3_readWalker 140 = .ok (.pop, 1) := by decide +kernel
theorem dX3_readWalker_141 : decode cX3_readWalker 141 = .ok (.iconst 1, 1) := by decide +kernel
theorem dX3_readWalker_142 : decode cX3_readWalker 142 = .ok (.ireturn, 1) := by decide +kernel
theorem dX3_readPlank_0 : decode cX3_readPlank 0 = .ok (.aload_n 0, 1) := by decide +kernel
theorem dX3_readPlank_1 : decode cX3_readPlank 1 = .ok (.aload_n 0, 1) := by decide +kernel
theorem dX3_readPlank_2 : decode cX3_readPlank 2 = .ok (.getfield 34, 3) := by decide +kernel
theorem dX3_readPlank_5 : decode cX3_readPlank 5 = .ok (.iconst 1, 1) := by decide +kernel
theorem dX3_readPlank_6 : decode cX3_readPlank 6 = .ok (.iadd, 1) := by decide +kernel
theorem dX3_readPlank_7 : decode cX3_readPlank 7 = .ok (.invokevirtual 49, 3) := by decide +kernel
theorem dX3_readPlank_10 : decode cX3_readPlank 10 = .ok (.aload_n 0, 1) := by decide +kernel
theorem dX3_readPlank_11 : decode cX3_readPlank 11 = .ok (.bipush 11, 2) := by decide +kernel
theorem dX3_readPlank_13 : decode cX3_readPlank 13 = .ok (.invokevirtual 86, 3) := by decide +kernel
theorem dX3_readPlank_16 : decode cX3_readPlank 16 = .ok (.ifCond .ne 5, 3) := by decide +kernel
theorem dX3_readPlank_19 : decode cX3_readPlank 19 = .ok (.iconst 0, 1) := by decide +kernel
theorem dX3_readPlank_20 : decode cX3_readPlank 20 = .ok (.ireturn, 1) := by decide +kernel
theorem dX3_readPlank_21 : decode cX3_readPlank 21 = .ok (.aload_n 0, 1) := by decide +kernel
theorem dX3_readPlank_22 : decode cX3_readPlank 22 = .ok (.getfield 40, 3) := by decide +kernel
theorem dX3_readPlank_25 : decode cX3_readPlank 25 = .ok (.istore_n 2, 1) := by decide +kernel
theorem dX3_readPlank_26 : decode cX3_readPlank 26 = .ok (.aload_n 0, 1) := by decide +kernel
theorem dX3_readPlank_27 : decode cX3_readPlank 27 = .ok (.aload_n 0, 1) := by decide +kernel
theorem dX3_readPlank_28 : decode cX3_readPlank 28 = .ok (.getfield 34, 3) := by decide +kernel
theorem dX3_readPlank_31 : decode cX3_readPlank 31 = .ok (.iconst 1, 1) := by decide +kernel
theorem dX3_readPlank_32 : decode cX3_readPlank 32 = .ok (.iadd, 1) := by decide +kernel
theorem dX3_readPlank_33 : decode cX3_readPlank 33 = .ok (.invokevirtual 49, 3) := by decide +kernel
theorem dX3_readPlank_36 : decode cX3_readPlank 36 = .ok (.aload_n 0, 1) := by decide +kernel
theorem dX3_readPlank_37 : decode cX3_readPlank 37 = .ok (.bipush 99, 2) := by decide +kernel
theorem dX3_readPlank_39 : decode cX3_readPlank 39 = .ok (.invokevirtual 86, 3) := by decide +kernel
theorem dX3_readPlank_42 : decode cX3_readPlank 42 = .ok (.ifCond .ne 5, 3) := by decide +kernel
theorem dX3_readPlank_45 : decode cX3_readPlank 45 = .ok (.iconst 0, 1) := by decide +kernel
theorem dX3_readPlank_46 : decode cX3_readPlank 46 = .ok (.ireturn, 1) := by decide +kernel
theorem dX3_readPlank_47 : decode cX3_readPlank 47 = .ok (.aload_n 1, 1) := by decide +kernel
theorem dX3_readPlank_48 : decode cX3_readPlank 48 = .ok (.getfield 93, 3) := by decide +kernel
theorem dX3_readPlank_51 : decode cX3_readPlank 51 = .ok (.iload_n 2, 1) := by decide +kernel
theorem dX3_readPlank_52 : decode cX3_readPlank 52 = .ok (.aload_n 0, 1) := by decide +kernel
theorem dX3_readPlank_53 : decode cX3_readPlank 53 = .ok (.getfield 40, 3) := by decide +kernel
theorem dX3_readPlank_56 : decode cX3_readPlank 56 = .ok (.iastore, 1) := by decide +kernel
theorem dX3_readPlank_57 : decode cX3_readPlank 57 = .ok (.aload_n 0, 1) := by decide +kernel
theorem dX3_readPlank_58 : decode cX3_readPlank 58 = .ok (.aload_n 0, 1) := by decide +kernel
theorem dX3_readPlank_59 : decode cX3_readPlank 59 = .ok (.getfield 34, 3) := by decide +kernel
theorem dX3_readPlank_62 : decode cX3_readPlank 62 = .ok (.iconst 1, 1) := by decide +kernel
theorem dX3_readPlank_63 : decode cX3_readPlank 63 = .ok (.iadd, 1) := by decide +kernel
theorem dX3_readPlank_64 : decode cX3_readPlank 64 = .ok (.invokevirtual 49, 3) := by decide +kernel
theorem dX3_readPlank_67 : decode cX3_readPlank 67 = .ok (.iconst 1, 1) := by decide +kernel
theorem dX3_readPlank_68 : decode cX3_readPlank 68 = .ok (.ireturn, 1) := by decide +kernel
theorem dX3_readNew_0 : decode cX3_readNew 0 = .ok (.aload_n 0, 1) := by decide +kernel
theorem dX3_readNew_1 : decode cX3_readNew 1 = .ok (.aload_n 0, 1) := by decide +kernel
theorem dX3_readNew_2 : decode cX3_readNew 2 = .ok (.getfield 34, 3) := by decide +kernel
theorem dX3_readNew_5 : decode cX3_readNew 5 = .ok (.iconst 1, 1) := by decide +kernel
theorem dX3_readNew_6 : decode cX3_readNew 6 = .ok (.iadd, 1) := by decide +kernel
theorem dX3_readNew_7 : decode cX3_readNew 7 = .ok (.invokevirtual 49, 3) := by decide +kernel
theorem dX3_readNew_10 : decode cX3_readNew 10 = .ok (.aload_n 0, 1) := by decide +kernel
theorem dX3_readNew_11 : decode cX3_readNew 11 = .ok (.bipush 11, 2) := by decide +kernel
theorem dX3_readNew_13 : decode cX3_readNew 13 = .ok (.invokevirtual 86, 3) := by decide +kernel
theorem dX3_readNew_16 : decode cX3_readNew 16 = .ok (.ifCond .ne 5, 3) := by decide +kernel
theorem dX3_readNew_19 : decode cX3_readNew 19 = .ok (.iconst 0, 1) := by decide +kernel
theorem dX3_readNew_20 : decode cX3_readNew 20 = .ok (.ireturn, 1) := by decide +kernel
theorem dX3_readNew_21 : decode cX3_readNew 21 = .ok (.aload_n 1, 1) := by decide +kernel
theorem dX3_readNew_22 : decode cX3_readNew 22 = .ok (.getfield 93, 3) := by decide +kernel
theorem dX3_readNew_25 : decode cX3_readNew 25 = .ok (.aload_n 0, 1) := by decide +kernel
theorem dX3_readNew_26 : decode cX3_readNew 26 = .ok (.getfield 40, 3) := by decide +kernel
theorem dX3_readNew_29 : decode cX3_readNew 29 = .ok (.bipush 50, 2) := by decide +kernel
theorem dX3_readNew_31 : decode cX3_readNew 31 = .ok (.iastore, 1) := by decide +kernel
theorem dX3_readNew_32 : decode cX3_readNew 32 = .ok (.aload_n 0, 1) := by decide +kernel
theorem dX3_readNew_33 : decode cX3_readNew 33 = .ok (.aload_n 0, 1) := by decide +kernel
theorem dX3_readNew_34 : decode cX3_readNew 34 = .ok (.getfield 34, 3) := by decide +kernel
theorem dX3_readNew_37 : decode cX3_readNew 37 = .ok (.iconst 1, 1) := by decide +kernel
theorem dX3_readNew_38 : decode cX3_readNew 38 = .ok (.iadd, 1) := by decide +kernel
theorem dX3_readNew_39 : decode cX3_readNew 39 = .ok (.invokevirtual 49, 3) := by decide +kernel
theorem dX3_readNew_42 : decode cX3_readNew 42 = .ok (.iconst 1, 1) := by decide +kernel
theorem dX3_readNew_43 : decode cX3_readNew 43 = .ok (.ireturn, 1) := by decide +kernel
theorem dX3_isWord_0 : decode cX3_isWord 0 = .ok (.aload_n 0, 1) := by decide +kernel
theorem dX3_isWord_1 : decode cX3_isWord 1 = .ok (.getfield 37, 3) := by decide +kernel
theorem dX3_isWord_4 : decode cX3_isWord 4 = .ok (.iconst 1, 1) := by decide +kernel
theorem dX3_isWord_5 : decode cX3_isWord 5 = .ok (.if_icmp .ne 15, 3) := by decide +kernel
theorem dX3_isWord_8 : decode cX3_isWord 8 = .ok (.aload_n 0, 1) := by decide +kernel
theorem dX3_isWord_9 : decode cX3_isWord 9 = .ok (.getfield 40, 3) := by decide +kernel
theorem dX3_isWord_12 : decode cX3_isWord 12 = .ok (.iload_n 1, 1) := by decide +kernel
theorem dX3_isWord_13 : decode cX3_isWord 13 = .ok (.if_icmp .ne 7, 3) := by decide +kernel
theorem dX3_isWord_16 : decode cX3_isWord 16 = .ok (.iconst 1, 1) := by decide +kernel
theorem dX3_isWord_17 : decode cX3_isWord 17 = .ok (.goto 4, 3) := by decide +kernel
theorem dX3_isWord_20 : decode cX3_isWord 20 = .ok (.iconst 0, 1) := by decide +kernel
theorem dX3_isWord_21 : decode cX3_isWord 21 = .ok (.ireturn, 1) := by decide +kernel
theorem dX3_isNumber_0 : decode cX3_isNumber 0 = .ok (.aload_n 0, 1) := by decide +kernel
theorem dX3_isNumber_1 : decode cX3_isNumber 1 = .ok (.getfield 37, 3) := by decide +kernel
theorem dX3_isNumber_4 : decode cX3_isNumber 4 = .ok (.iconst 2, 1) := by decide +kernel
theorem dX3_isNumber_5 : decode cX3_isNumber 5 = .ok (.if_icmp .ne 22, 3) := by decide +kernel
theorem dX3_isNumber_8 : decode cX3_isNumber 8 = .ok (.aload_n 0, 1) := by decide +kernel
theorem dX3_isNumber_9 : decode cX3_isNumber 9 = .ok (.getfield 40, 3) := by decide +kernel
theorem dX3_isNumber_12 : decode cX3_isNumber 12 = .ok (.ifCond .lt 15, 3) := by decide +kernel
theorem dX3_isNumber_15 : decode cX3_isNumber 15 = .ok (.aload_n 0, 1) := by decide +kernel
theorem dX3_isNumber_16 : decode cX3_isNumber 16 = .ok (.getfield 40, 3) := by decide +kernel
theorem dX3_isNumber_19 : decode cX3_isNumber 19 = .ok (.iload_n 1, 1) := by decide +kernel
theorem dX3_isNumber_20 : decode cX3_isNumber 20 = .ok (.if_icmp .gt 7, 3) := by decide +kernel
theorem dX3_isNumber_23 : decode cX3_isNumber 23 = .ok (.iconst 1, 1) := by decide +kernel
theorem dX3_isNumber_24 : decode cX3_isNumber 24 = .ok (.goto 4, 3) := by decide +kernel
theorem dX3_isNumber_27 : decode cX3_isNumber 27 = .ok (.iconst 0, 1) := by decide +kernel
theorem dX3_isNumber_28 : decode cX3_isNumber 28 = .ok (.ireturn, 1) := by decide +kernel
theorem dX3_split_0 : decode cX3_split 0 = .ok (.aload_n 0, 1) := by decide +kernel
theorem dX3_split_1 : decode cX3_split 1 = .ok (.iconst 0, 1) := by decide +kernel
theorem dX3_split_2 : decode cX3_split 2 = .ok (.putfield 31, 3) := by decide +kernel
theorem dX3_split_5 : decode cX3_split 5 = .ok (.iconst 0, 1) := by decide +kernel
theorem dX3_split_6 : decode cX3_split 6 = .ok (.istore_n 1, 1) := by decide +kernel
theorem dX3_split_7 : decode cX3_split 7 = .ok (.iconst 0, 1) := by decide +kernel
theorem dX3_split_8 : decode cX3_split 8 = .ok (.istore_n 2, 1) := by decide +kernel
theorem dX3_split_9 : decode cX3_split 9 = .ok (.iload_n 2, 1) := by decide +kernel
theorem dX3_split_10 : decode cX3_split 10 = .ok (.aload_n 0, 1) := by decide +kernel
theorem dX3_split_11 : decode cX3_split 11 = .ok (.getfield 15, 3) := by decide +kernel
theorem dX3_split_14 : decode cX3_split 14 = .ok (.if_icmp .ge 78, 3) := by decide +kernel
theorem dX3_split_17 : decode cX3_split 17 = .ok (.iload_n 2, 1) := by decide +kernel
theorem dX3_split_18 : decode cX3_split 18 = .ok (.bipush 120, 2) := by decide +kernel
theorem dX3_split_20 : decode cX3_split 20 = .ok (.if_icmp .ge 72, 3) := by decide +kernel
theorem dX3_split_23 : decode cX3_split 23 = .ok (.aload_n 0, 1) := by decide +kernel
theorem dX3_split_24 : decode cX3_split 24 = .ok (.getfield 9, 3) := by decide +kernel
theorem dX3_split_27 : decode cX3_split 27 = .ok (.iload_n 2, 1) := by decide +kernel
theorem dX3_split_28 : decode cX3_split 28 = .ok (.iaload, 1) := by decide +kernel
theorem dX3_split_29 : decode cX3_split 29 = .ok (.invokestatic 96, 3) := by decide +kernel
theorem dX3_split_32 : decode cX3_split 32 = .ok (.istore_n 3, 1) := by decide +kernel
theorem dX3_split_33 : decode cX3_split 33 = .ok (.iload_n 3, 1) := by decide +kernel
theorem dX3_split_34 : decode cX3_split 34 = .ok (.iload_n 1, 1) := by decide +kernel
theorem dX3_split_35 : decode cX3_split 35 = .ok (.if_icmp .ne 17, 3) := by decide +kernel
theorem dX3_split_38 : decode cX3_split 38 = .ok (.iload_n 3, 1) := by decide +kernel
theorem dX3_split_39 : decode cX3_split 39 = .ok (.iconst 1, 1) := by decide +kernel
theorem dX3_split_40 : decode cX3_split 40 = .ok (.if_icmp .eq 8, 3) := by decide +kernel
theorem dX3_split_43 : decode cX3_split 43 = .ok (.iload_n 3, 1) := by decide +kernel
theorem dX3_split_44 : decode cX3_split 44 = .ok (.iconst 2, 1) := by decide +kernel
theorem dX3_split_45 : decode cX3_split 45 = .ok (.if_icmp .ne 7, 3) := by decide +kernel
theorem dX3_split_48 : decode cX3_split 48 = .ok (.iconst 1, 1) := by decide +kernel
theorem dX3_split_49 : decode cX3_split 49 = .ok (.goto 4, 3) := by decide +kernel
theorem dX3_split_52 : decode cX3_split 52 = .ok (.iconst 0, 1) := by decide +kernel
theorem dX3_split_53 : decode cX3_split 53 = .ok (.istore 4, 2) := by decide +kernel
theorem dX3_split_55 : decode cX3_split 55 = .ok (.iload_n 3, 1) := by decide +kernel
theorem dX3_split_56 : decode cX3_split 56 = .ok (.ifCond .eq 14, 3) := by decide +kernel
theorem dX3_split_59 : decode cX3_split 59 = .ok (.iload 4, 2) := by decide +kernel
theorem dX3_split_61 : decode cX3_split 61 = .ok (.ifCond .ne 9, 3) := by decide +kernel
theorem dX3_split_64 : decode cX3_split 64 = .ok (.aload_n 0, 1) := by decide +kernel
theorem dX3_split_65 : decode cX3_split 65 = .ok (.iload_n 3, 1) := by decide +kernel
theorem dX3_split_66 : decode cX3_split 66 = .ok (.iload_n 2, 1) := by decide +kernel
theorem dX3_split_67 : decode cX3_split 67 = .ok (.invokevirtual 100, 3) := by decide +kernel
theorem dX3_split_70 : decode cX3_split 70 = .ok (.iload_n 3, 1) := by decide +kernel
theorem dX3_split_71 : decode cX3_split 71 = .ok (.ifCond .eq 13, 3) := by decide +kernel
theorem dX3_split_74 : decode cX3_split 74 = .ok (.aload_n 0, 1) := by decide +kernel
theorem dX3_split_75 : decode cX3_split 75 = .ok (.aload_n 0, 1) := by decide +kernel
theorem dX3_split_76 : decode cX3_split 76 = .ok (.getfield 9, 3) := by decide +kernel
theorem dX3_split_79 : decode cX3_split 79 = .ok (.iload_n 2, 1) := by decide +kernel
theorem dX3_split_80 : decode cX3_split 80 = .ok (.iaload, 1) := by decide +kernel
theorem dX3_split_81 : decode cX3_split 81 = .ok (.invokevirtual 104, 3) := by decide +kernel
theorem dX3_split_84 : decode cX3_split 84 = .ok (.iload_n 3, 1) := by decide +kernel
theorem dX3_split_85 : decode cX3_split 85 = .ok (.istore_n 1, 1) := by decide +kernel
theorem dX3_split_86 : decode cX3_split 86 = .ok (.iinc 2 1, 3) := by decide +kernel
theorem dX3_split_89 : decode cX3_split 89 = .ok (.goto (-80), 3) := by decide +kernel
theorem dX3_split_92 : decode cX3_split 92 = .ok (.aload_n 0, 1) := by decide +kernel
theorem dX3_split_93 : decode cX3_split 93 = .ok (.iconst 5, 1) := by decide +kernel
theorem dX3_split_94 : decode cX3_split 94 = .ok (.aload_n 0, 1) := by decide +kernel
theorem dX3_split_95 : decode cX3_split 95 = .ok (.getfield 15, 3) := by decide +kernel
theorem dX3_split_98 : decode cX3_split 98 = .ok (.invokevirtual 100, 3) := by decide +kernel
theorem dX3_split_101 : decode cX3_split 101 = .ok (.return_, 1) := by decide +kernel
theorem dX3_sortOf_0 : decode cX3_sortOf 0 = .ok (.iload_n 0, 1) := by decide +kernel
theorem dX3_sortOf_1 : decode cX3_sortOf 1 = .ok (.bipush 97, 2) := by decide +kernel
theorem dX3_sortOf_3 : decode cX3_sortOf 3 = .ok (.if_icmp .lt 11, 3) := by decide +kernel
theorem dX3_sortOf_6 : decode cX3_sortOf 6 = .ok (.iload_n 0, 1) := by decide +kernel
theorem dX3_sortOf_7 : decode cX3_sortOf 7 = .ok (.bipush 122, 2) := by decide +kernel
theorem dX3_sortOf_9 : decode cX3_sortOf 9 = .ok (.if_icmp .gt 5, 3) := by decide +kernel
theorem dX3_sortOf_12 : decode cX3_sortOf 12 = .ok (.iconst 1, 1) := by decide +kernel
theorem dX3_sortOf_13 : decode cX3_sortOf 13 = .ok (.ireturn, 1) := by decide +kernel
theorem dX3_sortOf_14 : decode cX3_sortOf 14 = .ok (.iload_n 0, 1) := by decide +kernel
theorem dX3_sortOf_15 : decode cX3_sortOf 15 = .ok (.bipush 48, 2) := by decide +kernel
theorem dX3_sortOf_17 : decode cX3_sortOf 17 = .ok (.if_icmp .lt 11, 3) := by decide +kernel
theorem dX3_sortOf_20 : decode cX3_sortOf 20 = .ok (.iload_n 0, 1) := by decide +kernel
theorem dX3_sortOf_21 : decode cX3_sortOf 21 = .ok (.bipush 57, 2) := by decide +kernel
theorem dX3_sortOf_23 : decode cX3_sortOf 23 = .ok (.if_icmp .gt 5, 3) := by decide +kernel
theorem dX3_sortOf_26 : decode cX3_sortOf 26 = .ok (.iconst 2, 1) := by decide +kernel
theorem dX3_sortOf_27 : decode cX3_sortOf 27 = .ok (.ireturn, 1) := by decide +kernel
theorem dX3_sortOf_28 : decode cX3_sortOf 28 = .ok (.iload_n 0, 1) := by decide +kernel
theorem dX3_sortOf_29 : decode cX3_sortOf 29 = .ok (.bipush 59, 2) := by decide +kernel
theorem dX3_sortOf_31 : decode cX3_sortOf 31 = .ok (.if_icmp .ne 5, 3) := by decide +kernel
theorem dX3_sortOf_34 : decode cX3_sortOf 34 = .ok (.iconst 3, 1) := by decide +kernel
theorem dX3_sortOf_35 : decode cX3_sortOf 35 = .ok (.ireturn, 1) := by decide +kernel
theorem dX3_sortOf_36 : decode cX3_sortOf 36 = .ok (.iload_n 0, 1) := by decide +kernel
theorem dX3_sortOf_37 : decode cX3_sortOf 37 = .ok (.bipush 32, 2) := by decide +kernel
theorem dX3_sortOf_39 : decode cX3_sortOf 39 = .ok (.if_icmp .ne 7, 3) := by decide +kernel
theorem dX3_sortOf_42 : decode cX3_sortOf 42 = .ok (.iconst 0, 1) := by decide +kernel
theorem dX3_sortOf_43 : decode cX3_sortOf 43 = .ok (.goto 4, 3) := by decide +kernel
theorem dX3_sortOf_46 : decode cX3_sortOf 46 = .ok (.iconst 4, 1) := by decide +kernel
theorem dX3_sortOf_47 : decode cX3_sortOf 47 = .ok (.ireturn, 1) := by decide +kernel
theorem dX3_begin_0 : decode cX3_begin 0 = .ok (.aload_n 0, 1) := by decide +kernel
theorem dX3_begin_1 : decode cX3_begin 1 = .ok (.getfield 31, 3) := by decide +kernel
theorem dX3_begin_4 : decode cX3_begin 4 = .ok (.ifCond .lt 62, 3) := by decide +kernel
theorem dX3_begin_7 : decode cX3_begin 7 = .ok (.aload_n 0, 1) := by decide +kernel
theorem dX3_begin_8 : decode cX3_begin 8 = .ok (.getfield 31, 3) := by decide +kernel
theorem dX3_begin_11 : decode cX3_begin 11 = .ok (.bipush 121, 2) := by decide +kernel
theorem dX3_begin_13 : decode cX3_begin 13 = .ok (.if_icmp .ge 53, 3) := by decide +kernel
theorem dX3_begin_16 : decode cX3_begin 16 = .ok (.aload_n 0, 1) := by decide +kernel
theorem dX3_begin_17 : decode cX3_begin 17 = .ok (.getfield 19, 3) := by decide +kernel
theorem dX3_begin_20 : decode cX3_begin 20 = .ok (.aload_n 0, 1) := by decide +kernel
theorem dX3_begin_21 : decode cX3_begin 21 = .ok (.getfield 31, 3) := by decide +kernel
theorem dX3_begin_24 : decode cX3_begin 24 = .ok (.iload_n 1, 1) := by decide +kernel
theorem dX3_begin_25 : decode cX3_begin 25 = .ok (.iastore, 1) := by decide +kernel
theorem dX3_begin_26 : decode cX3_begin 26 = .ok (.aload_n 0, 1) := by decide +kernel
theorem dX3_begin_27 : decode cX3_begin 27 = .ok (.getfield 22, 3) := by decide +kernel
theorem dX3_begin_30 : decode cX3_begin 30 = .ok (.aload_n 0, 1) := by decide +kernel
theorem dX3_begin_31 : decode cX3_begin 31 = .ok (.getfield 31, 3) := by decide +kernel
theorem dX3_begin_34 : decode cX3_begin 34 = .ok (.iload_n 2, 1) := by decide +kernel
theorem dX3_begin_35 : decode cX3_begin 35 = .ok (.iastore, 1) := by decide +kernel
theorem dX3_begin_36 : decode cX3_begin 36 = .ok (.aload_n 0, 1) := by decide +kernel
theorem dX3_begin_37 : decode cX3_begin 37 = .ok (.getfield 25, 3) := by decide +kernel
theorem dX3_begin_40 : decode cX3_begin 40 = .ok (.aload_n 0, 1) := by decide +kernel
theorem dX3_begin_41 : decode cX3_begin 41 = .ok (.getfield 31, 3) := by decide +kernel
theorem dX3_begin_44 : decode cX3_begin 44 = .ok (.iload_n 2, 1) := by decide +kernel
theorem dX3_begin_45 : decode cX3_begin 45 = .ok (.iastore, 1) := by decide +kernel
theorem dX3_begin_46 : decode cX3_begin 46 = .ok (.aload_n 0, 1) := by decide +kernel
theorem dX3_begin_47 : decode cX3_begin 47 = .ok (.getfield 28, 3) := by decide +kernel
theorem dX3_begin_50 : decode cX3_begin 50 = .ok (.aload_n 0, 1) := by decide +kernel
theorem dX3_begin_51 : decode cX3_begin 51 = .ok (.getfield 31, 3) := by decide +kernel
theorem dX3_begin_54 : decode cX3_begin 54 = .ok (.iconst 0, 1) := by decide +kernel
theorem dX3_begin_55 : decode cX3_begin 55 = .ok (.iastore, 1) := by decide +kernel
theorem dX3_begin_56 : decode cX3_begin 56 = .ok (.aload_n 0, 1) := by decide +kernel
theorem dX3_begin_57 : decode cX3_begin 57 = .ok (.dup, 1) := by decide +kernel
theorem dX3_begin_58 : decode cX3_begin 58 = .ok (.getfield 31, 3) := by decide +kernel
theorem dX3_begin_61 : decode cX3_begin 61 = .ok (.iconst 1, 1) := by decide +kernel
theorem dX3_begin_62 : decode cX3_begin 62 = .ok (.iadd, 1) := by decide +kernel
theorem dX3_begin_63 : decode cX3_begin 63 = .ok (.putfield 31, 3) := by decide +kernel
theorem dX3_begin_66 : decode cX3_begin 66 = .ok (.return_, 1) := by decide +kernel
theorem dX3_grow_0 : decode cX3_grow 0 = .ok (.aload_n 0, 1) := by decide +kernel
theorem dX3_grow_1 : decode cX3_grow 1 = .ok (.getfield 31, 3) := by decide +kernel
theorem dX3_grow_4 : decode cX3_grow 4 = .ok (.iconst 1, 1) := by decide +kernel
theorem dX3_grow_5 : decode cX3_grow 5 = .ok (.isub, 1) := by decide +kernel
theorem dX3_grow_6 : decode cX3_grow 6 = .ok (.istore_n 2, 1) := by decide +kernel
theorem dX3_grow_7 : decode cX3_grow 7 = .ok (.iload_n 2, 1) := by decide +kernel
theorem dX3_grow_8 : decode cX3_grow 8 = .ok (.ifCond .lt 55, 3) := by decide +kernel
theorem dX3_grow_11 : decode cX3_grow 11 = .ok (.iload_n 2, 1) := by decide +kernel
theorem dX3_grow_12 : decode cX3_grow 12 = .ok (.bipush 121, 2) := by decide +kernel
theorem dX3_grow_14 : decode cX3_grow 14 = .ok (.if_icmp .ge 49, 3) := by decide +kernel
theorem dX3_grow_17 : decode cX3_grow 17 = .ok (.aload_n 0, 1) := by decide +kernel
theorem dX3_grow_18 : decode cX3_grow 18 = .ok (.getfield 25, 3) := by decide +kernel
theorem dX3_grow_21 : decode cX3_grow 21 = .ok (.iload_n 2, 1) := by decide +kernel
theorem dX3_grow_22 : decode cX3_grow 22 = .ok (.dup2, 1) := by decide +kernel
theorem dX3_grow_23 : decode cX3_grow 23 = .ok (.iaload, 1) := by decide +kernel
theorem dX3_grow_24 : decode cX3_grow 24 = .ok (.iconst 1, 1) := by decide +kernel
theorem dX3_grow_25 : decode cX3_grow 25 = .ok (.iadd, 1) := by decide +kernel
theorem dX3_grow_26 : decode cX3_grow 26 = .ok (.iastore, 1) := by decide +kernel
theorem dX3_grow_27 : decode cX3_grow 27 = .ok (.aload_n 0, 1) := by decide +kernel
theorem dX3_grow_28 : decode cX3_grow 28 = .ok (.getfield 19, 3) := by decide +kernel
theorem dX3_grow_31 : decode cX3_grow 31 = .ok (.iload_n 2, 1) := by decide +kernel
theorem dX3_grow_32 : decode cX3_grow 32 = .ok (.iaload, 1) := by decide +kernel
theorem dX3_grow_33 : decode cX3_grow 33 = .ok (.iconst 2, 1) := by decide +kernel
theorem dX3_grow_34 : decode cX3_grow 34 = .ok (.if_icmp .ne 29, 3) := by decide +kernel
theorem dX3_grow_37 : decode cX3_grow 37 = .ok (.aload_n 0, 1) := by decide +kernel
theorem dX3_grow_38 : decode cX3_grow 38 = .ok (.getfield 28, 3) := by decide +kernel
theorem dX3_grow_41 : decode cX3_grow 41 = .ok (.iload_n 2, 1) := by decide +kernel
theorem dX3_grow_42 : decode cX3_grow 42 = .ok (.sipush 1000, 3) := by decide +kernel
theorem dX3_grow_45 : decode cX3_grow 45 = .ok (.aload_n 0, 1) := by decide +kernel
theorem dX3_grow_46 : decode cX3_grow 46 = .ok (.getfield 28, 3) := by decide +kernel
theorem dX3_grow_49 : decode cX3_grow 49 = .ok (.iload_n 2, 1) := by decide +kernel
theorem dX3_grow_50 : decode cX3_grow 50 = .ok (.iaload, 1) := by decide +kernel
theorem dX3_grow_51 : decode cX3_grow 51 = .ok (.bipush 10, 2) := by decide +kernel
theorem dX3_grow_53 : decode cX3_grow 53 = .ok (.imul, 1) := by decide +kernel
theorem dX3_grow_54 : decode cX3_grow 54 = .ok (.iload_n 1, 1) := by decide +kernel
theorem dX3_grow_55 : decode cX3_grow 55 = .ok (.iadd, 1) := by decide +kernel
theorem dX3_grow_56 : decode cX3_grow 56 = .ok (.bipush 48, 2) := by decide +kernel
theorem dX3_grow_58 : decode cX3_grow 58 = .ok (.isub, 1) := by decide +kernel
theorem dX3_grow_59 : decode cX3_grow 59 = .ok (.invokestatic 107, 3) := by decide +kernel
theorem dX3_grow_62 : decode cX3_grow 62 = .ok (.iastore, 1) := by decide +kernel
theorem dX3_grow_63 : decode cX3_grow 63 = .ok (.return_, 1) := by decide +kernel
theorem dX3_nameWords_0 : decode cX3_nameWords 0 = .ok (.iconst 0, 1) := by decide +kernel
theorem dX3_nameWords_1 : decode cX3_nameWords 1 = .ok (.istore_n 1, 1) := by decide +kernel
theorem dX3_nameWords_2 : decode cX3_nameWords 2 = .ok (.iload_n 1, 1) := by decide +kernel
theorem dX3_nameWords_3 : decode cX3_nameWords 3 = .ok (.aload_n 0, 1) := by decide +kernel
theorem dX3_nameWords_4 : decode cX3_nameWords 4 = .ok (.getfield 31, 3) := by decide +kernel
theorem dX3_nameWords_7 : decode cX3_nameWords 7 = .ok (.if_icmp .ge 47, 3) := by decide +kernel
theorem dX3_nameWords_10 : decode cX3_nameWords 10 = .ok (.iload_n 1, 1) := by decide +kernel
theorem dX3_nameWords_11 : decode cX3_nameWords 11 = .ok (.bipush 121, 2) := by decide +kernel
theorem dX3_nameWords_13 : decode cX3_nameWords 13 = .ok (.if_icmp .ge 41, 3) := by decide +kernel
theorem dX3_nameWords_16 : decode cX3_nameWords 16 = .ok (.aload_n 0, 1) := by decide +kernel
theorem dX3_nameWords_17 : decode cX3_nameWords 17 = .ok (.getfield 19, 3) := by decide +kernel
theorem dX3_nameWords_20 : decode cX3_nameWords 20 = .ok (.iload_n 1, 1) := by decide +kernel
theorem dX3_nameWords_21 : decode cX3_nameWords 21 = .ok (.iaload, 1) := by decide +kernel
theorem dX3_nameWords_22 : decode cX3_nameWords 22 = .ok (.iconst 1, 1) := by decide +kernel
theorem dX3_nameWords_23 : decode cX3_nameWords 23 = .ok (.if_icmp .ne 25, 3) := by decide +kernel
theorem dX3_nameWords_26 : decode cX3_nameWords 26 = .ok (.aload_n 0, 1) := by decide +kernel
theorem dX3_nameWords_27 : decode cX3_nameWords 27 = .ok (.getfield 28, 3) := by decide +kernel
theorem dX3_nameWords_30 : decode cX3_nameWords 30 = .ok (.iload_n 1, 1) := by decide +kernel
theorem dX3_nameWords_31 : decode cX3_nameWords 31 = .ok (.aload_n 0, 1) := by decide +kernel
theorem dX3_nameWords_32 : decode cX3_nameWords 32 = .ok (.aload_n 0, 1) := by decide +kernel
theorem dX3_nameWords_33 : decode cX3_nameWords 33 = .ok (.getfield 22, 3) := by decide +kernel
theorem dX3_nameWords_36 : decode cX3_nameWords 36 = .ok (.iload_n 1, 1) := by decide +kernel
theorem dX3_nameWords_37 : decode cX3_nameWords 37 = .ok (.iaload, 1) := by decide +kernel
theorem dX3_nameWords_38 : decode cX3_nameWords 38 = .ok (.aload_n 0, 1) := by decide +kernel
theorem dX3_nameWords_39 : decode cX3_nameWords 39 = .ok (.getfield 25, 3) := by decide +kernel
theorem dX3_nameWords_42 : decode cX3_nameWords 42 = .ok (.iload_n 1, 1) := by decide +kernel
theorem dX3_nameWords_43 : decode cX3_nameWords 43 = .ok (.iaload, 1) := by decide +kernel
theorem dX3_nameWords_44 : decode cX3_nameWords 44 = .ok (.invokevirtual 113, 3) := by decide +kernel
theorem dX3_nameWords_47 : decode cX3_nameWords 47 = .ok (.iastore, 1) := by decide +kernel
theorem dX3_nameWords_48 : decode cX3_nameWords 48 = .ok (.iinc 1 1, 3) := by decide +kernel
theorem dX3_nameWords_51 : decode cX3_nameWords 51 = .ok (.goto (-49), 3) := by decide +kernel
theorem dX3_nameWords_54 : decode cX3_nameWords 54 = .ok (.return_, 1) := by decide +kernel
theorem dX3_wordNumber_0 : decode cX3_wordNumber 0 = .ok (.aload_n 0, 1) := by decide +kernel
theorem dX3_wordNumber_1 : decode cX3_wordNumber 1 = .ok (.iload_n 1, 1) := by decide +kernel
theorem dX3_wordNumber_2 : decode cX3_wordNumber 2 = .ok (.iload_n 2, 1) := by decide +kernel
theorem dX3_wordNumber_3 : decode cX3_wordNumber 3 = .ok (.ldc 116, 2) := by decide +kernel
theorem dX3_wordNumber_5 : decode cX3_wordNumber 5 = .ok (.invokevirtual 118, 3) := by decide +kernel
theorem dX3_wordNumber_8 : decode cX3_wordNumber 8 = .ok (.ifCond .eq 5, 3) := by decide +kernel
theorem dX3_wordNumber_11 : decode cX3_wordNumber 11 = .ok (.iconst 0, 1) := by decide +kernel
theorem dX3_wordNumber_12 : decode cX3_wordNumber 12 = .ok (.ireturn, 1) := by decide +kernel
theorem dX3_wordNumber_13 : decode cX3_wordNumber 13 = .ok (.aload_n 0, 1) := by decide +kernel
theorem dX3_wordNumber_14 : decode cX3_wordNumber 14 = .ok (.iload_n 1, 1) := by decide +kernel
theorem dX3_wordNumber_15 : decode cX3_wordNumber 15 = .ok (.iload_n 2, 1) := by decide +kernel
theorem dX3_wordNumber_16 : decode cX3_wordNumber 16 = .ok (.ldc 122, 2) := by decide +kernel
theorem dX3_wordNumber_18 : decode cX3_wordNumber 18 = .ok (.invokevirtual 118, 3) := by decide +kernel
theorem dX3_wordNumber_21 : decode cX3_wordNumber 21 = .ok (.ifCond .eq 5, 3) := by decide +kernel
theorem dX3_wordNumber_24 : decode cX3_wordNumber 24 = .ok (.iconst 1, 1) := by decide +kernel
theorem dX3_wordNumber_25 : decode cX3_wordNumber 25 = .ok (.ireturn, 1) := by decide +kernel
theorem dX3_wordNumber_26 : decode cX3_wordNumber 26 = .ok (.aload_n 0, 1) := by decide +kernel
theorem dX3_wordNumber_27 : decode cX3_wordNumber 27 = .ok (.iload_n 1, 1) := by decide +kernel
theorem dX3_wordNumber_28 : decode cX3_wordNumber 28 = .ok (.iload_n 2, 1) := by decide +kernel
theorem dX3_wordNumber_29 : decode cX3_wordNumber 29 = .ok (.ldc 124, 2) := by decide +kernel
theorem dX3_wordNumber_31 : decode cX3_wordNumber 31 = .ok (.invokevirtual 118, 3) := by decide +kernel
theorem dX3_wordNumber_34 : decode cX3_wordNumber 34 = .ok (.ifCond .eq 5, 3) := by decide +kernel
theorem dX3_wordNumber_37 : decode cX3_wordNumber 37 = .ok (.iconst 2, 1) := by decide +kernel
theorem dX3_wordNumber_38 : decode cX3_wordNumber 38 = .ok (.ireturn, 1) := by decide +kernel
theorem dX3_wordNumber_39 : decode cX3_wordNumber 39 = .ok (.aload_n 0, 1) := by decide +kernel
theorem dX3_wordNumber_40 : decode cX3_wordNumber 40 = .ok (.iload_n 1, 1) := by decide +kernel
theorem dX3_wordNumber_41 : decode cX3_wordNumber 41 = .ok (.iload_n 2, 1) := by decide +kernel
theorem dX3_wordNumber_42 : decode cX3_wordNumber 42 = .ok (.ldc 126, 2) := by decide +kernel
theorem dX3_wordNumber_44 : decode cX3_wordNumber 44 = .ok (.invokevirtual 118, 3) := by decide +kernel
theorem dX3_wordNumber_47 : decode cX3_wordNumber 47 = .ok (.ifCond .eq 5, 3) := by decide +kernel
theorem dX3_wordNumber_50 : decode cX3_wordNumber 50 = .ok (.iconst 3, 1) := by decide +kernel
theorem dX3_wordNumber_51 : decode cX3_wordNumber 51 = .ok (.ireturn, 1) := by decide +kernel
theorem dX3_wordNumber_52 : decode cX3_wordNumber 52 = .ok (.aload_n 0, 1) := by decide +kernel
theorem dX3_wordNumber_53 : decode cX3_wordNumber 53 = .ok (.iload_n 1, 1) := by decide +kernel
theorem dX3_wordNumber_54 : decode cX3_wordNumber 54 = .ok (.iload_n 2, 1) := by decide +kernel
theorem dX3_wordNumber_55 : decode cX3_wordNumber 55 = .ok (.ldc 128, 2) := by decide +kernel
theorem dX3_wordNumber_57 : decode cX3_wordNumber 57 = .ok (.invokevirtual 118, 3) := by decide +kernel
theorem dX3_wordNumber_60 : decode cX3_wordNumber 60 = .ok (.ifCond .eq 5, 3) := by decide +kernel
theorem dX3_wordNumber_63 : decode cX3_wordNumber 63 = .ok (.iconst 4, 1) := by decide +kernel
theorem dX3_wordNumber_64 : decode cX3_wordNumber 64 = .ok (.ireturn, 1) := by decide +kernel
theorem dX3_wordNumber_65 : decode cX3_wordNumber 65 = .ok (.aload_n 0, 1) := by decide +kernel
theorem dX3_wordNumber_66 : decode cX3_wordNumber 66 = .ok (.iload_n 1, 1) := by decide +kernel
theorem dX3_wordNumber_67 : decode cX3_wordNumber 67 = .ok (.iload_n 2, 1) := by decide +kernel
theorem dX3_wordNumber_68 : decode cX3_wordNumber 68 = .ok (.ldc 130, 2) := by decide +kernel
theorem dX3_wordNumber_70 : decode cX3_wordNumber 70 = .ok (.invokevirtual 118, 3) := by decide +kernel
theorem dX3_wordNumber_73 : decode cX3_wordNumber 73 = .ok (.ifCond .eq 5, 3) := by decide +kernel
theorem dX3_wordNumber_76 : decode cX3_wordNumber 76 = .ok (.iconst 5, 1) := by decide +kernel
theorem dX3_wordNumber_77 : decode cX3_wordNumber 77 = .ok (.ireturn, 1) := by decide +kernel
theorem dX3_wordNumber_78 : decode cX3_wordNumber 78 = .ok (.aload_n 0, 1) := by decide +kernel
theorem dX3_wordNumber_79 : decode cX3_wordNumber 79 = .ok (.iload_n 1, 1) := by decide +kernel
theorem dX3_wordNumber_80 : decode cX3_wordNumber 80 = .ok (.iload_n 2, 1) := by decide +kernel
theorem dX3_wordNumber_81 : decode cX3_wordNumber 81 = .ok (.ldc 132, 2) := by decide +kernel
theorem dX3_wordNumber_83 : decode cX3_wordNumber 83 = .ok (.invokevirtual 118, 3) := by decide +kernel
theorem dX3_wordNumber_86 : decode cX3_wordNumber 86 = .ok (.ifCond .eq 6, 3) := by decide +kernel
theorem dX3_wordNumber_89 : decode cX3_wordNumber 89 = .ok (.bipush 6, 2) := by decide +kernel
theorem dX3_wordNumber_91 : decode cX3_wordNumber 91 = .ok (.ireturn, 1) := by decide +kernel
theorem dX3_wordNumber_92 : decode cX3_wordNumber 92 = .ok (.aload_n 0, 1) := by decide +kernel
theorem dX3_wordNumber_93 : decode cX3_wordNumber 93 = .ok (.iload_n 1, 1) := by decide +kernel
theorem dX3_wordNumber_94 : decode cX3_wordNumber 94 = .ok (.iload_n 2, 1) := by decide +kernel
theorem dX3_wordNumber_95 : decode cX3_wordNumber 95 = .ok (.ldc 134, 2) := by decide +kernel
theorem dX3_wordNumber_97 : decode cX3_wordNumber 97 = .ok (.invokevirtual 118, 3) := by decide +kernel
theorem dX3_wordNumber_100 : decode cX3_wordNumber 100 = .ok (.ifCond .eq 6, 3) := by decide +kernel
theorem dX3_wordNumber_103 : decode cX3_wordNumber 103 = .ok (.bipush 7, 2) := by decide +kernel
theorem dX3_wordNumber_105 : decode cX3_wordNumber 105 = .ok (.ireturn, 1) := by decide +kernel
theorem dX3_wordNumber_106 : decode cX3_wordNumber 106 = .ok (.aload_n 0, 1) := by decide +kernel
theorem dX3_wordNumber_107 : decode cX3_wordNumber 107 = .ok (.iload_n 1, 1) := by decide +kernel
theorem dX3_wordNumber_108 : decode cX3_wordNumber 108 = .ok (.iload_n 2, 1) := by decide +kernel
theorem dX3_wordNumber_109 : decode cX3_wordNumber 109 = .ok (.ldc 136, 2) := by decide +kernel
theorem dX3_wordNumber_111 : decode cX3_wordNumber 111 = .ok (.invokevirtual 118, 3) := by decide +kernel
theorem dX3_wordNumber_114 : decode cX3_wordNumber 114 = .ok (.ifCond .eq 6, 3) := by decide +kernel
theorem dX3_wordNumber_117 : decode cX3_wordNumber 117 = .ok (.bipush 8, 2) := by decide +kernel
theorem dX3_wordNumber_119 : decode cX3_wordNumber 119 = .ok (.ireturn, 1) := by decide +kernel
theorem dX3_wordNumber_120 : decode cX3_wordNumber 120 = .ok (.aload_n 0, 1) := by decide +kernel
theorem dX3_wordNumber_121 : decode cX3_wordNumber 121 = .ok (.iload_n 1, 1) := by decide +kernel
theorem dX3_wordNumber_122 : decode cX3_wordNumber 122 = .ok (.iload_n 2, 1) := by decide +kernel
theorem dX3_wordNumber_123 : decode cX3_wordNumber 123 = .ok (.ldc 138, 2) := by decide +kernel
theorem dX3_wordNumber_125 : decode cX3_wordNumber 125 = .ok (.invokevirtual 118, 3) := by decide +kernel
theorem dX3_wordNumber_128 : decode cX3_wordNumber 128 = .ok (.ifCond .eq 6, 3) := by decide +kernel
theorem dX3_wordNumber_131 : decode cX3_wordNumber 131 = .ok (.bipush 9, 2) := by decide +kernel
theorem dX3_wordNumber_133 : decode cX3_wordNumber 133 = .ok (.ireturn, 1) := by decide +kernel
theorem dX3_wordNumber_134 : decode cX3_wordNumber 134 = .ok (.aload_n 0, 1) := by decide +kernel
theorem dX3_wordNumber_135 : decode cX3_wordNumber 135 = .ok (.iload_n 1, 1) := by decide +kernel
theorem dX3_wordNumber_136 : decode cX3_wordNumber 136 = .ok (.iload_n 2, 1) := by decide +kernel
theorem dX3_wordNumber_137 : decode cX3_wordNumber 137 = .ok (.ldc 139, 2) := by decide +kernel
theorem dX3_wordNumber_139 : decode cX3_wordNumber 139 = .ok (.invokevirtual 118, 3) := by decide +kernel
theorem dX3_wordNumber_142 : decode cX3_wordNumber 142 = .ok (.ifCond .eq 6, 3) := by decide +kernel
theorem dX3_wordNumber_145 : decode cX3_wordNumber 145 = .ok (.bipush 10, 2) := by decide +kernel
theorem dX3_wordNumber_147 : decode cX3_wordNumber 147 = .ok (.ireturn, 1) := by decide +kernel
theorem dX3_wordNumber_148 : decode cX3_wordNumber 148 = .ok (.aload_n 0, 1) := by decide +kernel
theorem dX3_wordNumber_149 : decode cX3_wordNumber 149 = .ok (.iload_n 1, 1) := by decide +kernel
theorem dX3_wordNumber_150 : decode cX3_wordNumber 150 = .ok (.iload_n 2, 1) := by decide +kernel
theorem dX3_wordNumber_151 : decode cX3_wordNumber 151 = .ok (.ldc 141, 2) := by decide +kernel
theorem dX3_wordNumber_153 : decode cX3_wordNumber 153 = .ok (.invokevirtual 118, 3) := by decide +kernel
theorem dX3_wordNumber_156 : decode cX3_wordNumber 156 = .ok (.ifCond .eq 6, 3) := by decide +kernel
theorem dX3_wordNumber_159 : decode cX3_wordNumber 159 = .ok (.bipush 11, 2) := by decide +kernel
theorem dX3_wordNumber_161 : decode cX3_wordNumber 161 = .ok (.ireturn, 1) := by decide +kernel
theorem dX3_wordNumber_162 : decode cX3_wordNumber 162 = .ok (.aload_n 0, 1) := by decide +kernel
theorem dX3_wordNumber_163 : decode cX3_wordNumber 163 = .ok (.iload_n 1, 1) := by decide +kernel
theorem dX3_wordNumber_164 : decode cX3_wordNumber 164 = .ok (.iload_n 2, 1) := by decide +kernel
theorem dX3_wordNumber_165 : decode cX3_wordNumber 165 = .ok (.ldc 143, 2) := by decide +kernel
theorem dX3_wordNumber_167 : decode cX3_wordNumber 167 = .ok (.invokevirtual 118, 3) := by decide +kernel
theorem dX3_wordNumber_170 : decode cX3_wordNumber 170 = .ok (.ifCond .eq 8, 3) := by decide +kernel
theorem dX3_wordNumber_173 : decode cX3_wordNumber 173 = .ok (.bipush 12, 2) := by decide +kernel
theorem dX3_wordNumber_175 : decode cX3_wordNumber 175 = .ok (.goto 5, 3) := by decide +kernel
theorem dX3_wordNumber_178 : decode cX3_wordNumber 178 = .ok (.bipush 13, 2) := by decide +kernel
theorem dX3_wordNumber_180 : decode cX3_wordNumber 180 = .ok (.ireturn, 1) := by decide +kernel
theorem dX3_spells_0 : decode cX3_spells 0 = .ok (.iload_n 1, 1) := by decide +kernel
theorem dX3_spells_1 : decode cX3_spells 1 = .ok (.ifCond .lt 19, 3) := by decide +kernel
theorem dX3_spells_4 : decode cX3_spells 4 = .ok (.iload_n 2, 1) := by decide +kernel
theorem dX3_spells_5 : decode cX3_spells 5 = .ok (.bipush 120, 2) := by decide +kernel
theorem dX3_spells_7 : decode cX3_spells 7 = .ok (.if_icmp .gt 13, 3) := by decide +kernel
theorem dX3_spells_10 : decode cX3_spells 10 = .ok (.iload_n 2, 1) := by decide +kernel
theorem dX3_spells_11 : decode cX3_spells 11 = .ok (.iload_n 1, 1) := by decide +kernel
theorem dX3_spells_12 : decode cX3_spells 12 = .ok (.isub, 1) := by decide +kernel
theorem dX3_spells_13 : decode cX3_spells 13 = .ok (.aload_n 3, 1) := by decide +kernel
theorem dX3_spells_14 : decode cX3_spells 14 = .ok (.invokevirtual 145, 3) := by decide +kernel
theorem dX3_spells_17 : decode cX3_spells 17 = .ok (.if_icmp .eq 5, 3) := by decide +kernel
theorem dX3_spells_20 : decode cX3_spells 20 = .ok (.iconst 0, 1) := by decide +kernel
theorem dX3_spells_21 : decode cX3_spells 21 = .ok (.ireturn, 1) := by decide +kernel
theorem dX3_spells_22 : decode cX3_spells 22 = .ok (.iconst 0, 1) := by decide +kernel
theorem dX3_spells_23 : decode cX3_spells 23 = .ok (.istore 4, 2) := by decide +kernel
theorem dX3_spells_25 : decode cX3_spells 25 = .ok (.iload 4, 2) := by decide +kernel
theorem dX3_spells_27 : decode cX3_spells 27 = .ok (.aload_n 3, 1) := by decide +kernel
theorem dX3_spells_28 : decode cX3_spells 28 = .ok (.invokevirtual 145, 3) := by decide +kernel
theorem dX3_spells_31 : decode cX3_spells 31 = .ok (.if_icmp .ge 29, 3) := by decide +kernel
theorem dX3_spells_34 : decode cX3_spells 34 = .ok (.aload_n 0, 1) := by decide +kernel
theorem dX3_spells_35 : decode cX3_spells 35 = .ok (.getfield 9, 3) := by decide +kernel
theorem dX3_spells_38 : decode cX3_spells 38 = .ok (.iload_n 1, 1) := by decide +kernel
theorem dX3_spells_39 : decode cX3_spells 39 = .ok (.iload 4, 2) := by decide +kernel
theorem dX3_spells_41 : decode cX3_spells 41 = .ok (.iadd, 1) := by decide +kernel
theorem dX3_spells_42 : decode cX3_spells 42 = .ok (.iaload, 1) := by decide +kernel
theorem dX3_spells_43 : decode cX3_spells 43 = .ok (.aload_n 3, 1) := by decide +kernel
theorem dX3_spells_44 : decode cX3_spells 44 = .ok (.iload 4, 2) := by decide +kernel
theorem dX3_spells_46 : decode cX3_spells 46 = .ok (.invokevirtual 150, 3) := by decide +kernel
theorem dX3_spells_49 : decode cX3_spells 49 = .ok (.if_icmp .eq 5, 3) := by decide +kernel
theorem dX3_spells_52 : decode cX3_spells 52 = .ok (.iconst 0, 1) := by decide +kernel
theorem dX3_spells_53 : decode cX3_spells 53 = .ok (.ireturn, 1) := by decide +kernel
theorem dX3_spells_54 : decode cX3_spells 54 = .ok (.iinc 4 1, 3) := by decide +kernel
theorem dX3_spells_57 : decode cX3_spells 57 = .ok (.goto (-32), 3) := by decide +kernel
theorem dX3_spells_60 : decode cX3_spells 60 = .ok (.iconst 1, 1) := by decide +kernel
theorem dX3_spells_61 : decode cX3_spells 61 = .ok (.ireturn, 1) := by decide +kernel
theorem dX4_init_0 : decode cX4_init 0 = .ok (.aload_n 0, 1) := by decide +kernel
theorem dX4_init_1 : decode cX4_init 1 = .ok (.invokespecial 3, 3) := by decide +kernel
theorem dX4_init_4 : decode cX4_init 4 = .ok (.aload_n 0, 1) := by decide +kernel
theorem dX4_init_5 : decode cX4_init 5 = .ok (.iconst 4, 1) := by decide +kernel
theorem dX4_init_6 : decode cX4_init 6 = .ok (.bipush 40, 2) := by decide +kernel
theorem dX4_init_8 : decode cX4_init 8 = .ok (.multianewarray 9 2, 4) := by decide +kernel
theorem dX4_init_12 : decode cX4_init 12 = .ok (.putfield 11, 3) := by decide +kernel
theorem dX4_init_15 : decode cX4_init 15 = .ok (.aload_n 0, 1) := by decide +kernel
theorem dX4_init_16 : decode cX4_init 16 = .ok (.iconst 4, 1) := by decide +kernel
theorem dX4_init_17 : decode cX4_init 17 = .ok (.newarray .int, 2) := by decide +kernel
theorem dX4_init_19 : decode cX4_init 19 = .ok (.putfield 16, 3) := by decide +kernel
theorem dX4_init_22 : decode cX4_init 22 = .ok (.aload_n 0, 1) := by decide +kernel
theorem dX4_init_23 : decode cX4_init 23 = .ok (.iconst 4, 1) := by decide +kernel
theorem dX4_init_24 : decode cX4_init 24 = .ok (.newarray .int, 2) := by decide +kernel
theorem dX4_init_26 : decode cX4_init 26 = .ok (.putfield 20, 3) := by decide +kernel
theorem dX4_init_29 : decode cX4_init 29 = .ok (.return_, 1) := by decide +kernel
theorem dX4_finding_0 : decode cX4_finding 0 = .ok (.iload_n 1, 1) := by decide +kernel
theorem dX4_finding_1 : decode cX4_finding 1 = .ok (.invokestatic 23, 3) := by decide +kernel
theorem dX4_finding_4 : decode cX4_finding 4 = .ok (.ifCond .ne 6, 3) := by decide +kernel
theorem dX4_finding_7 : decode cX4_finding 7 = .ok (.ldc 27, 2) := by decide +kernel
theorem dX4_finding_9 : decode cX4_finding 9 = .ok (.ireturn, 1) := by decide +kernel
theorem dX4_finding_10 : decode cX4_finding 10 = .ok (.aload_n 0, 1) := by decide +kernel
theorem dX4_finding_11 : decode cX4_finding 11 = .ok (.getfield 16, 3) := by decide +kernel
theorem dX4_finding_14 : decode cX4_finding 14 = .ok (.iload_n 1, 1) := by decide +kernel
theorem dX4_finding_15 : decode cX4_finding 15 = .ok (.iaload, 1) := by decide +kernel
theorem dX4_finding_16 : decode cX4_finding 16 = .ok (.ifCond .ne 8, 3) := by decide +kernel
theorem dX4_finding_19 : decode cX4_finding 19 = .ok (.ldc 28, 2) := by decide +kernel
theorem dX4_finding_21 : decode cX4_finding 21 = .ok (.goto 4, 3) := by decide +kernel
theorem dX4_finding_24 : decode cX4_finding 24 = .ok (.iconst 0, 1) := by decide +kernel
theorem dX4_finding_25 : decode cX4_finding 25 = .ok (.ireturn, 1) := by decide +kernel
theorem dX4_renew_0 : decode cX4_renew 0 = .ok (.iload_n 1, 1) := by decide +kernel
theorem dX4_renew_1 : decode cX4_renew 1 = .ok (.invokestatic 23, 3) := by decide +kernel
theorem dX4_renew_4 : decode cX4_renew 4 = .ok (.ifCond .eq 53, 3) := by decide +kernel
theorem dX4_renew_7 : decode cX4_renew 7 = .ok (.iload_n 3, 1) := by decide +kernel
theorem dX4_renew_8 : decode cX4_renew 8 = .ok (.ifCond .lt 49, 3) := by decide +kernel
theorem dX4_renew_11 : decode cX4_renew 11 = .ok (.iload_n 3, 1) := by decide +kernel
theorem dX4_renew_12 : decode cX4_renew 12 = .ok (.bipush 40, 2) := by decide +kernel
theorem dX4_renew_14 : decode cX4_renew 14 = .ok (.if_icmp .gt 43, 3) := by decide +kernel
theorem dX4_renew_17 : decode cX4_renew 17 = .ok (.aload_n 0, 1) := by decide +kernel
theorem dX4_renew_18 : decode cX4_renew 18 = .ok (.getfield 16, 3) := by decide +kernel
theorem dX4_renew_21 : decode cX4_renew 21 = .ok (.iload_n 1, 1) := by decide +kernel
theorem dX4_renew_22 : decode cX4_renew 22 = .ok (.iload_n 2, 1) := by decide +kernel
theorem dX4_renew_23 : decode cX4_renew 23 = .ok (.iastore, 1) := by decide +kernel
theorem dX4_renew_24 : decode cX4_renew 24 = .ok (.aload_n 0, 1) := by decide +kernel
theorem dX4_renew_25 : decode cX4_renew 25 = .ok (.getfield 20, 3) := by decide +kernel
theorem dX4_renew_28 : decode cX4_renew 28 = .ok (.iload_n 1, 1) := by decide +kernel
theorem dX4_renew_29 : decode cX4_renew 29 = .ok (.iload_n 3, 1) := by decide +kernel
theorem dX4_renew_30 : decode cX4_renew 30 = .ok (.iastore, 1) := by decide +kernel
theorem dX4_renew_31 : decode cX4_renew 31 = .ok (.iconst 0, 1) := by decide +kernel
theorem dX4_renew_32 : decode cX4_renew 32 = .ok (.istore 4, 2) := by decide +kernel
theorem dX4_renew_34 : decode cX4_renew 34 = .ok (.iload 4, 2) := by decide +kernel
theorem dX4_renew_36 : decode cX4_renew 36 = .ok (.bipush 40, 2) := by decide +kernel
theorem dX4_renew_38 : decode cX4_renew 38 = .ok (.if_icmp .ge 19, 3) := by decide +kernel
theorem dX4_renew_41 : decode cX4_renew 41 = .ok (.aload_n 0, 1) := by decide +kernel
theorem dX4_renew_42 : decode cX4_renew 42 = .ok (.getfield 11, 3) := by decide +kernel
theorem dX4_renew_45 : decode cX4_renew 45 = .ok (.iload_n 1, 1) := by decide +kernel
theorem dX4_renew_46 : decode cX4_renew 46 = .ok (.aaload, 1) := by decide +kernel
theorem dX4_renew_47 : decode cX4_renew 47 = .ok (.iload 4, 2) := by decide +kernel
theorem dX4_renew_49 : decode cX4_renew 49 = .ok (.iconst 0, 1) := by decide +kernel
theorem dX4_renew_50 : decode cX4_renew 50 = .ok (.iastore, 1) := by decide +kernel
theorem dX4_renew_51 : decode cX4_renew 51 = .ok (.iinc 4 1, 3) := by decide +kernel
theorem dX4_renew_54 : decode cX4_renew 54 = .ok (.goto (-20), 3) := by decide +kernel
theorem dX4_renew_57 : decode cX4_renew 57 = .ok (.return_, 1) := by decide +kernel
theorem dX4_put_0 : decode cX4_put 0 = .ok (.iload_n 1, 1) := by decide +kernel
theorem dX4_put_1 : decode cX4_put 1 = .ok (.invokestatic 23, 3) := by decide +kernel
theorem dX4_put_4 : decode cX4_put 4 = .ok (.ifCond .eq 54, 3) := by decide +kernel
theorem dX4_put_7 : decode cX4_put 7 = .ok (.iload_n 2, 1) := by decide +kernel
theorem dX4_put_8 : decode cX4_put 8 = .ok (.ifCond .lt 50, 3) := by decide +kernel
theorem dX4_put_11 : decode cX4_put 11 = .ok (.iload_n 2, 1) := by decide +kernel
theorem dX4_put_12 : decode cX4_put 12 = .ok (.bipush 40, 2) := by decide +kernel
theorem dX4_put_14 : decode cX4_put 14 = .ok (.if_icmp .ge 44, 3) := by decide +kernel
theorem dX4_put_17 : decode cX4_put 17 = .ok (.aload_n 0, 1) := by decide +kernel
theorem dX4_put_18 : decode cX4_put 18 = .ok (.getfield 11, 3) := by decide +kernel
theorem dX4_put_21 : decode cX4_put 21 = .ok (.iload_n 1, 1) := by decide +kernel
theorem dX4_put_22 : decode cX4_put 22 = .ok (.aaload, 1) := by decide +kernel
theorem dX4_put_23 : decode cX4_put 23 = .ok (.iload_n 2, 1) := by decide +kernel
theorem dX4_put_24 : decode cX4_put 24 = .ok (.aload_n 0, 1) := by decide +kernel
theorem dX4_put_25 : decode cX4_put 25 = .ok (.getfield 16, 3) := by decide +kernel
theorem dX4_put_28 : decode cX4_put 28 = .ok (.iload_n 1, 1) := by decide +kernel
theorem dX4_put_29 : decode cX4_put 29 = .ok (.iaload, 1) := by decide +kernel
theorem dX4_put_30 : decode cX4_put 30 = .ok (.bipush 8, 2) := by decide +kernel
theorem dX4_put_32 : decode cX4_put 32 = .ok (.if_icmp .ne 8, 3) := by decide +kernel
theorem dX4_put_35 : decode cX4_put 35 = .ok (.iload_n 3, 1) := by decide +kernel
theorem dX4_put_36 : decode cX4_put 36 = .ok (.i2b, 1) := by decide +kernel
theorem dX4_put_37 : decode cX4_put 37 = .ok (.goto 20, 3) := by decide +kernel
theorem dX4_put_40 : decode cX4_put 40 = .ok (.aload_n 0, 1) := by decide +kernel
theorem dX4_put_41 : decode cX4_put 41 = .ok (.getfield 16, 3) := by decide +kernel
theorem dX4_put_44 : decode cX4_put 44 = .ok (.iload_n 1, 1) := by decide +kernel
theorem dX4_put_45 : decode cX4_put 45 = .ok (.iaload, 1) := by decide +kernel
theorem dX4_put_46 : decode cX4_put 46 = .ok (.bipush 16, 2) := by decide +kernel
theorem dX4_put_48 : decode cX4_put 48 = .ok (.if_icmp .ne 8, 3) := by decide +kernel
theorem dX4_put_51 : decode cX4_put 51 = .ok (.iload_n 3, 1) := by decide +kernel
theorem dX4_put_52 : decode cX4_put 52 = .ok (.i2s, 1) := by decide +kernel
theorem dX4_put_53 : decode cX4_put 53 = .ok (.goto 4, 3) := by decide +kernel
theorem dX4_put_56 : decode cX4_put 56 = .ok (.iload_n 3, 1) := by decide +kernel
theorem dX4_put_57 : decode cX4_put 57 = .ok (.iastore, 1) := by decide +kernel
theorem dX4_put_58 : decode cX4_put 58 = .ok (.return_, 1) := by decide +kernel
theorem dX4_hasPart_0 : decode cX4_hasPart 0 = .ok (.iload_n 1, 1) := by decide +kernel
theorem dX4_hasPart_1 : decode cX4_hasPart 1 = .ok (.invokestatic 23, 3) := by decide +kernel
theorem dX4_hasPart_4 : decode cX4_hasPart 4 = .ok (.ifCond .eq 37, 3) := by decide +kernel
theorem dX4_hasPart_7 : decode cX4_hasPart 7 = .ok (.iload_n 2, 1) := by decide +kernel
theorem dX4_hasPart_8 : decode cX4_hasPart 8 = .ok (.ifCond .lt 33, 3) := by decide +kernel
theorem dX4_hasPart_11 : decode cX4_hasPart 11 = .ok (.iload_n 3, 1) := by decide +kernel
theorem dX4_hasPart_12 : decode cX4_hasPart 12 = .ok (.ifCond .lt 29, 3) := by decide +kernel
theorem dX4_hasPart_15 : decode cX4_hasPart 15 = .ok (.iload_n 3, 1) := by decide +kernel
theorem dX4_hasPart_16 : decode cX4_hasPart 16 = .ok (.aload_n 0, 1) := by decide +kernel
theorem dX4_hasPart_17 : decode cX4_hasPart 17 = .ok (.getfield 20, 3) := by decide +kernel
theorem dX4_hasPart_20 : decode cX4_hasPart 20 = .ok (.iload_n 1, 1) := by decide +kernel
theorem dX4_hasPart_21 : decode cX4_hasPart 21 = .ok (.iaload, 1) := by decide +kernel
theorem dX4_hasPart_22 : decode cX4_hasPart 22 = .ok (.if_icmp .gt 19, 3) := by decide +kernel
theorem dX4_hasPart_25 : decode cX4_hasPart 25 = .ok (.iload_n 2, 1) := by decide +kernel
theorem dX4_hasPart_26 : decode cX4_hasPart 26 = .ok (.aload_n 0, 1) := by decide +kernel
theorem dX4_hasPart_27 : decode cX4_hasPart 27 = .ok (.getfield 20, 3) := by decide +kernel
theorem dX4_hasPart_30 : decode cX4_hasPart 30 = .ok (.iload_n 1, 1) := by decide +kernel
theorem dX4_hasPart_31 : decode cX4_hasPart 31 = .ok (.iaload, 1) := by decide +kernel
theorem dX4_hasPart_32 : decode cX4_hasPart 32 = .ok (.iload_n 3, 1) := by decide +kernel
theorem dX4_hasPart_33 : decode cX4_hasPart 33 = .ok (.isub, 1) := by decide +kernel
theorem dX4_hasPart_34 : decode cX4_hasPart 34 = .ok (.if_icmp .gt 7, 3) := by decide +kernel
theorem dX4_hasPart_37 : decode cX4_hasPart 37 = .ok (.iconst 1, 1) := by decide +kernel
theorem dX4_hasPart_38 : decode cX4_hasPart 38 = .ok (.goto 4, 3) := by decide +kernel
theorem dX4_hasPart_41 : decode cX4_hasPart 41 = .ok (.iconst 0, 1) := by decide +kernel
theorem dX4_hasPart_42 : decode cX4_hasPart 42 = .ok (.ireturn, 1) := by decide +kernel
theorem dX4_tells_0 : decode cX4_tells 0 = .ok (.iload_n 1, 1) := by decide +kernel
theorem dX4_tells_1 : decode cX4_tells 1 = .ok (.invokestatic 23, 3) := by decide +kernel
theorem dX4_tells_4 : decode cX4_tells 4 = .ok (.ifCond .eq 14, 3) := by decide +kernel
theorem dX4_tells_7 : decode cX4_tells 7 = .ok (.aload_n 0, 1) := by decide +kernel
theorem dX4_tells_8 : decode cX4_tells 8 = .ok (.getfield 20, 3) := by decide +kernel
theorem dX4_tells_11 : decode cX4_tells 11 = .ok (.iload_n 1, 1) := by decide +kernel
theorem dX4_tells_12 : decode cX4_tells 12 = .ok (.iaload, 1) := by decide +kernel
theorem dX4_tells_13 : decode cX4_tells 13 = .ok (.aload_n 2, 1) := by decide +kernel
theorem dX4_tells_14 : decode cX4_tells 14 = .ok (.arraylength, 1) := by decide +kernel
theorem dX4_tells_15 : decode cX4_tells 15 = .ok (.if_icmp .le 5, 3) := by decide +kernel
theorem dX4_tells_18 : decode cX4_tells 18 = .ok (.iconst 0, 1) := by decide +kernel
theorem dX4_tells_19 : decode cX4_tells 19 = .ok (.ireturn, 1) := by decide +kernel
theorem dX4_tells_20 : decode cX4_tells 20 = .ok (.iconst 0, 1) := by decide +kernel
theorem dX4_tells_21 : decode cX4_tells 21 = .ok (.istore_n 3, 1) := by decide +kernel
theorem dX4_tells_22 : decode cX4_tells 22 = .ok (.iload_n 3, 1) := by decide +kernel
theorem dX4_tells_23 : decode cX4_tells 23 = .ok (.aload_n 0, 1) := by decide +kernel
theorem dX4_tells_24 : decode cX4_tells 24 = .ok (.getfield 20, 3) := by decide +kernel
theorem dX4_tells_27 : decode cX4_tells 27 = .ok (.iload_n 1, 1) := by decide +kernel
theorem dX4_tells_28 : decode cX4_tells 28 = .ok (.iaload, 1) := by decide +kernel
theorem dX4_tells_29 : decode cX4_tells 29 = .ok (.if_icmp .ge 37, 3) := by decide +kernel
theorem dX4_tells_32 : decode cX4_tells 32 = .ok (.aload_n 0, 1) := by decide +kernel
theorem dX4_tells_33 : decode cX4_tells 33 = .ok (.getfield 11, 3) := by decide +kernel
theorem dX4_tells_36 : decode cX4_tells 36 = .ok (.iload_n 1, 1) := by decide +kernel
theorem dX4_tells_37 : decode cX4_tells 37 = .ok (.aaload, 1) := by decide +kernel
theorem dX4_tells_38 : decode cX4_tells 38 = .ok (.iload_n 3, 1) := by decide +kernel
theorem dX4_tells_39 : decode cX4_tells 39 = .ok (.iaload, 1) := by decide +kernel
theorem dX4_tells_40 : decode cX4_tells 40 = .ok (.iconst (-1), 1) := by decide +kernel
theorem dX4_tells_41 : decode cX4_tells 41 = .ok (.if_icmp .eq 19, 3) := by decide +kernel
theorem dX4_tells_44 : decode cX4_tells 44 = .ok (.aload_n 0, 1) := by decide +kernel
theorem dX4_tells_45 : decode cX4_tells 45 = .ok (.getfield 11, 3) := by decide +kernel
theorem dX4_tells_48 : decode cX4_tells 48 = .ok (.iload_n 1, 1) := by decide +kernel
theorem dX4_tells_49 : decode cX4_tells 49 = .ok (.aaload, 1) := by decide +kernel
theorem dX4_tells_50 : decode cX4_tells 50 = .ok (.iload_n 3, 1) := by decide +kernel
theorem dX4_tells_51 : decode cX4_tells 51 = .ok (.iaload, 1) := by decide +kernel
theorem dX4_tells_52 : decode cX4_tells 52 = .ok (.aload_n 2, 1) := by decide +kernel
theorem dX4_tells_53 : decode cX4_tells 53 = .ok (.iload_n 3, 1) := by decide +kernel
theorem dX4_tells_54 : decode cX4_tells 54 = .ok (.iaload, 1) := by decide +kernel
theorem dX4_tells_55 : decode cX4_tells 55 = .ok (.if_icmp .eq 5, 3) := by decide +kernel
theorem dX4_tells_58 : decode cX4_tells 58 = .ok (.iconst 0, 1) := by decide +kernel
theorem dX4_tells_59 : decode cX4_tells 59 = .ok (.ireturn, 1) := by decide +kernel
theorem dX4_tells_60 : decode cX4_tells 60 = .ok (.iinc 3 1, 3) := by decide +kernel
theorem dX4_tells_63 : decode cX4_tells 63 = .ok (.goto (-41), 3) := by decide +kernel
theorem dX4_tells_66 : decode cX4_tells 66 = .ok (.iconst 1, 1) := by decide +kernel
theorem dX4_tells_67 : decode cX4_tells 67 = .ok (.ireturn, 1) := by decide +kernel
theorem dX5_init_0 : decode cX5_init 0 = .ok (.aload_n 0, 1) := by decide +kernel
theorem dX5_init_1 : decode cX5_init 1 = .ok (.invokespecial 3, 3) := by decide +kernel
theorem dX5_init_4 : decode cX5_init 4 = .ok (.aload_n 0, 1) := by decide +kernel
theorem dX5_init_5 : decode cX5_init 5 = .ok (.bipush 12, 2) := by decide +kernel
theorem dX5_init_7 : decode cX5_init 7 = .ok (.newarray .int, 2) := by decide +kernel
theorem dX5_init_9 : decode cX5_init 9 = .ok (.putfield 9, 3) := by decide +kernel
theorem dX5_init_12 : decode cX5_init 12 = .ok (.aload_n 0, 1) := by decide +kernel
theorem dX5_init_13 : decode cX5_init 13 = .ok (.iconst 0, 1) := by decide +kernel
theorem dX5_init_14 : decode cX5_init 14 = .ok (.putfield 15, 3) := by decide +kernel
theorem dX5_init_17 : decode cX5_init 17 = .ok (.aload_n 0, 1) := by decide +kernel
theorem dX5_init_18 : decode cX5_init 18 = .ok (.bipush 50, 2) := by decide +kernel
theorem dX5_init_20 : decode cX5_init 20 = .ok (.putfield 19, 3) := by decide +kernel
theorem dX5_init_23 : decode cX5_init 23 = .ok (.aload_n 0, 1) := by decide +kernel
theorem dX5_init_24 : decode cX5_init 24 = .ok (.bipush 30, 2) := by decide +kernel
theorem dX5_init_26 : decode cX5_init 26 = .ok (.putfield 22, 3) := by decide +kernel
theorem dX5_init_29 : decode cX5_init 29 = .ok (.aload_n 0, 1) := by decide +kernel
theorem dX5_init_30 : decode cX5_init 30 = .ok (.iconst 0, 1) := by decide +kernel
theorem dX5_init_31 : decode cX5_init 31 = .ok (.putfield 25, 3) := by decide +kernel
theorem dX5_init_34 : decode cX5_init 34 = .ok (.return_, 1) := by decide +kernel
theorem dX5_become_0 : decode cX5_become 0 = .ok (.aload_n 1, 1) := by decide +kernel
theorem dX5_become_1 : decode cX5_become 1 = .ok (.iload_n 2, 1) := by decide +kernel
theorem dX5_become_2 : decode cX5_become 2 = .ok (.invokevirtual 28, 3) := by decide +kernel
theorem dX5_become_5 : decode cX5_become 5 = .ok (.ifCond .eq 41, 3) := by decide +kernel
theorem dX5_become_8 : decode cX5_become 8 = .ok (.aload_n 0, 1) := by decide +kernel
theorem dX5_become_9 : decode cX5_become 9 = .ok (.aload_n 1, 1) := by decide +kernel
theorem dX5_become_10 : decode cX5_become 10 = .ok (.getfield 34, 3) := by decide +kernel
theorem dX5_become_13 : decode cX5_become 13 = .ok (.iload_n 2, 1) := by decide +kernel
theorem dX5_become_14 : decode cX5_become 14 = .ok (.iaload, 1) := by decide +kernel
theorem dX5_become_15 : decode cX5_become 15 = .ok (.putfield 15, 3) := by decide +kernel
theorem dX5_become_18 : decode cX5_become 18 = .ok (.aload_n 0, 1) := by decide +kernel
theorem dX5_become_19 : decode cX5_become 19 = .ok (.aload_n 1, 1) := by decide +kernel
theorem dX5_become_20 : decode cX5_become 20 = .ok (.getfield 37, 3) := by decide +kernel
theorem dX5_become_23 : decode cX5_become 23 = .ok (.iload_n 2, 1) := by decide +kernel
theorem dX5_become_24 : decode cX5_become 24 = .ok (.iaload, 1) := by decide +kernel
theorem dX5_become_25 : decode cX5_become 25 = .ok (.putfield 19, 3) := by decide +kernel
theorem dX5_become_28 : decode cX5_become 28 = .ok (.aload_n 0, 1) := by decide +kernel
theorem dX5_become_29 : decode cX5_become 29 = .ok (.aload_n 1, 1) := by decide +kernel
theorem dX5_become_30 : decode cX5_become 30 = .ok (.getfield 40, 3) := by decide +kernel
theorem dX5_become_33 : decode cX5_become 33 = .ok (.iload_n 2, 1) := by decide +kernel
theorem dX5_become_34 : decode cX5_become 34 = .ok (.iaload, 1) := by decide +kernel
theorem dX5_become_35 : decode cX5_become 35 = .ok (.putfield 22, 3) := by decide +kernel
theorem dX5_become_38 : decode cX5_become 38 = .ok (.aload_n 0, 1) := by decide +kernel
theorem dX5_become_39 : decode cX5_become 39 = .ok (.aload_n 1, 1) := by decide +kernel
theorem dX5_become_40 : decode cX5_become 40 = .ok (.getfield 43, 3) := by decide +kernel
theorem dX5_become_43 : decode cX5_become 43 = .ok (.putfield 25, 3) := by decide +kernel
theorem dX5_become_46 : decode cX5_become 46 = .ok (.return_, 1) := by decide +kernel
theorem dX5_layRow_0 : decode cX5_layRow 0 = .ok (.iconst 0, 1) := by decide +kernel
theorem dX5_layRow_1 : decode cX5_layRow 1 = .ok (.istore_n 2, 1) := by decide +kernel
theorem dX5_layRow_2 : decode cX5_layRow 2 = .ok (.iload_n 2, 1) := by decide +kernel
theorem dX5_layRow_3 : decode cX5_layRow 3 = .ok (.bipush 12, 2) := by decide +kernel
theorem dX5_layRow_5 : decode cX5_layRow 5 = .ok (.if_icmp .ge 24, 3) := by decide +kernel
theorem dX5_layRow_8 : decode cX5_layRow 8 = .ok (.iload_n 2, 1) := by decide +kernel
theorem dX5_layRow_9 : decode cX5_layRow 9 = .ok (.aload_n 1, 1) := by decide +kernel
theorem dX5_layRow_10 : decode cX5_layRow 10 = .ok (.arraylength, 1) := by decide +kernel
theorem dX5_layRow_11 : decode cX5_layRow 11 = .ok (.if_icmp .ge 18, 3) := by decide +kernel
theorem dX5_layRow_14 : decode cX5_layRow 14 = .ok (.aload_n 0, 1) := by decide +kernel
theorem dX5_layRow_15 : decode cX5_layRow 15 = .ok (.getfield 9, 3) := by decide +kernel
theorem dX5_layRow_18 : decode cX5_layRow 18 = .ok (.iload_n 2, 1) := by decide +kernel
theorem dX5_layRow_19 : decode cX5_layRow 19 = .ok (.aload_n 1, 1) := by decide +kernel
theorem dX5_layRow_20 : decode cX5_layRow 20 = .ok (.iload_n 2, 1) := by decide +kernel
theorem dX5_layRow_21 : decode cX5_layRow 21 = .ok (.iaload, 1) := by decide +kernel
theorem dX5_layRow_22 : decode cX5_layRow 22 = .ok (.iastore, 1) := by decide +kernel
theorem dX5_layRow_23 : decode cX5_layRow 23 = .ok (.iinc 2 1, 3) := by decide +kernel
theorem dX5_layRow_26 : decode cX5_layRow 26 = .ok (.goto (-24), 3) := by decide +kernel
theorem dX5_layRow_29 : decode cX5_layRow 29 = .ok (.return_, 1) := by decide +kernel
theorem dX5_go_0 : decode cX5_go 0 = .ok (.aload_n 0, 1) := by decide +kernel
theorem dX5_go_1 : decode cX5_go 1 = .ok (.getfield 19, 3) := by decide +kernel
theorem dX5_go_4 : decode cX5_go 4 = .ok (.istore_n 2, 1) := by decide +kernel
theorem dX5_go_5 : decode cX5_go 5 = .ok (.aload_n 0, 1) := by decide +kernel
theorem dX5_go_6 : decode cX5_go 6 = .ok (.getfield 15, 3) := by decide +kernel
theorem dX5_go_9 : decode cX5_go 9 = .ok (.aload_n 0, 1) := by decide +kernel
theorem dX5_go_10 : decode cX5_go 10 = .ok (.getfield 22, 3) := by decide +kernel
theorem dX5_go_13 : decode cX5_go 13 = .ok (.aload_n 0, 1) := by decide +kernel
theorem dX5_go_14 : decode cX5_go 14 = .ok (.getfield 25, 3) := by decide +kernel
theorem dX5_go_17 : decode cX5_go 17 = .ok (.invokestatic 44, 3) := by decide +kernel
theorem dX5_go_20 : decode cX5_go 20 = .ok (.istore_n 3, 1) := by decide +kernel
theorem dX5_go_21 : decode cX5_go 21 = .ok (.iconst 0, 1) := by decide +kernel
theorem dX5_go_22 : decode cX5_go 22 = .ok (.istore 4, 2) := by decide +kernel
theorem dX5_go_24 : decode cX5_go 24 = .ok (.iload 4, 2) := by decide +kernel
theorem dX5_go_26 : decode cX5_go 26 = .ok (.bipush 12, 2) := by decide +kernel
theorem dX5_go_28 : decode cX5_go 28 = .ok (.if_icmp .ge 89, 3) := by decide +kernel
theorem dX5_go_31 : decode cX5_go 31 = .ok (.iload 4, 2) := by decide +kernel
theorem dX5_go_33 : decode cX5_go 33 = .ok (.aload_n 1, 1) := by decide +kernel
theorem dX5_go_34 : decode cX5_go 34 = .ok (.arraylength, 1) := by decide +kernel
theorem dX5_go_35 : decode cX5_go 35 = .ok (.if_icmp .ge 82, 3) := by decide +kernel
theorem dX5_go_38 : decode cX5_go 38 = .ok (.aload_n 1, 1) := by decide +kernel
theorem dX5_go_39 : decode cX5_go 39 = .ok (.iload 4, 2) := by decide +kernel
theorem dX5_go_41 : decode cX5_go 41 = .ok (.iaload, 1) := by decide +kernel
theorem dX5_go_42 : decode cX5_go 42 = .ok (.istore 5, 2) := by decide +kernel
theorem dX5_go_44 : decode cX5_go 44 = .ok (.aload_n 0, 1) := by decide +kernel
theorem dX5_go_45 : decode cX5_go 45 = .ok (.getfield 19, 3) := by decide +kernel
theorem dX5_go_48 : decode cX5_go 48 = .ok (.iload 5, 2) := by decide +kernel
theorem dX5_go_50 : decode cX5_go 50 = .ok (.isub, 1) := by decide +kernel
theorem dX5_go_51 : decode cX5_go 51 = .ok (.invokestatic 50, 3) := by decide +kernel
theorem dX5_go_54 : decode cX5_go 54 = .ok (.iload_n 3, 1) := by decide +kernel
theorem dX5_go_55 : decode cX5_go 55 = .ok (.if_icmp .le 11, 3) := by decide +kernel
theorem dX5_go_58 : decode cX5_go 58 = .ok (.aload_n 0, 1) := by decide +kernel
theorem dX5_go_59 : decode cX5_go 59 = .ok (.iload_n 2, 1) := by decide +kernel
theorem dX5_go_60 : decode cX5_go 60 = .ok (.putfield 19, 3) := by decide +kernel
theorem dX5_go_63 : decode cX5_go 63 = .ok (.iload 4, 2) := by decide +kernel
theorem dX5_go_65 : decode cX5_go 65 = .ok (.ireturn, 1) := by decide +kernel
theorem dX5_go_66 : decode cX5_go 66 = .ok (.aload_n 1, 1) := by decide +kernel
theorem dX5_go_67 : decode cX5_go 67 = .ok (.iload 4, 2) := by decide +kernel
theorem dX5_go_69 : decode cX5_go 69 = .ok (.aload_n 0, 1) := by decide +kernel
theorem dX5_go_70 : decode cX5_go 70 = .ok (.getfield 15, 3) := by decide +kernel
theorem dX5_go_73 : decode cX5_go 73 = .ok (.aload_n 0, 1) := by decide +kernel
theorem dX5_go_74 : decode cX5_go 74 = .ok (.getfield 19, 3) := by decide +kernel
theorem dX5_go_77 : decode cX5_go 77 = .ok (.iload 5, 2) := by decide +kernel
theorem dX5_go_79 : decode cX5_go 79 = .ok (.invokestatic 56, 3) := by decide +kernel
theorem dX5_go_82 : decode cX5_go 82 = .ok (.invokestatic 59, 3) := by decide +kernel
theorem dX5_go_85 : decode cX5_go 85 = .ok (.iastore, 1) := by decide +kernel
theorem dX5_go_86 : decode cX5_go 86 = .ok (.aload_n 0, 1) := by decide +kernel
theorem dX5_go_87 : decode cX5_go 87 = .ok (.aload_n 0, 1) := by decide +kernel
theorem dX5_go_88 : decode cX5_go 88 = .ok (.getfield 19, 3) := by decide +kernel
theorem dX5_go_91 : decode cX5_go 91 = .ok (.aload_n 0, 1) := by decide +kernel
theorem dX5_go_92 : decode cX5_go 92 = .ok (.getfield 15, 3) := by decide +kernel
theorem dX5_go_95 : decode cX5_go 95 = .ok (.aload_n 0, 1) := by decide +kernel
theorem dX5_go_96 : decode cX5_go 96 = .ok (.getfield 19, 3) := by decide +kernel
theorem dX5_go_99 : decode cX5_go 99 = .ok (.iload 5, 2) := by decide +kernel
theorem dX5_go_101 : decode cX5_go 101 = .ok (.invokestatic 62, 3) := by decide +kernel
theorem dX5_go_104 : decode cX5_go 104 = .ok (.iadd, 1) := by decide +kernel
theorem dX5_go_105 : decode cX5_go 105 = .ok (.invokestatic 59, 3) := by decide +kernel
theorem dX5_go_108 : decode cX5_go 108 = .ok (.putfield 19, 3) := by decide +kernel
theorem dX5_go_111 : decode cX5_go 111 = .ok (.iinc 4 1, 3) := by decide +kernel
theorem dX5_go_114 : decode cX5_go 114 = .ok (.goto (-90), 3) := by decide +kernel
theorem dX5_go_117 : decode cX5_go 117 = .ok (.bipush 12, 2) := by decide +kernel
theorem dX5_go_119 : decode cX5_go 119 = .ok (.ireturn, 1) := by decide +kernel
theorem dJ6_bitCount_0f7a4_0 : decode cJ6_bitCount_0f7a4 0 = .ok (.iload_n 0, 1) := by decide +kernel
theorem dJ6_bitCount_0f7a4_1 : decode cJ6_bitCount_0f7a4 1 = .ok (.iload_n 0, 1) := by decide +kernel
theorem dJ6_bitCount_0f7a4_2 : decode cJ6_bitCount_0f7a4 2 = .ok (.iconst 1, 1) := by decide +kernel
theorem dJ6_bitCount_0f7a4_3 : decode cJ6_bitCount_0f7a4 3 = .ok (.iushr, 1) := by decide +kernel
theorem dJ6_bitCount_0f7a4_4 : decode cJ6_bitCount_0f7a4 4 = .ok (.ldc_w 265, 3) := by decide +kernel
theorem dJ6_bitCount_0f7a4_7 : decode cJ6_bitCount_0f7a4 7 = .ok (.iand, 1) := by decide +kernel
theorem dJ6_bitCount_0f7a4_8 : decode cJ6_bitCount_0f7a4 8 = .ok (.isub, 1) := by decide +kernel
theorem dJ6_bitCount_0f7a4_9 : decode cJ6_bitCount_0f7a4 9 = .ok (.istore_n 0, 1) := by decide +kernel
theorem dJ6_bitCount_0f7a4_10 : decode cJ6_bitCount_0f7a4 10 = .ok (.iload_n 0, 1) := by decide +kernel
theorem dJ6_bitCount_0f7a4_11 : decode cJ6_bitCount_0f7a4 11 = .ok (.ldc_w 266, 3) := by decide +kernel
theorem dJ6_bitCount_0f7a4_14 : decode cJ6_bitCount_0f7a4 14 = .ok (.iand, 1) := by decide +kernel
theorem dJ6_bitCount_0f7a4_15 : decode cJ6_bitCount_0f7a4 15 = .ok (.iload_n 0, 1) := by decide +kernel
theorem dJ6_bitCount_0f7a4_16 : decode cJ6_bitCount_0f7a4 16 = .ok (.iconst 2, 1) := by decide +kernel
theorem dJ6_bitCount_0f7a4_17 : decode cJ6_bitCount_0f7a4 17 = .ok (.iushr, 1) := by decide +kernel
theorem dJ6_bitCount_0f7a4_18 : decode cJ6_bitCount_0f7a4 18 = .ok (.ldc_w 266, 3) := by decide +kernel
theorem dJ6_bitCount_0f7a4_21 : decode cJ6_bitCount_0f7a4 21 = .ok (.iand, 1) := by decide +kernel
theorem dJ6_bitCount_0f7a4_22 : decode cJ6_bitCount_0f7a4 22 = .ok (.iadd, 1) := by decide +kernel
theorem dJ6_bitCount_0f7a4_23 : decode cJ6_bitCount_0f7a4 23 = .ok (.istore_n 0, 1) := by decide +kernel
theorem dJ6_bitCount_0f7a4_24 : decode cJ6_bitCount_0f7a4 24 = .ok (.iload_n 0, 1) := by decide +kernel
theorem dJ6_bitCount_0f7a4_25 : decode cJ6_bitCount_0f7a4 25 = .ok (.iload_n 0, 1) := by decide +kernel
theorem dJ6_bitCount_0f7a4_26 : decode cJ6_bitCount_0f7a4 26 = .ok (.iconst 4, 1) := by decide +kernel
theorem dJ6_bitCount_0f7a4_27 : decode cJ6_bitCount_0f7a4 27 = .ok (.iushr, 1) := by decide +kernel
theorem dJ6_bitCount_0f7a4_28 : decode cJ6_bitCount_0f7a4 28 = .ok (.iadd, 1) := by decide +kernel
theorem dJ6_bitCount_0f7a4_29 : decode cJ6_bitCount_0f7a4 29 = .ok (.ldc_w 267, 3) := by decide +kernel
theorem dJ6_bitCount_0f7a4_32 : decode cJ6_bitCount_0f7a4 32 = .ok (.iand, 1) := by decide +kernel
theorem dJ6_bitCount_0f7a4_33 : decode cJ6_bitCount_0f7a4 33 = .ok (.istore_n 0, 1) := by decide +kernel
theorem dJ6_bitCount_0f7a4_34 : decode cJ6_bitCount_0f7a4 34 = .ok (.iload_n 0, 1) := by decide +kernel
theorem dJ6_bitCount_0f7a4_35 : decode cJ6_bitCount_0f7a4 35 = .ok (.iload_n 0, 1) := by decide +kernel
theorem dJ6_bitCount_0f7a4_36 : decode cJ6_bitCount_0f7a4 36 = .ok (.bipush 8, 2) := by decide +kernel
theorem dJ6_bitCount_0f7a4_38 : decode cJ6_bitCount_0f7a4 38 = .ok (.iushr, 1) := by decide +kernel
theorem dJ6_bitCount_0f7a4_39 : decode cJ6_bitCount_0f7a4 39 = .ok (.iadd, 1) := by decide +kernel
theorem dJ6_bitCount_0f7a4_40 : decode cJ6_bitCount_0f7a4 40 = .ok (.istore_n 0, 1) := by decide +kernel
theorem dJ6_bitCount_0f7a4_41 : decode cJ6_bitCount_0f7a4 41 = .ok (.iload_n 0, 1) := by decide +kernel
theorem dJ6_bitCount_0f7a4_42 : decode cJ6_bitCount_0f7a4 42 = .ok (.iload_n 0, 1) := by decide +kernel
theorem dJ6_bitCount_0f7a4_43 : decode cJ6_bitCount_0f7a4 43 = .ok (.bipush 16, 2) := by decide +kernel
theorem dJ6_bitCount_0f7a4_45 : decode cJ6_bitCount_0f7a4 45 = .ok (.iushr, 1) := by decide +kernel
theorem dJ6_bitCount_0f7a4_46 : decode cJ6_bitCount_0f7a4 46 = .ok (.iadd, 1) := by decide +kernel
theorem dJ6_bitCount_0f7a4_47 : decode cJ6_bitCount_0f7a4 47 = .ok (.istore_n 0, 1) := by decide +kernel
theorem dJ6_bitCount_0f7a4_48 : decode cJ6_bitCount_0f7a4 48 = .ok (.iload_n 0, 1) := by decide +kernel
theorem dJ6_bitCount_0f7a4_49 : decode cJ6_bitCount_0f7a4 49 = .ok (.bipush 63, 2) := by decide +kernel
theorem dJ6_bitCount_0f7a4_51 : decode cJ6_bitCount_0f7a4 51 = .ok (.iand, 1) := by decide +kernel
theorem dJ6_bitCount_0f7a4_52 : decode cJ6_bitCount_0f7a4 52 = .ok (.ireturn, 1) := by decide +kernel
theorem dJ9_abs_0f7a4_0 : decode cJ9_abs_0f7a4 0 = .ok (.iload_n 0, 1) := by decide +kernel
theorem dJ9_abs_0f7a4_1 : decode cJ9_abs_0f7a4 1 = .ok (.ifCond .ge 8, 3) := by decide +kernel
theorem dJ9_abs_0f7a4_4 : decode cJ9_abs_0f7a4 4 = .ok (.iload_n 0, 1) := by decide +kernel
theorem dJ9_abs_0f7a4_5 : decode cJ9_abs_0f7a4 5 = .ok (.ineg, 1) := by decide +kernel
theorem dJ9_abs_0f7a4_6 : decode cJ9_abs_0f7a4 6 = .ok (.goto 4, 3) := by decide +kernel
theorem dJ9_abs_0f7a4_9 : decode cJ9_abs_0f7a4 9 = .ok (.iload_n 0, 1) := by decide +kernel
theorem dJ9_abs_0f7a4_10 : decode cJ9_abs_0f7a4 10 = .ok (.ireturn, 1) := by decide +kernel
theorem dJ9_max_7cf53_0 : decode cJ9_max_7cf53 0 = .ok (.iload_n 0, 1) := by decide +kernel
theorem dJ9_max_7cf53_1 : decode cJ9_max_7cf53 1 = .ok (.iload_n 1, 1) := by decide +kernel
theorem dJ9_max_7cf53_2 : decode cJ9_max_7cf53 2 = .ok (.if_icmp .lt 7, 3) := by decide +kernel
theorem dJ9_max_7cf53_5 : decode cJ9_max_7cf53 5 = .ok (.iload_n 0, 1) := by decide +kernel
theorem dJ9_max_7cf53_6 : decode cJ9_max_7cf53 6 = .ok (.goto 4, 3) := by decide +kernel
theorem dJ9_max_7cf53_9 : decode cJ9_max_7cf53 9 = .ok (.iload_n 1, 1) := by decide +kernel
theorem dJ9_max_7cf53_10 : decode cJ9_max_7cf53 10 = .ok (.ireturn, 1) := by decide +kernel
theorem dJ9_min_7cf53_0 : decode cJ9_min_7cf53 0 = .ok (.iload_n 0, 1) := by decide +kernel
theorem dJ9_min_7cf53_1 : decode cJ9_min_7cf53 1 = .ok (.iload_n 1, 1) := by decide +kernel
theorem dJ9_min_7cf53_2 : decode cJ9_min_7cf53 2 = .ok (.if_icmp .gt 7, 3) := by decide +kernel
theorem dJ9_min_7cf53_5 : decode cJ9_min_7cf53 5 = .ok (.iload_n 0, 1) := by decide +kernel
theorem dJ9_min_7cf53_6 : decode cJ9_min_7cf53 6 = .ok (.goto 4, 3) := by decide +kernel
theorem dJ9_min_7cf53_9 : decode cJ9_min_7cf53 9 = .ok (.iload_n 1, 1) := by decide +kernel
theorem dJ9_min_7cf53_10 : decode cJ9_min_7cf53 10 = .ok (.ireturn, 1) := by decide +kernel
theorem dJ0_length_8abf5_0 : decode cJ0_length_8abf5 0 = .ok (.aload_n 0, 1) := by decide +kernel
theorem dJ0_length_8abf5_1 : decode cJ0_length_8abf5 1 = .ok (.getfield 9, 3) := by decide +kernel
theorem dJ0_length_8abf5_4 : decode cJ0_length_8abf5 4 = .ok (.arraylength, 1) := by decide +kernel
theorem dJ0_length_8abf5_5 : decode cJ0_length_8abf5 5 = .ok (.aload_n 0, 1) := by decide +kernel
theorem dJ0_length_8abf5_6 : decode cJ0_length_8abf5 6 = .ok (.invokevirtual 335, 3) := by decide +kernel
theorem dJ0_length_8abf5_9 : decode cJ0_length_8abf5 9 = .ok (.ishr, 1) := by decide +kernel
theorem dJ0_length_8abf5_10 : decode cJ0_length_8abf5 10 = .ok (.ireturn, 1) := by decide +kernel
theorem dJ0_charAt_5068e_0 : decode cJ0_charAt_5068e 0 = .ok (.aload_n 0, 1) := by decide +kernel
theorem dJ0_charAt_5068e_1 : decode cJ0_charAt_5068e 1 = .ok (.invokevirtual 492, 3) := by decide +kernel
theorem dJ0_charAt_5068e_4 : decode cJ0_charAt_5068e 4 = .ok (.ifCond .eq 12, 3) := by decide +kernel
theorem dJ0_charAt_5068e_7 : decode cJ0_charAt_5068e 7 = .ok (.aload_n 0, 1) := by decide +kernel
theorem dJ0_charAt_5068e_8 : decode cJ0_charAt_5068e 8 = .ok (.getfield 9, 3) := by decide +kernel
theorem dJ0_charAt_5068e_11 : decode cJ0_charAt_5068e 11 = .ok (.iload_n 1, 1) := by decide +kernel
theorem dJ0_charAt_5068e_12 : decode cJ0_charAt_5068e 12 = .ok (.invokestatic 495, 3) := by decide +kernel
theorem dJ0_charAt_5068e_15 : decode cJ0_charAt_5068e 15 = .ok (.ireturn, 1) := by decide +kernel
theorem dJ0_charAt_5068e_16 : decode cJ0_charAt_5068e 16 = .ok (.aload_n 0, 1) := by decide +kernel
theorem dJ0_charAt_5068e_17 : decode cJ0_charAt_5068e 17 = .ok (.getfield 9, 3) := by decide +kernel
theorem dJ0_charAt_5068e_20 : decode cJ0_charAt_5068e 20 = .ok (.iload_n 1, 1) := by decide +kernel
theorem dJ0_charAt_5068e_21 : decode cJ0_charAt_5068e 21 = .ok (.invokestatic 498, 3) := by decide +kernel
theorem dJ0_charAt_5068e_24 : decode cJ0_charAt_5068e 24 = .ok (.ireturn, 1) := by decide +kernel
theorem dJ0_coder_7d493_0 : decode cJ0_coder_7d493 0 = .ok (.getstatic 38, 3) := by decide +kernel
theorem dJ0_coder_7d493_3 : decode cJ0_coder_7d493 3 = .ok (.ifCond .eq 10, 3) := by decide +kernel
theorem dJ0_coder_7d493_6 : decode cJ0_coder_7d493 6 = .ok (.aload_n 0, 1) := by decide +kernel
theorem dJ0_coder_7d493_7 : decode cJ0_coder_7d493 7 = .ok (.getfield 15, 3) := by decide +kernel
theorem dJ0_coder_7d493_10 : decode cJ0_coder_7d493 10 = .ok (.goto 4, 3) := by decide +kernel
theorem dJ0_coder_7d493_13 : decode cJ0_coder_7d493 13 = .ok (.iconst 1, 1) := by decide +kernel
theorem dJ0_coder_7d493_14 : decode cJ0_coder_7d493 14 = .ok (.ireturn, 1) := by decide +kernel
theorem dJ0_isLatin1_aae02_0 : decode cJ0_isLatin1_aae02 0 = .ok (.getstatic 38, 3) := by decide +kernel
theorem dJ0_isLatin1_aae02_3 : decode cJ0_isLatin1_aae02 3 = .ok (.ifCond .eq 14, 3) := by decide +kernel
theorem dJ0_isLatin1_aae02_6 : decode cJ0_isLatin1_aae02 6 = .ok (.aload_n 0, 1) := by decide +kernel
theorem dJ0_isLatin1_aae02_7 : decode cJ0_isLatin1_aae02 7 = .ok (.getfield 15, 3) := by decide +kernel
theorem dJ0_isLatin1_aae02_10 : decode cJ0_isLatin1_aae02 10 = .ok (.ifCond .ne 7, 3) := by decide +kernel
theorem dJ0_isLatin1_aae02_13 : decode cJ0_isLatin1_aae02 13 = .ok (.iconst 1, 1) := by decide +kernel
theorem dJ0_isLatin1_aae02_14 : decode cJ0_isLatin1_aae02 14 = .ok (.goto 4, 3) := by decide +kernel
theorem dJ0_isLatin1_aae02_17 : decode cJ0_isLatin1_aae02 17 = .ok (.iconst 0, 1) := by decide +kernel
theorem dJ0_isLatin1_aae02_18 : decode cJ0_isLatin1_aae02 18 = .ok (.ireturn, 1) := by decide +kernel
theorem dJ0_checkIndex_df160_0 : decode cJ0_checkIndex_df160 0 = .ok (.iload_n 0, 1) := by decide +kernel
theorem dJ0_checkIndex_df160_1 : decode cJ0_checkIndex_df160 1 = .ok (.iload_n 1, 1) := by decide +kernel
theorem dJ0_checkIndex_df160_2 : decode cJ0_checkIndex_df160 2 = .ok (.getstatic 1053, 3) := by decide +kernel
theorem dJ0_checkIndex_df160_5 : decode cJ0_checkIndex_df160 5 = .ok (.invokestatic 1059, 3) := by decide +kernel
theorem dJ0_checkIndex_df160_8 : decode cJ0_checkIndex_df160 8 = .ok (.pop, 1) := by decide +kernel
theorem dJ0_checkIndex_df160_9 : decode cJ0_checkIndex_df160 9 = .ok (.return_, 1) := by decide +kernel
theorem dJ1_charAt_3b067_0 : decode cJ1_charAt_3b067 0 = .ok (.iload_n 1, 1) := by decide +kernel
theorem dJ1_charAt_3b067_1 : decode cJ1_charAt_3b067 1 = .ok (.aload_n 0, 1) := by decide +kernel
theorem dJ1_charAt_3b067_2 : decode cJ1_charAt_3b067 2 = .ok (.arraylength, 1) := by decide +kernel
theorem dJ1_charAt_3b067_3 : decode cJ1_charAt_3b067 3 = .ok (.invokestatic 9, 3) := by decide +kernel
theorem dJ1_charAt_3b067_6 : decode cJ1_charAt_3b067 6 = .ok (.aload_n 0, 1) := by decide +kernel
theorem dJ1_charAt_3b067_7 : decode cJ1_charAt_3b067 7 = .ok (.iload_n 1, 1) := by decide +kernel
theorem dJ1_charAt_3b067_8 : decode cJ1_charAt_3b067 8 = .ok (.baload, 1) := by decide +kernel
theorem dJ1_charAt_3b067_9 : decode cJ1_charAt_3b067 9 = .ok (.sipush 255, 3) := by decide +kernel
theorem dJ1_charAt_3b067_12 : decode cJ1_charAt_3b067 12 = .ok (.iand, 1) := by decide +kernel
theorem dJ1_charAt_3b067_13 : decode cJ1_charAt_3b067 13 = .ok (.i2c, 1) := by decide +kernel
theorem dJ1_charAt_3b067_14 : decode cJ1_charAt_3b067 14 = .ok (.ireturn, 1) := by decide +kernel
theorem dJ2_getChar_3b067_0 : decode cJ2_getChar_3b067 0 = .ok (.getstatic 44, 3) := by decide +kernel
theorem dJ2_getChar_3b067_3 : decode cJ2_getChar_3b067 3 = .ok (.ifCond .ne 25, 3) := by decide +kernel
theorem dJ2_getChar_3b067_6 : decode cJ2_getChar_3b067 6 = .ok (.iload_n 1, 1) := by decide +kernel
theorem dJ2_getChar_3b067_7 : decode cJ2_getChar_3b067 7 = .ok (.ifCond .lt 11, 3) := by decide +kernel
theorem dJ2_getChar_3b067_10 : decode cJ2_getChar_3b067 10 = .ok (.iload_n 1, 1) := by decide +kernel
theorem dJ2_getChar_3b067_11 : decode cJ2_getChar_3b067 11 = .ok (.aload_n 0, 1) := by decide +kernel
theorem dJ2_getChar_3b067_12 : decode cJ2_getChar_3b067 12 = .ok (.invokestatic 48, 3) := by decide +kernel
theorem dJ2_getChar_3b067_15 : decode cJ2_getChar_3b067 15 = .ok (.if_icmp .lt 13, 3) := by decide +kernel
theorem dJ2_getChar_3b067_18 : decode cJ2_getChar_3b067 18 = .ok (.new 52, 3) := by decide +kernel
theorem dJ2_getChar_3b067_21 : decode cJ2_getChar_3b067 21 = .ok (.dup, 1) := by decide +kernel
theorem dJ2_getChar_3b067_22 : decode cJ2_getChar_3b067 22 = .ok (.ldc 54, 2) := by decide +kernel
theorem dJ2_getChar_3b067_24 : decode cJ2_getChar_3b067 24 = .ok (.invokespecial 56, 3) := by decide +kernel
theorem dJ2_getChar_3b067_27 : decode cJ2_getChar_3b067 27 = .ok (.athrow, 1) := by decide +kernel
theorem dJ2_getChar_3b067_28 : decode cJ2_getChar_3b067 28 = .ok (.iload_n 1, 1) := by decide +kernel
theorem dJ2_getChar_3b067_29 : decode cJ2_getChar_3b067 29 = .ok (.iconst 1, 1) := by decide +kernel
theorem dJ2_getChar_3b067_30 : decode cJ2_getChar_3b067 30 = .ok (.ishl, 1) := by decide +kernel
theorem dJ2_getChar_3b067_31 : decode cJ2_getChar_3b067 31 = .ok (.istore_n 1, 1) := by decide +kernel
theorem dJ2_getChar_3b067_32 : decode cJ2_getChar_3b067 32 = .ok (.aload_n 0, 1) := by decide +kernel
theorem dJ2_getChar_3b067_33 : decode cJ2_getChar_3b067 33 = .ok (.iload_n 1, 1) := by decide +kernel
theorem dJ2_getChar_3b067_34 : decode cJ2_getChar_3b067 34 = .ok (.iinc 1 1, 3) := by decide +kernel
theorem dJ2_getChar_3b067_37 : decode cJ2_getChar_3b067 37 = .ok (.baload, 1) := by decide +kernel
theorem dJ2_getChar_3b067_38 : decode cJ2_getChar_3b067 38 = .ok (.sipush 255, 3) := by decide +kernel
theorem dJ2_getChar_3b067_41 : decode cJ2_getChar_3b067 41 = .ok (.iand, 1) := by decide +kernel
theorem dJ2_getChar_3b067_42 : decode cJ2_getChar_3b067 42 = .ok (.getstatic 59, 3) := by decide +kernel
theorem dJ2_getChar_3b067_45 : decode cJ2_getChar_3b067 45 = .ok (.ishl, 1) := by decide +kernel
theorem dJ2_getChar_3b067_46 : decode cJ2_getChar_3b067 46 = .ok (.aload_n 0, 1) := by decide +kernel
theorem dJ2_getChar_3b067_47 : decode cJ2_getChar_3b067 47 = .ok (.iload_n 1, 1) := by decide +kernel
theorem dJ2_getChar_3b067_48 : decode cJ2_getChar_3b067 48 = .ok (.baload, 1) := by decide +kernel
theorem dJ2_getChar_3b067_49 : decode cJ2_getChar_3b067 49 = .ok (.sipush 255, 3) := by decide +kernel
theorem dJ2_getChar_3b067_52 : decode cJ2_getChar_3b067 52 = .ok (.iand, 1) := by decide +kernel
theorem dJ2_getChar_3b067_53 : decode cJ2_getChar_3b067 53 = .ok (.getstatic 63, 3) := by decide +kernel
theorem dJ2_getChar_3b067_56 : decode cJ2_getChar_3b067 56 = .ok (.ishl, 1) := by decide +kernel
theorem dJ2_getChar_3b067_57 : decode cJ2_getChar_3b067 57 = .ok (.ior, 1) := by decide +kernel
theorem dJ2_getChar_3b067_58 : decode cJ2_getChar_3b067 58 = .ok (.i2c, 1) := by decide +kernel
theorem dJ2_getChar_3b067_59 : decode cJ2_getChar_3b067 59 = .ok (.ireturn, 1) := by decide +kernel
theorem dJ2_length_9d52b_0 : decode cJ2_length_9d52b 0 = .ok (.aload_n 0, 1) := by decide +kernel
theorem dJ2_length_9d52b_1 : decode cJ2_length_9d52b 1 = .ok (.arraylength, 1) := by decide +kernel
theorem dJ2_length_9d52b_2 : decode cJ2_length_9d52b 2 = .ok (.iconst 1, 1) := by decide +kernel
theorem dJ2_length_9d52b_3 : decode cJ2_length_9d52b 3 = .ok (.ishr, 1) := by decide +kernel
theorem dJ2_length_9d52b_4 : decode cJ2_length_9d52b 4 = .ok (.ireturn, 1) := by decide +kernel
theorem dJ2_charAt_3b067_0 : decode cJ2_charAt_3b067 0 = .ok (.iload_n 1, 1) := by decide +kernel
theorem dJ2_charAt_3b067_1 : decode cJ2_charAt_3b067 1 = .ok (.aload_n 0, 1) := by decide +kernel
theorem dJ2_charAt_3b067_2 : decode cJ2_charAt_3b067 2 = .ok (.invokestatic 67, 3) := by decide +kernel
theorem dJ2_charAt_3b067_5 : decode cJ2_charAt_3b067 5 = .ok (.aload_n 0, 1) := by decide +kernel
theorem dJ2_charAt_3b067_6 : decode cJ2_charAt_3b067 6 = .ok (.iload_n 1, 1) := by decide +kernel
theorem dJ2_charAt_3b067_7 : decode cJ2_charAt_3b067 7 = .ok (.invokestatic 71, 3) := by decide +kernel
theorem dJ2_charAt_3b067_10 : decode cJ2_charAt_3b067 10 = .ok (.ireturn, 1) := by decide +kernel
theorem dJ2_checkIndex_2214a_0 : decode cJ2_checkIndex_2214a 0 = .ok (.iload_n 0, 1) := by decide +kernel
theorem dJ2_checkIndex_2214a_1 : decode cJ2_checkIndex_2214a 1 = .ok (.aload_n 1, 1) := by decide +kernel
theorem dJ2_checkIndex_2214a_2 : decode cJ2_checkIndex_2214a 2 = .ok (.invokestatic 48, 3) := by decide +kernel
theorem dJ2_checkIndex_2214a_5 : decode cJ2_checkIndex_2214a 5 = .ok (.invokestatic 414, 3) := by decide +kernel
theorem dJ2_checkIndex_2214a_8 : decode cJ2_checkIndex_2214a 8 = .ok (.return_, 1) := by decide +kernel
theorem dJ3_checkIndex_8e157_0 : decode cJ3_checkIndex_8e157 0 = .ok (.iload_n 0, 1) := by decide +kernel
theorem dJ3_checkIndex_8e157_1 : decode cJ3_checkIndex_8e157 1 = .ok (.ifCond .lt 8, 3) := by decide +kernel
theorem dJ3_checkIndex_8e157_4 : decode cJ3_checkIndex_8e157 4 = .ok (.iload_n 0, 1) := by decide +kernel
theorem dJ3_checkIndex_8e157_5 : decode cJ3_checkIndex_8e157 5 = .ok (.iload_n 1, 1) := by decide +kernel
theorem dJ3_checkIndex_8e157_6 : decode cJ3_checkIndex_8e157 6 = .ok (.if_icmp .lt 10, 3) := by decide +kernel
theorem dJ3_checkIndex_8e157_9 : decode cJ3_checkIndex_8e157 9 = .ok (.aload_n 2, 1) := by decide +kernel
theorem dJ3_checkIndex_8e157_10 : decode cJ3_checkIndex_8e157 10 = .ok (.iload_n 0, 1) := by decide +kernel
theorem dJ3_checkIndex_8e157_11 : decode cJ3_checkIndex_8e157 11 = .ok (.iload_n 1, 1) := by decide +kernel
theorem dJ3_checkIndex_8e157_12 : decode cJ3_checkIndex_8e157 12 = .ok (.invokestatic 95, 3) := by decide +kernel
theorem dJ3_checkIndex_8e157_15 : decode cJ3_checkIndex_8e157 15 = .ok (.athrow, 1) := by decide +kernel
theorem dJ3_checkIndex_8e157_16 : decode cJ3_checkIndex_8e157 16 = .ok (.iload_n 0, 1) := by decide +kernel
theorem dJ3_checkIndex_8e157_17 : decode cJ3_checkIndex_8e157 17 = .ok (.ireturn, 1) := by decide +kernel
end
section
/-! LINKS: methods by number, and what the pools mean; checked against the tables by their places -/
abbrev MI : Type := Nat × MethodName × ByteArray × Nat × Option FieldType
def mtab : List MI := [
  (0, yX0_init, cX0_init, 2, none),
  (0, yX0_become, cX0_become, 2, none),
  (0, yX0_has, cX0_has, 2, (some .boolean)),
  (0, yX0_hasAll, cX0_hasAll, 2, (some .boolean)),
  (0, yX0_isFull, cX0_isFull, 1, (some .boolean)),
  (0, yX0_add, cX0_add, 4, (some .int)),
  (0, yX0_bears, cX0_bears, 2, (some .int)),
  (0, yX0_unfit, cX0_unfit, 5, (some .int)),
  (0, yX0_draw, cX0_draw, 1, (some .int)),
  (0, yX0_heldSpots, cX0_heldSpots, 3, (some .int)),
  (1, yX1_bears, cX1_bears, 3, (some .int)),
  (1, yX1_sway, cX1_sway, 4, (some .int)),
  (1, yX1_footprint, cX1_footprint, 3, (some .int)),
  (1, yX1_isUnder, cX1_isUnder, 4, (some .boolean)),
  (2, yX2_init, cX2_init, 1, none),
  (2, yX2_findOrder, cX2_findOrder, 3, (some .boolean)),
  (2, yX2_countOrders, cX2_countOrders, 3, (some .int)),
  (2, yX2_countFalls, cX2_countFalls, 3, (some .int)),
  (2, yX2_findGreatest, cX2_findGreatest, 2, (some .int)),
  (2, yX2_placed, cX2_placed, 2, (some .int)),
  (2, yX2_begin, cX2_begin, 2, none),
  (2, yX2_crosses, cX2_crosses, 3, (some .boolean)),
  (2, yX2_findFirst, cX2_findFirst, 4, (some .boolean)),
  (2, yX2_countSafe, cX2_countSafe, 5, (some .int)),
  (2, yX2_fewestFalls, cX2_fewestFalls, 6, (some .int)),
  (2, yX2_greatest, cX2_greatest, 7, (some .int)),
  (2, yX2_greater, cX2_greater, 3, (some .int)),
  (3, yX3_init, cX3_init, 1, none),
  (3, yX3_put, cX3_put, 2, none),
  (3, yX3_read, cX3_read, 3, (some .int)),
  (3, yX3_place, cX3_place, 1, (some .int)),
  (3, yX3_look, cX3_look, 3, none),
  (3, yX3_readItem, cX3_readItem, 2, (some .boolean)),
  (3, yX3_readWalker, cX3_readWalker, 5, (some .boolean)),
  (3, yX3_readPlank, cX3_readPlank, 3, (some .boolean)),
  (3, yX3_readNew, cX3_readNew, 2, (some .boolean)),
  (3, yX3_isWord, cX3_isWord, 2, (some .boolean)),
  (3, yX3_isNumber, cX3_isNumber, 2, (some .boolean)),
  (3, yX3_split, cX3_split, 5, none),
  (3, yX3_sortOf, cX3_sortOf, 1, (some .int)),
  (3, yX3_begin, cX3_begin, 3, none),
  (3, yX3_grow, cX3_grow, 3, none),
  (3, yX3_nameWords, cX3_nameWords, 2, none),
  (3, yX3_wordNumber, cX3_wordNumber, 3, (some .int)),
  (3, yX3_spells, cX3_spells, 5, (some .boolean)),
  (4, yX4_init, cX4_init, 1, none),
  (4, yX4_finding, cX4_finding, 2, (some .int)),
  (4, yX4_renew, cX4_renew, 5, none),
  (4, yX4_put, cX4_put, 4, none),
  (4, yX4_hasPart, cX4_hasPart, 4, (some .boolean)),
  (4, yX4_tells, cX4_tells, 4, (some .boolean)),
  (5, yX5_init, cX5_init, 1, none),
  (5, yX5_become, cX5_become, 3, none),
  (5, yX5_layRow, cX5_layRow, 3, none),
  (5, yX5_go, cX5_go, 6, (some .int)),
  (6, yX6_init, cX6_init, 1, none),
  (6, yX6_plank, cX6_plank, 4, (some .int)),
  (6, yX6_keeps, cX6_keeps, 2, (some .int)),
  (6, yX6_walker, cX6_walker, 3, (some .int)),
  (6, yX6_of, cX6_of, 3, (some .int)),
  (6, yX6_change, cX6_change, 4, (some .int)),
  (6, yX6_night, cX6_night, 3, (some .int)),
  (6, yX6_cross, cX6_cross, 2, (some .int)),
  (6, yX6_crowd, cX6_crowd, 4, (some .int)),
  (6, yX6_now, cX6_now, 2, (some .int)),
  (6, yX6_would, cX6_would, 2, (some .int)),
  (6, yX6_becomes, cX6_becomes, 2, (some .int)),
  (6, yX6_leaves, cX6_leaves, 3, (some .int)),
  (6, yX6_after, cX6_after, 3, (some .int)),
  (6, yX6_often, cX6_often, 3, (some .int)),
  (6, yX6_balanceFor, cX6_balanceFor, 3, (some .int)),
  (6, yX6_gaits, cX6_gaits, 4, (some .int)),
  (6, yX6_gaitFor, cX6_gaitFor, 3, (some .int)),
  (6, yX6_kindsFor, cX6_kindsFor, 4, (some .int)),
  (6, yX6_order, cX6_order, 3, (some .int)),
  (6, yX6_orders, cX6_orders, 2, (some .int)),
  (6, yX6_fewest, cX6_fewest, 2, (some .int)),
  (6, yX6_most, cX6_most, 1, (some .int)),
  (6, yX6_lay, cX6_lay, 4, (some .int)),
  (6, yX6_best, cX6_best, 6, (some .int)),
  (6, yX6_unlike, cX6_unlike, 3, (some .int)),
  (6, yX6_taken, cX6_taken, 6, (some .int)),
  (6, yX6_fits, cX6_fits, 6, (some .int)),
  (6, yX6_gait, cX6_gait, 5, (some .int)),
  (6, yX6_who, cX6_who, 5, (some .int)),
  (6, yX6_strangers, cX6_strangers, 5, (some .int)),
  (6, yX6_odds, cX6_odds, 6, (some .long)),
  (6, yX6_seed, cX6_seed, 3, (some .int)),
  (6, yX6_feed, cX6_feed, 4, (some .int)),
  (6, yX6_wipe, cX6_wipe, 2, (some .int)),
  (6, yX6_text, cX6_text, 2, (some .int)),
  (6, yX6_hold, cX6_hold, 3, (some .int)),
  (6, yX6_as, cX6_as, 4, (some .int)),
  (6, yX6_sheet, cX6_sheet, 4, (some .int)),
  (6, yX6_write, cX6_write, 5, (some .int)),
  (6, yX6_copy, cX6_copy, 6, (some .int)),
  (6, yX6_load, cX6_load, 4, (some .int)),
  (6, yX6_judge, cX6_judge, 6, (some .int)),
  (6, yX6_image, cX6_image, 1, (some .int)),
  (6, yX6_undo, cX6_undo, 1, (some .int)),
  (6, yX6_tear, cX6_tear, 2, (some .int)),
  (6, yX6_count, cX6_count, 2, (some .int)),
  (6, yX6_status, cX6_status, 2, (some .int)),
  (6, yX6_tell, cX6_tell, 3, (some .int)),
  (6, yX6_isPlank, cX6_isPlank, 1, (some .boolean)),
  (6, yX6_isGait, cX6_isGait, 1, (some .boolean)),
  (6, yX6_isKind, cX6_isKind, 1, (some .boolean)),
  (6, yX6_isSpot, cX6_isSpot, 1, (some .boolean)),
  (6, yX6_isSheet, cX6_isSheet, 1, (some .boolean)),
  (6, yX6_isIn, cX6_isIn, 2, (some .boolean)),
  (6, yX6_held, cX6_held, 1, (some .int)),
  (6, yX6_sum, cX6_sum, 4, (some .int)),
  (6, yX6_replace, cX6_replace, 4, (some .int)),
  (6, yX6_reallyCross, cX6_reallyCross, 3, (some .int)),
  (6, yX6_fallers, cX6_fallers, 3, (some .int)),
  (6, yX6_prepare, cX6_prepare, 2, none),
  (6, yX6_tryWalk, cX6_tryWalk, 2, (some .int)),
  (6, yX6_tryGait, cX6_tryGait, 3, (some .int)),
  (6, yX6_crossesLaid, cX6_crossesLaid, 4, (some .boolean)),
  (6, yX6_layMore, cX6_layMore, 7, (some .int)),
  (6, yX6_difference, cX6_difference, 5, (some .int)),
  (6, yX6_swayFinding, cX6_swayFinding, 4, (some .int)),
  (6, yX6_commonDivisor, cX6_commonDivisor, 6, (some .int)),
  (6, yX6_power, cX6_power, 6, (some .long)),
  (7, yX7_init, cX7_init, 2, none),
  (7, yX7_finding, cX7_finding, 2, (some .int)),
  (7, yX7_within, cX7_within, 3, (some .boolean)),
  (7, yX7_become, cX7_become, 4, (some .int)),
  (7, yX7_copyRow, cX7_copyRow, 3, none),
  (7, yX7_putBack, cX7_putBack, 2, (some .int)),
  (7, yX7_orNone, cX7_orNone, 2, (some .int)),
  (7, yX7_has, cX7_has, 2, (some .boolean)),
  (7, yX7_bits, cX7_bits, 3, (some .int)),
  (7, yX7_held, cX7_held, 1, (some .int)),
  (7, yX7_isPlank, cX7_isPlank, 1, (some .boolean)),
  (7, yX7_isGait, cX7_isGait, 1, (some .boolean)),
  (7, yX7_isWalker, cX7_isWalker, 2, (some .boolean)),
  (7, yX7_isKind, cX7_isKind, 1, (some .boolean)),
  (7, yX7_place, cX7_place, 2, (some .int)),
  (7, yX7_walkerIs, cX7_walkerIs, 3, (some .int)),
  (7, yX7_plank, cX7_plank, 3, (some .int)),
  (7, yX7_keeps, cX7_keeps, 2, (some .int)),
  (7, yX7_comes, cX7_comes, 5, (some .int)),
  (7, yX7_walker, cX7_walker, 3, (some .int)),
  (7, yX7_bears, cX7_bears, 4, (some .int)),
  (7, yX7_doesFall, cX7_doesFall, 3, (some .boolean)),
  (7, yX7_fallsOn, cX7_fallsOn, 4, (some .int)),
  (7, yX7_of, cX7_of, 3, (some .int)),
  (7, yX7_mayBe, cX7_mayBe, 2, (some .boolean)),
  (7, yX7_change, cX7_change, 4, (some .int)),
  (7, yX7_night, cX7_night, 2, (some .int)),
  (7, yX7_changedBy, cX7_changedBy, 4, (some .int)),
  (7, yX7_keptOf, cX7_keptOf, 3, (some .int)),
  (7, yX7_crosses, cX7_crosses, 7, (some .int)),
  (7, yX7_cross, cX7_cross, 2, (some .int)),
  (7, yX7_isSet, cX7_isSet, 2, (some .boolean)),
  (7, yX7_crowd, cX7_crowd, 4, (some .int)),
  (7, yX7_sumOf, cX7_sumOf, 4, (some .int)),
  (7, yX7_keptAll, cX7_keptAll, 3, (some .int)),
  (7, yX7_wouldCross, cX7_wouldCross, 2, (some .int)),
  (7, yX7_wouldFall, cX7_wouldFall, 3, (some .int)),
  (7, yX7_now, cX7_now, 2, (some .int)),
  (7, yX7_would, cX7_would, 2, (some .int)),
  (7, yX7_behind, cX7_behind, 4, (some .int)),
  (7, yX7_becomes, cX7_becomes, 2, (some .int)),
  (7, yX7_leaves, cX7_leaves, 3, (some .int)),
  (7, yX7_areTwo, cX7_areTwo, 3, (some .boolean)),
  (7, yX7_after, cX7_after, 4, (some .int)),
  (7, yX7_often, cX7_often, 3, (some .int)),
  (7, yX7_crossing, cX7_crossing, 7, (some .int)),
  (7, yX7_leastCrossing, cX7_leastCrossing, 7, (some .int)),
  (7, yX7_balanceFor, cX7_balanceFor, 2, (some .int)),
  (7, yX7_gaits, cX7_gaits, 2, (some .int)),
  (7, yX7_gaitFor, cX7_gaitFor, 2, (some .int)),
  (7, yX7_kindsFor, cX7_kindsFor, 5, (some .int)),
  (7, yX7_lay0, cX7_lay0, 3, none),
  (7, yX7_layBack, cX7_layBack, 3, none),
  (7, yX7_goThrough, cX7_goThrough, 7, none),
  (7, yX7_findOrders, cX7_findOrders, 3, none),
  (7, yX7_order, cX7_order, 3, (some .int)),
  (7, yX7_orders, cX7_orders, 2, (some .int)),
  (7, yX7_fewest, cX7_fewest, 2, (some .int)),
  (7, yX7_most, cX7_most, 3, (some .int)),
  (7, yX7_layNew, cX7_layNew, 3, none),
  (7, yX7_lay, cX7_lay, 4, (some .int)),
  (7, yX7_best, cX7_best, 6, (some .int)),
  (7, yX7_unlikeOf, cX7_unlikeOf, 5, (some .int)),
  (7, yX7_unlike, cX7_unlike, 3, (some .int)),
  (7, yX7_taken, cX7_taken, 6, (some .int)),
  (7, yX7_lacks, cX7_lacks, 2, (some .int)),
  (7, yX7_lacksFor, cX7_lacksFor, 3, (some .int)),
  (7, yX7_swaysSo, cX7_swaysSo, 7, (some .boolean)),
  (7, yX7_fitting, cX7_fitting, 8, (some .int)),
  (7, yX7_fits, cX7_fits, 4, (some .int)),
  (7, yX7_gait, cX7_gait, 3, (some .int)),
  (7, yX7_who, cX7_who, 4, (some .int)),
  (7, yX7_drawn, cX7_drawn, 1, (some .int)),
  (7, yX7_strangers, cX7_strangers, 4, (some .int)),
  (7, yX7_odds, cX7_odds, 10, (some .long)),
  (7, yX7_seed, cX7_seed, 2, (some .int)),
  (7, yX7_feed, cX7_feed, 4, (some .int)),
  (7, yX7_wipe, cX7_wipe, 2, (some .int)),
  (7, yX7_byteAt, cX7_byteAt, 2, (some .int)),
  (7, yX7_next, cX7_next, 2, none),
  (7, yX7_isWord, cX7_isWord, 4, (some .boolean)),
  (7, yX7_must, cX7_must, 2, none),
  (7, yX7_number, cX7_number, 4, (some .int)),
  (7, yX7_addItem, cX7_addItem, 5, none),
  (7, yX7_kindTold, cX7_kindTold, 3, (some .int)),
  (7, yX7_afterWord, cX7_afterWord, 3, (some .int)),
  (7, yX7_readItem, cX7_readItem, 3, none),
  (7, yX7_isToldSo, cX7_isToldSo, 4, (some .int)),
  (7, yX7_text, cX7_text, 3, (some .int)),
  (7, yX7_isSpot, cX7_isSpot, 1, (some .boolean)),
  (7, yX7_hold, cX7_hold, 3, (some .int)),
  (7, yX7_as, cX7_as, 4, (some .int)),
  (7, yX7_isSheet, cX7_isSheet, 1, (some .boolean)),
  (7, yX7_cutTo, cX7_cutTo, 2, (some .int)),
  (7, yX7_sheet, cX7_sheet, 5, (some .int)),
  (7, yX7_write, cX7_write, 4, (some .int)),
  (7, yX7_copy, cX7_copy, 7, (some .int)),
  (7, yX7_above, cX7_above, 1, (some .int)),
  (7, yX7_isUnder, cX7_isUnder, 3, (some .boolean)),
  (7, yX7_load, cX7_load, 3, (some .int)),
  (7, yX7_judge, cX7_judge, 6, (some .int)),
  (7, yX7_image, cX7_image, 1, (some .int)),
  (7, yX7_undo, cX7_undo, 1, (some .int)),
  (7, yX7_tear, cX7_tear, 2, (some .int)),
  (7, yX7_count, cX7_count, 4, (some .int)),
  (7, yX7_status, cX7_status, 2, (some .int)),
  (16, yJ6_bitCount_0f7a4, cJ6_bitCount_0f7a4, 1, (some .int)),
  (10, yJ0_length_8abf5, cJ0_length_8abf5, 1, (some .int)),
  (10, yJ0_charAt_5068e, cJ0_charAt_5068e, 2, (some .char)),
  (10, yJ0_coder_7d493, cJ0_coder_7d493, 1, (some .byte)),
  (10, yJ0_isLatin1_aae02, cJ0_isLatin1_aae02, 1, (some .boolean)),
  (10, yJ0_checkIndex_df160, cJ0_checkIndex_df160, 2, none),
  (11, yJ1_charAt_3b067, cJ1_charAt_3b067, 2, (some .char)),
  (12, yJ2_getChar_3b067, cJ2_getChar_3b067, 2, (some .char)),
  (12, yJ2_length_9d52b, cJ2_length_9d52b, 1, (some .int)),
  (12, yJ2_charAt_3b067, cJ2_charAt_3b067, 2, (some .char)),
  (12, yJ2_checkIndex_2214a, cJ2_checkIndex_2214a, 2, none),
  (13, yJ3_checkIndex_8e157, cJ3_checkIndex_8e157, 3, (some .int))]
def mI (j : Nat) : MI := mtab.getD j (99, yL_law, cL_law, 0, none)
def mwords (m : MI) : List Cond := [.initialized m.2.1.cls, .code m.2.1 m.2.2.1 m.2.2.2.1 m.2.2.2.2]
def mplaces : List (List Nat) := [[59, 85], [59, 482], [59, 320], [59, 393], [59, 306], [59, 311], [59, 324], [59, 335], [59, 609], [59, 843], [65, 328], [65, 384], [65, 374], [65, 785], [61, 167], [61, 474], [61, 509], [61, 521], [61, 534], [61, 501], [61, 478], [61, 495], [61, 490], [61, 513], [61, 525], [61, 538], [61, 541], [62, 192], [62, 632], [62, 645], [62, 769], [62, 738], [62, 742], [62, 758], [62, 746], [62, 754], [62, 764], [62, 750], [62, 649], [62, 652], [62, 656], [62, 660], [62, 665], [62, 669], [62, 674], [63, 230], [63, 584], [63, 799], [63, 807], [63, 815], [63, 593], [60, 141], [60, 364], [60, 425], [60, 369], [58, 77], [58, 280], [58, 295], [58, 299], [58, 316], [58, 343], [58, 350], [58, 354], [58, 389], [58, 406], [58, 429], [58, 433], [58, 437], [58, 441], [58, 445], [58, 449], [58, 454], [58, 462], [58, 466], [58, 470], [58, 505], [58, 517], [58, 530], [58, 546], [58, 558], [58, 562], [58, 572], [58, 576], [58, 597], [58, 601], [58, 605], [58, 614], [58, 624], [58, 628], [58, 636], [58, 640], [58, 774], [58, 781], [58, 793], [58, 803], [58, 811], [58, 819], [58, 823], [58, 827], [58, 831], [58, 835], [58, 839], [58, 847], [58, 291], [58, 283], [58, 286], [58, 302], [58, 777], [58, 587], [58, 402], [58, 377], [58, 409], [58, 346], [58, 360], [58, 413], [58, 421], [58, 417], [58, 458], [58, 554], [58, 550], [58, 566], [58, 580], [58, 617], [58, 620], [64, 852], [64, 963], [64, 951], [64, 958], [64, 1072], [64, 1076], [64, 1120], [64, 1053], [64, 1050], [64, 1036], [64, 948], [64, 954], [64, 990], [64, 974], [64, 982], [64, 998], [64, 945], [64, 967], [64, 979], [64, 971], [64, 994], [64, 1007], [64, 1003], [64, 986], [64, 1015], [64, 1012], [64, 1019], [64, 1032], [64, 1039], [64, 1029], [64, 1023], [64, 1047], [64, 1043], [64, 1080], [64, 1061], [64, 1069], [64, 1065], [64, 1057], [64, 1084], [64, 1092], [64, 1088], [64, 1096], [64, 1104], [64, 1100], [64, 1108], [64, 1129], [64, 1116], [64, 1112], [64, 1125], [64, 1133], [64, 1137], [64, 1153], [64, 1157], [64, 1149], [64, 1145], [64, 1141], [64, 1161], [64, 1165], [64, 1169], [64, 1177], [64, 1173], [64, 1181], [64, 1189], [64, 1185], [64, 1193], [64, 1206], [64, 1202], [64, 1218], [64, 1214], [64, 1198], [64, 1222], [64, 1226], [64, 1234], [64, 1230], [64, 1239], [64, 1243], [64, 1247], [64, 1251], [64, 1263], [64, 1259], [64, 1275], [64, 1281], [64, 1290], [64, 1295], [64, 1271], [64, 1286], [64, 1267], [64, 1303], [64, 1255], [64, 1310], [64, 1307], [64, 1314], [64, 1209], [64, 1333], [64, 1325], [64, 1330], [64, 1337], [64, 1320], [64, 1317], [64, 1341], [64, 1345], [64, 1349], [64, 1353], [64, 1357], [64, 1361], [64, 1365], [67, 396], [69, 678], [69, 688], [69, 682], [69, 692], [69, 698], [70, 695], [72, 716], [72, 712], [72, 706], [72, 709], [71, 703]]
def clsN (c : Nat) : String := if c = 0 then RX0 else if c = 1 then RX1 else if c = 2 then RX2 else if c = 3 then RX3 else if c = 4 then RX4 else if c = 5 then RX5 else if c = 6 then RX6 else if c = 7 then RX7 else if c = 10 then RJ0 else if c = 11 then RJ1 else if c = 12 then RJ2 else if c = 13 then RJ3 else if c = 16 then RJ6 else if c = 19 then RJ9 else if c = 20 then RL else ""
/-- (class, index) ↦ (method, what it takes off the stack, whether it answers, how: 10 + class virtual, 1 static, 2 static of a nest mate, 5 arraycopy) -/
def lkTab : List ((Nat × Nat) × Nat × Nat × Nat × Nat) := [
  ((20, 13), 56, 3, 1, 15),
  ((6, 61), 104, 1, 1, 1),
  ((6, 65), 105, 1, 1, 1),
  ((6, 69), 103, 2, 1, 15),
  ((20, 18), 57, 2, 1, 15),
  ((20, 23), 58, 3, 1, 15),
  ((6, 76), 106, 1, 1, 1),
  ((6, 79), 4, 1, 1, 10),
  ((6, 84), 5, 4, 1, 10),
  ((0, 49), 4, 1, 1, 10),
  ((20, 27), 59, 3, 1, 15),
  ((6, 88), 2, 2, 1, 10),
  ((6, 103), 6, 2, 1, 10),
  ((0, 53), 2, 2, 1, 10),
  ((0, 57), 10, 3, 1, 1),
  ((1, 9), 906, 2, 1, 6),
  ((6, 106), 7, 2, 1, 10),
  ((0, 63), 6, 2, 1, 10),
  ((0, 66), 908, 1, 1, 8),
  ((20, 31), 60, 4, 1, 15),
  ((6, 109), 112, 3, 1, 1),
  ((20, 36), 61, 2, 1, 15),
  ((20, 40), 62, 2, 1, 15),
  ((6, 122), 113, 2, 1, 15),
  ((6, 157), 52, 3, 0, 14),
  ((5, 28), 2, 2, 1, 10),
  ((6, 161), 54, 2, 1, 14),
  ((5, 44), 10, 3, 1, 1),
  ((5, 50), 908, 1, 1, 8),
  ((5, 56), 12, 3, 1, 1),
  ((6, 293), 907, 2, 1, 7),
  ((6, 298), 906, 2, 1, 6),
  ((5, 62), 11, 3, 1, 1),
  ((1, 15), 907, 2, 1, 7),
  ((20, 44), 63, 2, 1, 15),
  ((6, 125), 3, 2, 1, 10),
  ((6, 128), 230, 1, 1, 1),
  ((6, 133), 109, 2, 1, 1),
  ((20, 48), 64, 2, 1, 15),
  ((6, 137), 111, 2, 1, 1),
  ((6, 141), 114, 1, 1, 15),
  ((6, 148), 116, 2, 1, 15),
  ((6, 165), 115, 2, 0, 15),
  ((6, 286), 53, 2, 0, 14),
  ((20, 52), 65, 2, 1, 15),
  ((20, 56), 66, 2, 1, 15),
  ((20, 60), 67, 3, 1, 15),
  ((20, 64), 68, 3, 1, 15),
  ((20, 68), 69, 2, 1, 15),
  ((20, 72), 70, 2, 1, 15),
  ((20, 76), 71, 2, 1, 15),
  ((6, 173), 117, 3, 1, 15),
  ((20, 80), 72, 2, 1, 15),
  ((20, 84), 73, 2, 1, 15),
  ((20, 88), 74, 3, 1, 15),
  ((6, 180), 15, 3, 1, 11),
  ((2, 34), 20, 2, 0, 11),
  ((2, 53), 1, 2, 0, 10),
  ((2, 38), 22, 3, 1, 11),
  ((2, 75), 21, 3, 1, 11),
  ((2, 65), 52, 3, 0, 14),
  ((2, 68), 54, 2, 1, 14),
  ((6, 184), 19, 2, 1, 11),
  ((20, 92), 75, 2, 1, 15),
  ((6, 187), 16, 3, 1, 11),
  ((2, 42), 23, 3, 1, 11),
  ((20, 96), 76, 2, 1, 15),
  ((6, 191), 17, 3, 1, 11),
  ((2, 46), 24, 3, 1, 11),
  ((2, 78), 907, 2, 1, 7),
  ((20, 100), 77, 1, 1, 15),
  ((6, 194), 18, 2, 1, 11),
  ((2, 49), 25, 4, 1, 11),
  ((2, 83), 26, 2, 1, 1),
  ((2, 90), 230, 1, 1, 1),
  ((20, 105), 78, 2, 1, 15),
  ((6, 198), 119, 5, 1, 15),
  ((6, 202), 118, 3, 1, 15),
  ((20, 109), 79, 1, 1, 15),
  ((20, 113), 80, 3, 1, 15),
  ((6, 205), 120, 3, 1, 15),
  ((6, 301), 908, 1, 1, 8),
  ((20, 117), 81, 2, 1, 15),
  ((20, 121), 82, 3, 1, 15),
  ((6, 208), 121, 3, 1, 15),
  ((6, 215), 46, 2, 1, 13),
  ((6, 211), 50, 3, 1, 13),
  ((20, 125), 83, 3, 1, 15),
  ((20, 129), 84, 2, 1, 15),
  ((20, 133), 85, 2, 1, 15),
  ((6, 221), 8, 1, 1, 10),
  ((20, 137), 86, 4, 1, 15),
  ((6, 224), 122, 2, 1, 1),
  ((6, 227), 123, 2, 1, 1),
  ((20, 142), 87, 2, 1, 15),
  ((20, 146), 88, 3, 1, 15),
  ((6, 237), 28, 2, 0, 12),
  ((20, 150), 89, 1, 1, 15),
  ((20, 154), 90, 1, 1, 15),
  ((6, 240), 1, 2, 0, 10),
  ((6, 243), 29, 2, 1, 12),
  ((3, 43), 38, 1, 0, 12),
  ((3, 96), 39, 1, 1, 1),
  ((3, 100), 40, 3, 0, 12),
  ((3, 104), 41, 2, 0, 12),
  ((3, 107), 907, 2, 1, 7),
  ((3, 46), 42, 1, 0, 12),
  ((3, 113), 43, 3, 1, 12),
  ((3, 118), 44, 4, 1, 12),
  ((3, 145), 231, 1, 1, 17),
  ((10, 335), 233, 1, 1, 17),
  ((3, 150), 232, 2, 1, 17),
  ((10, 492), 234, 1, 1, 17),
  ((10, 495), 236, 2, 1, 1),
  ((11, 9), 235, 2, 0, 1),
  ((10, 1059), 241, 3, 1, 1),
  ((10, 498), 239, 2, 1, 1),
  ((12, 67), 240, 2, 0, 1),
  ((12, 48), 238, 1, 1, 1),
  ((12, 414), 235, 2, 0, 1),
  ((12, 71), 237, 2, 1, 1),
  ((3, 49), 31, 2, 0, 12),
  ((3, 53), 32, 2, 1, 12),
  ((3, 61), 34, 2, 1, 12),
  ((3, 86), 37, 2, 1, 12),
  ((3, 64), 35, 2, 1, 12),
  ((3, 72), 33, 2, 1, 12),
  ((3, 79), 4, 1, 1, 10),
  ((3, 83), 36, 2, 1, 12),
  ((3, 89), 5, 4, 1, 10),
  ((3, 57), 30, 1, 1, 12),
  ((20, 158), 91, 3, 1, 15),
  ((6, 246), 107, 1, 1, 1),
  ((20, 162), 92, 3, 1, 15),
  ((6, 253), 13, 2, 1, 1),
  ((20, 166), 93, 4, 1, 15),
  ((6, 259), 108, 1, 1, 1),
  ((6, 263), 47, 4, 0, 13),
  ((20, 170), 94, 4, 1, 15),
  ((6, 267), 48, 4, 0, 13),
  ((20, 174), 95, 6, 1, 15),
  ((6, 272), 49, 4, 1, 13),
  ((20, 179), 96, 2, 1, 15),
  ((20, 183), 97, 2, 1, 15),
  ((20, 187), 98, 1, 1, 15),
  ((20, 191), 99, 1, 1, 15),
  ((20, 195), 100, 1, 1, 15),
  ((20, 199), 101, 2, 1, 15),
  ((6, 290), 9, 1, 1, 10),
  ((20, 203), 102, 2, 1, 15),
  ((20, 17), 140, 3, 1, 16),
  ((7, 95), 134, 1, 1, 1),
  ((7, 88), 126, 3, 1, 1),
  ((7, 99), 135, 1, 1, 1),
  ((7, 102), 127, 3, 1, 16),
  ((7, 75), 125, 2, 1, 16),
  ((20, 22), 141, 2, 1, 16),
  ((20, 26), 143, 3, 1, 16),
  ((7, 105), 137, 1, 1, 1),
  ((7, 109), 142, 4, 1, 16),
  ((7, 92), 138, 2, 1, 1),
  ((20, 30), 147, 3, 1, 16),
  ((7, 126), 136, 2, 1, 16),
  ((7, 119), 144, 2, 1, 16),
  ((7, 113), 139, 3, 1, 16),
  ((7, 85), 906, 2, 1, 6),
  ((7, 129), 146, 2, 1, 16),
  ((7, 122), 145, 3, 1, 16),
  ((7, 116), 908, 1, 1, 8),
  ((20, 35), 149, 4, 1, 16),
  ((7, 132), 148, 2, 1, 1),
  ((20, 39), 150, 2, 1, 16),
  ((20, 43), 154, 2, 1, 16),
  ((7, 146), 153, 2, 1, 16),
  ((7, 135), 151, 3, 1, 1),
  ((7, 79), 907, 2, 1, 7),
  ((7, 138), 133, 1, 1, 1),
  ((7, 141), 152, 3, 1, 1),
  ((20, 47), 156, 2, 1, 16),
  ((7, 149), 155, 2, 1, 16),
  ((7, 152), 132, 1, 1, 1),
  ((7, 155), 131, 2, 1, 1),
  ((20, 51), 161, 2, 1, 16),
  ((7, 164), 158, 1, 1, 16),
  ((7, 168), 160, 1, 1, 16),
  ((7, 161), 159, 2, 1, 16),
  ((7, 70), 128, 2, 0, 1),
  ((7, 158), 129, 2, 1, 16),
  ((7, 171), 157, 2, 1, 16),
  ((20, 55), 162, 2, 1, 16),
  ((20, 59), 164, 2, 1, 16),
  ((7, 174), 163, 3, 1, 16),
  ((20, 63), 165, 3, 1, 16),
  ((20, 67), 167, 3, 1, 16),
  ((7, 177), 166, 3, 1, 16),
  ((20, 71), 168, 2, 1, 16),
  ((20, 75), 171, 2, 1, 16),
  ((7, 180), 170, 4, 1, 16),
  ((7, 183), 130, 2, 1, 16),
  ((20, 79), 172, 2, 1, 16),
  ((7, 186), 169, 4, 1, 16),
  ((20, 83), 173, 2, 1, 16),
  ((20, 87), 174, 2, 1, 16),
  ((20, 91), 179, 3, 1, 16),
  ((7, 207), 178, 3, 0, 16),
  ((7, 200), 177, 5, 0, 16),
  ((7, 196), 175, 2, 0, 16),
  ((7, 204), 176, 2, 0, 16),
  ((20, 95), 180, 2, 1, 16),
  ((20, 99), 181, 2, 1, 16),
  ((20, 104), 182, 1, 1, 16),
  ((20, 108), 184, 2, 1, 16),
  ((7, 211), 183, 2, 0, 16),
  ((20, 112), 185, 1, 1, 16),
  ((20, 116), 187, 3, 1, 16),
  ((7, 214), 186, 3, 1, 16),
  ((20, 120), 188, 2, 1, 16),
  ((20, 124), 193, 3, 1, 16),
  ((7, 233), 190, 3, 1, 16),
  ((7, 224), 189, 2, 1, 16),
  ((7, 220), 216, 1, 1, 1),
  ((7, 236), 192, 3, 1, 16),
  ((7, 230), 191, 3, 1, 16),
  ((20, 128), 194, 3, 1, 16),
  ((20, 132), 195, 2, 1, 16),
  ((20, 136), 197, 2, 1, 16),
  ((7, 240), 196, 1, 1, 16),
  ((20, 141), 198, 4, 1, 16),
  ((20, 145), 199, 2, 1, 16),
  ((20, 149), 200, 3, 1, 16),
  ((20, 153), 201, 1, 1, 16),
  ((20, 157), 212, 1, 1, 16),
  ((7, 272), 203, 1, 0, 16),
  ((7, 252), 202, 2, 1, 16),
  ((7, 315), 210, 1, 0, 16),
  ((7, 289), 208, 1, 1, 16),
  ((7, 282), 204, 2, 1, 16),
  ((7, 261), 231, 1, 1, 17),
  ((7, 264), 232, 2, 1, 17),
  ((7, 275), 205, 2, 0, 16),
  ((7, 297), 209, 3, 1, 16),
  ((7, 286), 206, 3, 1, 16),
  ((7, 303), 207, 4, 0, 16),
  ((7, 318), 211, 2, 1, 16),
  ((20, 161), 214, 3, 1, 16),
  ((7, 321), 213, 1, 1, 1),
  ((20, 165), 215, 3, 1, 16),
  ((7, 324), 222, 2, 1, 1),
  ((7, 332), 221, 1, 1, 1),
  ((20, 169), 218, 4, 1, 16),
  ((20, 173), 219, 4, 1, 16),
  ((7, 329), 217, 2, 1, 1),
  ((20, 178), 220, 6, 1, 16),
  ((20, 182), 223, 2, 1, 16),
  ((20, 186), 224, 2, 1, 16),
  ((20, 190), 225, 1, 1, 16),
  ((20, 194), 226, 1, 1, 16),
  ((20, 198), 227, 1, 1, 16),
  ((20, 202), 228, 2, 1, 16),
  ((20, 206), 229, 2, 1, 16),
  ((5, 59), 110, 1, 1, 2),
  ((2, 72), 109, 2, 1, 2),
  ((4, 23), 108, 1, 1, 2),
  ((3, 75), 106, 1, 1, 2),
  ((1, 22), 106, 1, 1, 2),
  ((0, 43), 999, 5, 0, 5),
  ((2, 59), 999, 5, 0, 5),
  ((6, 280), 999, 5, 0, 5)]
def lkPl : List (List Nat) := [[277, 278, 279], [281, 282], [284, 285], [288, 290, 0], [292, 293, 294], [296, 297, 298], [300, 301], [303, 304, 305], [308, 309, 310], [312, 304, 305], [313, 314, 315], [317, 318, 319], [321, 322, 323], [325, 318, 319], [326, 327], [329, 330, 66, 331], [332, 333, 334], [336, 322, 323], [337, 338, 66, 339], [340, 341, 342], [344, 345], [347, 348, 349], [351, 352, 353], [357, 359, 1], [361, 362, 363], [365, 318, 319], [366, 367, 368], [370, 327], [371, 338, 66, 339], [372, 373], [378, 379, 66, 380], [381, 330, 66, 331], [382, 383], [385, 379, 66, 380], [386, 387, 388], [390, 391, 392], [394, 395], [400, 401], [403, 404, 405], [407, 408], [410, 412, 2], [414, 416, 3], [418, 420, 4], [422, 423, 424], [426, 427, 428], [430, 431, 432], [434, 435, 436], [438, 439, 440], [442, 443, 444], [446, 447, 448], [451, 452, 453], [455, 457, 5], [459, 460, 461], [463, 464, 465], [467, 468, 469], [471, 472, 473], [475, 477, 6], [479, 480, 481], [487, 489, 7], [492, 494, 8], [496, 362, 363], [497, 367, 368], [498, 499, 500], [502, 503, 504], [506, 507, 508], [510, 512, 9], [514, 515, 516], [518, 519, 520], [522, 524, 10], [526, 379, 66, 380], [527, 528, 529], [531, 532, 533], [535, 537, 11], [539, 540], [542, 395], [543, 544, 545], [547, 549, 12], [551, 553, 13], [555, 556, 557], [559, 560, 561], [563, 565, 14], [568, 338, 66, 339], [569, 570, 571], [573, 574, 575], [577, 579, 15], [581, 582, 583], [590, 591, 592], [594, 595, 596], [598, 599, 600], [602, 603, 604], [606, 607, 608], [611, 612, 613], [615, 616], [618, 619], [621, 622, 623], [625, 626, 627], [629, 630, 631], [633, 634, 635], [637, 638, 639], [641, 480, 481], [642, 643, 644], [646, 647, 648], [650, 651], [653, 654, 655], [657, 658, 659], [661, 379, 66, 380], [662, 663, 664], [666, 667, 668], [671, 672, 673], [675, 676, 677], [679, 680, 681], [685, 686, 687], [689, 690, 691], [693, 694], [696, 697], [701, 702], [704, 705], [707, 708], [710, 711], [713, 697], [714, 715], [735, 736, 737], [739, 740, 741], [743, 744, 745], [747, 748, 749], [751, 752, 753], [755, 756, 757], [760, 304, 305], [761, 762, 763], [765, 309, 310], [766, 767, 768], [771, 772, 773], [775, 776], [778, 779, 780], [783, 784], [790, 791, 792], [794, 586], [796, 797, 798], [800, 801, 802], [804, 805, 806], [808, 809, 810], [812, 813, 814], [816, 817, 818], [820, 821, 822], [824, 825, 826], [828, 829, 830], [832, 833, 834], [836, 837, 838], [840, 841, 842], [844, 845, 846], [942, 943, 944], [946, 947], [949, 950], [952, 953], [955, 957, 16], [960, 962, 17], [964, 965, 966], [968, 969, 970], [972, 973], [976, 978, 18], [980, 981], [983, 984, 985], [987, 989, 19], [991, 993, 20], [995, 997, 21], [999, 330, 66, 331], [1000, 1002, 22], [1004, 1006, 23], [1008, 338, 66, 339], [1009, 1010, 1011], [1013, 1014], [1016, 1017, 1018], [1020, 1021, 1022], [1026, 1028, 24], [1030, 1031], [1033, 379, 66, 380], [1034, 1035], [1037, 1038], [1040, 1041, 1042], [1044, 1046, 25], [1048, 1049], [1051, 1052], [1054, 1055, 1056], [1058, 1060, 26], [1062, 1064, 27], [1066, 1068, 28], [1070, 1071], [1073, 1075, 29], [1077, 1079, 30], [1081, 1082, 1083], [1085, 1086, 1087], [1089, 1091, 31], [1093, 1094, 1095], [1097, 1098, 1099], [1101, 1103, 32], [1105, 1106, 1107], [1109, 1110, 1111], [1113, 1115, 33], [1117, 1119, 34], [1122, 1123, 1124], [1126, 1128, 35], [1130, 1131, 1132], [1134, 1135, 1136], [1138, 1139, 1140], [1142, 1144, 36], [1146, 1148, 37], [1150, 1152, 38], [1154, 1156, 39], [1158, 1159, 1160], [1162, 1163, 1164], [1166, 1167, 1168], [1170, 1171, 1172], [1174, 1176, 40], [1178, 1179, 1180], [1182, 1183, 1184], [1186, 1188, 41], [1190, 1191, 1192], [1195, 1196, 1197], [1199, 1201, 42], [1203, 1205, 43], [1207, 1208], [1211, 1213, 44], [1215, 1217, 45], [1219, 1220, 1221], [1223, 1224, 1225], [1227, 1228, 1229], [1231, 1233, 46], [1236, 1237, 1238], [1240, 1241, 1242], [1244, 1245, 1246], [1248, 1249, 1250], [1252, 1253, 1254], [1256, 1258, 47], [1260, 1262, 48], [1264, 1266, 49], [1268, 1270, 50], [1272, 1274, 51], [1276, 676, 677], [1277, 686, 687], [1278, 1280, 52], [1283, 1285, 53], [1287, 1289, 54], [1292, 1294, 55], [1300, 1302, 56], [1304, 1305, 1306], [1308, 1309], [1311, 1312, 1313], [1315, 1316], [1318, 1319], [1322, 1323, 1324], [1327, 1328, 1329], [1331, 1332], [1334, 1335, 1336], [1338, 1339, 1340], [1342, 1343, 1344], [1346, 1347, 1348], [1350, 1351, 1352], [1354, 1355, 1356], [1358, 1359, 1360], [1362, 1363, 1364], [376], [401], [586], [301], [301], [483, 485, 484, 68], [486, 485, 484, 68], [567, 485, 484, 68]]
def lkWords (e : (Nat × Nat) × Nat × Nat × Nat × Nat) : List Cond :=
  if 10 ≤ e.2.2.2.2 then [.methodLink (clsN e.1.1) e.1.2 (mI e.2.1).2.1, .instanceMethod (mI e.2.1).2.1, .selects (mI e.2.1).2.1.cls (mI e.2.1).2.1 (mI e.2.1).2.1]
  else if e.2.2.2.2 = 1 then [.methodLink (clsN e.1.1) e.1.2 (mI e.2.1).2.1, .static (mI e.2.1).2.1]
  else if e.2.2.2.2 = 2 then [.static (mI e.2.1).2.1]
  else if e.2.2.2.2 = 6 then [.methodLink (clsN e.1.1) e.1.2 Lib.Math.max.name, .static Lib.Math.max.name, .initialized "java/lang/Math", .code Lib.Math.max.name Lib.Math.max.code 2 (some .int)]
  else if e.2.2.2.2 = 7 then [.methodLink (clsN e.1.1) e.1.2 Lib.Math.min.name, .static Lib.Math.min.name, .initialized "java/lang/Math", .code Lib.Math.min.name Lib.Math.min.code 2 (some .int)]
  else if e.2.2.2.2 = 8 then [.methodLink (clsN e.1.1) e.1.2 Lib.Math.abs.name, .static Lib.Math.abs.name, .initialized "java/lang/Math", .code Lib.Math.abs.name Lib.Math.abs.code 1 (some .int)]
  else [.methodLink (clsN e.1.1) e.1.2 arraycopyName, .native arraycopyName, .static arraycopyName, .initialized "java/lang/System"]
def lkArgs (e : (Nat × Nat) × Nat × Nat × Nat × Nat) : Bool := (decide (5 ≤ e.2.2.2.2) && decide (e.2.2.2.2 < 10)) || (decide (e.2.1 < 242) && decide ((parseMethodDescriptor (mI e.2.1).2.1.desc).map (fun d => d.parameters.length) = some (if 10 ≤ e.2.2.2.2 then e.2.2.1 - 1 else e.2.2.1)) && decide (0 < e.2.2.1 ∨ e.2.2.2.2 < 10) && decide (e.2.2.2.2 < 10 ∨ (mI e.2.1).2.1.cls = (vwCl.getD (e.2.2.2.2 - 10) ("java/lang/String", TX0, 0)).1) && decide ((e.2.2.2.1 = 0) ↔ (mI e.2.1).2.2.2.2 = none))
def mArgs (m : MI) : Bool := decide (m.2.1.cls ≠ "java/lang/invoke/MethodHandle") && decide (m.2.1.cls ≠ "java/lang/invoke/VarHandle") && decide (m.2.1.cls = clsN m.1) && plainName m.2.1.cls && decide (m.2.2.2.1 ≤ 40)
def gT : List Cond := lw_tbl.filter goodWord
def okPl (ws : List Cond) (ps : List Nat) : Bool := decide (ws = ps.filterMap (fun i => lw_tbl[i]?)) && ws.all goodWord
theorem okPl_in {ws : List Cond} {ps : List Nat} (h : okPl ws ps = true) : ∀ w ∈ ws, w ∈ gT := by
  intro w hw
  unfold okPl at h
  rw [Bool.and_eq_true] at h
  have h1 : ws = ps.filterMap (fun i => lw_tbl[i]?) := of_decide_eq_true h.1
  have h2 := List.all_eq_true.mp h.2 w hw
  rw [h1] at hw
  obtain ⟨i, -, hi⟩ := List.mem_filterMap.mp hw
  exact List.mem_filter.mpr ⟨List.mem_of_getElem? hi, h2⟩
set_option maxRecDepth 100000 in
theorem mok_0 : (((List.range 41).map (· + 0)).all (fun j => okPl (mwords (mI j)) (mplaces.getD j []) && mArgs (mI j))) = true := by decide +kernel
set_option maxRecDepth 100000 in
theorem mok_41 : (((List.range 41).map (· + 41)).all (fun j => okPl (mwords (mI j)) (mplaces.getD j []) && mArgs (mI j))) = true := by decide +kernel
set_option maxRecDepth 100000 in
theorem mok_82 : (((List.range 41).map (· + 82)).all (fun j => okPl (mwords (mI j)) (mplaces.getD j []) && mArgs (mI j))) = true := by decide +kernel
set_option maxRecDepth 100000 in
theorem mok_123 : (((List.range 41).map (· + 123)).all (fun j => okPl (mwords (mI j)) (mplaces.getD j []) && mArgs (mI j))) = true := by decide +kernel
set_option maxRecDepth 100000 in
theorem mok_164 : (((List.range 41).map (· + 164)).all (fun j => okPl (mwords (mI j)) (mplaces.getD j []) && mArgs (mI j))) = true := by decide +kernel
set_option maxRecDepth 100000 in
theorem mok_205 : (((List.range 37).map (· + 205)).all (fun j => okPl (mwords (mI j)) (mplaces.getD j []) && mArgs (mI j))) = true := by decide +kernel
def NM : Nat := 242
theorem mok {j : Nat} (h0 : j < NM) : (∀ w ∈ mwords (mI j), w ∈ gT) ∧ mArgs (mI j) = true := by
  have h : j < 242 := h0
  have key : ∀ (a n : Nat), (((List.range n).map (· + a)).all (fun j => okPl (mwords (mI j)) (mplaces.getD j []) && mArgs (mI j))) = true → a ≤ j → j < a + n → (∀ w ∈ mwords (mI j), w ∈ gT) ∧ mArgs (mI j) = true := by
    intro a n hh h1 h2
    have h3 := List.all_eq_true.mp hh j (List.mem_map.mpr ⟨j - a, List.mem_range.mpr (by omega), by omega⟩)
    rw [Bool.and_eq_true] at h3
    exact ⟨okPl_in h3.1, h3.2⟩
  rcases Nat.lt_or_ge j 41 with q | q
  · exact key 0 41 mok_0 (by omega) (by omega)
  rcases Nat.lt_or_ge j 82 with q | q
  · exact key 41 41 mok_41 (by omega) (by omega)
  rcases Nat.lt_or_ge j 123 with q | q
  · exact key 82 41 mok_82 (by omega) (by omega)
  rcases Nat.lt_or_ge j 164 with q | q
  · exact key 123 41 mok_123 (by omega) (by omega)
  rcases Nat.lt_or_ge j 205 with q | q
  · exact key 164 41 mok_164 (by omega) (by omega)
  exact key 205 37 mok_205 (by omega) (by omega)
set_option maxRecDepth 100000 in
theorem lok_0 : (((lkTab.drop 0).take 41).zip ((lkPl.drop 0).take 41)).all (fun e => okPl (lkWords e.1) e.2 && lkArgs e.1) = true := by decide +kernel
set_option maxRecDepth 100000 in
theorem lok_41 : (((lkTab.drop 41).take 41).zip ((lkPl.drop 41).take 41)).all (fun e => okPl (lkWords e.1) e.2 && lkArgs e.1) = true := by decide +kernel
set_option maxRecDepth 100000 in
theorem lok_82 : (((lkTab.drop 82).take 41).zip ((lkPl.drop 82).take 41)).all (fun e => okPl (lkWords e.1) e.2 && lkArgs e.1) = true := by decide +kernel
set_option maxRecDepth 100000 in
theorem lok_123 : (((lkTab.drop 123).take 41).zip ((lkPl.drop 123).take 41)).all (fun e => okPl (lkWords e.1) e.2 && lkArgs e.1) = true := by decide +kernel
set_option maxRecDepth 100000 in
theorem lok_164 : (((lkTab.drop 164).take 41).zip ((lkPl.drop 164).take 41)).all (fun e => okPl (lkWords e.1) e.2 && lkArgs e.1) = true := by decide +kernel
set_option maxRecDepth 100000 in
theorem lok_205 : (((lkTab.drop 205).take 41).zip ((lkPl.drop 205).take 41)).all (fun e => okPl (lkWords e.1) e.2 && lkArgs e.1) = true := by decide +kernel
set_option maxRecDepth 100000 in
theorem lok_246 : (((lkTab.drop 246).take 22).zip ((lkPl.drop 246).take 22)).all (fun e => okPl (lkWords e.1) e.2 && lkArgs e.1) = true := by decide +kernel
def cres (c i : Nat) : Option (Nat × Nat × Nat × Nat) := lkTab.lookup (c, i)
theorem lk_len : lkTab.length = 268 ∧ lkPl.length = 268 := by decide +kernel
theorem lk_at {k : Nat} {e : (Nat × Nat) × Nat × Nat × Nat × Nat} (h : lkTab[k]? = some e) : (∀ w ∈ lkWords e, w ∈ gT) ∧ lkArgs e = true := by
  have hk : k < 268 := by
    have := (List.getElem?_eq_some_iff.mp h).1
    rw [lk_len.1] at this
    exact this
  obtain ⟨q, hq⟩ : ∃ q, lkPl[k]? = some q := ⟨_, List.getElem?_eq_getElem (by rw [lk_len.2]; exact hk)⟩
  have key : ∀ (a n : Nat), (((lkTab.drop a).take n).zip ((lkPl.drop a).take n)).all (fun e => okPl (lkWords e.1) e.2 && lkArgs e.1) = true → a ≤ k → k < a + n → (∀ w ∈ lkWords e, w ∈ gT) ∧ lkArgs e = true := by
    intro a n hh h1 h2
    have hm : (e, q) ∈ ((lkTab.drop a).take n).zip ((lkPl.drop a).take n) := by
      apply List.mem_of_getElem? (i := k - a)
      rw [List.getElem?_zip_eq_some]
      constructor
      · rw [List.getElem?_take_of_lt (by omega), List.getElem?_drop, show a + (k - a) = k by omega]; exact h
      · rw [List.getElem?_take_of_lt (by omega), List.getElem?_drop, show a + (k - a) = k by omega]; exact hq
    have h3 := List.all_eq_true.mp hh _ hm
    rw [Bool.and_eq_true] at h3
    exact ⟨okPl_in h3.1, h3.2⟩
  rcases Nat.lt_or_ge k 41 with z | z
  · exact key 0 41 lok_0 (by omega) (by omega)
  rcases Nat.lt_or_ge k 82 with z | z
  · exact key 41 41 lok_41 (by omega) (by omega)
  rcases Nat.lt_or_ge k 123 with z | z
  · exact key 82 41 lok_82 (by omega) (by omega)
  rcases Nat.lt_or_ge k 164 with z | z
  · exact key 123 41 lok_123 (by omega) (by omega)
  rcases Nat.lt_or_ge k 205 with z | z
  · exact key 164 41 lok_164 (by omega) (by omega)
  rcases Nat.lt_or_ge k 246 with z | z
  · exact key 205 41 lok_205 (by omega) (by omega)
  exact key 246 22 lok_246 (by omega) (by omega)
theorem lk_mem {α β : Type} [BEq α] [LawfulBEq α] {l : List (α × β)} {a : α} {b : β} (h : l.lookup a = some b) : ∃ k : Nat, l[k]? = some (a, b) := by
  induction l with
  | nil => cases h
  | cons x l ih =>
    obtain ⟨x1, x2⟩ := x
    rw [List.lookup_cons] at h
    by_cases e : a == x1
    · rw [e] at h
      cases h
      refine ⟨0, ?_⟩
      rw [eq_of_beq e]
      rfl
    · rw [Bool.not_eq_true] at e
      rw [e] at h
      obtain ⟨k, hk⟩ := ih h
      exact ⟨k + 1, by simpa using hk⟩
theorem cres_ok {c i : Nat} {e : Nat × Nat × Nat × Nat} (h : cres c i = some e) : (∀ w ∈ lkWords ((c, i), e), w ∈ gT) ∧ lkArgs ((c, i), e) = true := by
  obtain ⟨k, hk⟩ := lk_mem h
  exact lk_at hk
/-- (class, index) ↦ (class of the world, slot) -/
def fTab : List ((Nat × Nat) × Nat × Nat) := [((0, 9), 0, 0), ((6, 73), 0, 0), ((2, 56), 0, 0), ((3, 93), 0, 0), ((0, 15), 0, 1), ((5, 34), 0, 1), ((6, 91), 0, 1), ((0, 18), 0, 2), ((5, 37), 0, 2), ((6, 94), 0, 2), ((0, 21), 0, 3), ((5, 40), 0, 3), ((6, 97), 0, 3), ((0, 24), 0, 4), ((6, 100), 0, 4), ((0, 27), 0, 5), ((6, 249), 0, 5), ((0, 30), 0, 6), ((6, 145), 0, 6), ((2, 86), 0, 6), ((0, 34), 0, 7), ((5, 43), 0, 7), ((3, 67), 0, 7), ((6, 113), 0, 7), ((0, 37), 0, 8), ((6, 117), 0, 8), ((0, 40), 0, 9), ((6, 231), 0, 9), ((5, 9), 4, 0), ((6, 154), 4, 0), ((5, 15), 4, 1), ((6, 177), 4, 1), ((5, 19), 4, 2), ((6, 151), 4, 2), ((5, 22), 4, 3), ((6, 169), 4, 3), ((5, 25), 4, 4), ((2, 12), 1, 0), ((2, 21), 1, 1), ((2, 27), 1, 2), ((2, 30), 1, 3), ((3, 9), 2, 0), ((3, 15), 2, 1), ((6, 234), 2, 1), ((3, 19), 2, 2), ((3, 22), 2, 3), ((3, 25), 2, 4), ((3, 28), 2, 5), ((3, 31), 2, 6), ((3, 34), 2, 7), ((3, 37), 2, 8), ((3, 40), 2, 9), ((4, 11), 3, 0), ((6, 276), 3, 0), ((4, 16), 3, 1), ((6, 269), 3, 1), ((4, 20), 3, 2), ((6, 218), 3, 2), ((6, 12), 5, 0), ((6, 16), 5, 1), ((6, 19), 5, 2), ((6, 25), 5, 3), ((6, 29), 5, 4), ((6, 36), 5, 5), ((6, 43), 5, 6), ((6, 50), 5, 7), ((6, 54), 5, 8), ((6, 57), 5, 9), ((7, 9), 6, 0), ((7, 13), 6, 1), ((7, 16), 6, 2), ((7, 335), 6, 3), ((7, 19), 6, 4), ((7, 22), 6, 5), ((7, 25), 6, 6), ((7, 28), 6, 7), ((7, 189), 6, 8), ((7, 193), 6, 9), ((7, 227), 6, 10), ((7, 31), 6, 11), ((7, 243), 6, 12), ((7, 249), 6, 13), ((7, 246), 6, 14), ((7, 258), 6, 15), ((7, 255), 6, 16), ((7, 268), 6, 17), ((7, 50), 6, 18), ((7, 54), 6, 19), ((7, 279), 6, 20), ((7, 292), 6, 21), ((7, 57), 6, 22), ((7, 60), 6, 23), ((7, 63), 6, 24), ((7, 66), 6, 25)]
def fPl : List Nat := [87, 88, 89, 90, 91, 92, 93, 94, 95, 96, 97, 98, 99, 100, 101, 102, 103, 104, 105, 106, 107, 108, 109, 110, 111, 112, 113, 114, 143, 144, 145, 146, 147, 148, 149, 150, 151, 175, 176, 177, 178, 194, 195, 196, 197, 198, 199, 200, 201, 202, 203, 204, 233, 234, 235, 236, 237, 238, 246, 247, 248, 249, 250, 251, 252, 253, 254, 255, 863, 864, 865, 866, 867, 868, 869, 870, 871, 872, 873, 874, 875, 876, 877, 878, 879, 880, 881, 882, 883, 884, 885, 886, 887, 888]
def fTk (ci k : Nat) : String × String × String × Bool := (vwCl.getD ci (RX0, TX0, 0)).2.1 k
def fWord (e : (Nat × Nat) × Nat × Nat) : Cond := .fieldLink (clsN e.1.1) e.1.2 (fTk e.2.1 e.2.2).1 (fTk e.2.1 e.2.2).2.1 (fTk e.2.1 e.2.2).2.2.1
set_option maxRecDepth 100000 in
theorem fok : (fTab.zip fPl).all (fun e => okPl [fWord e.1] [e.2] && decide (e.1.2.1 < 7 ∧ e.1.2.2 < (vwCl.getD e.1.2.1 (RX0, TX0, 0)).2.2)) = true := by decide +kernel
theorem f_len : fTab.length = 94 ∧ fPl.length = 94 := by decide +kernel
def fres (c i : Nat) : Option (Nat × Nat) := fTab.lookup (c, i)
theorem fres_ok {c i : Nat} {e : Nat × Nat} (h : fres c i = some e) : fWord ((c, i), e) ∈ gT ∧ e.1 < 7 ∧ e.2 < (vwCl.getD e.1 (RX0, TX0, 0)).2.2 := by
  obtain ⟨k, hk⟩ := lk_mem h
  have hl := (List.getElem?_eq_some_iff.mp hk).1
  rw [f_len.1] at hl
  obtain ⟨q, hq⟩ : ∃ q, fPl[k]? = some q := ⟨_, List.getElem?_eq_getElem (by rw [f_len.2]; exact hl)⟩
  have hm : (((c, i), e), q) ∈ fTab.zip fPl := List.mem_of_getElem? (i := k) (List.getElem?_zip_eq_some.mpr ⟨hk, hq⟩)
  have h3 := List.all_eq_true.mp fok _ hm
  rw [Bool.and_eq_true] at h3
  exact ⟨okPl_in h3.1 _ List.mem_cons_self, of_decide_eq_true h3.2⟩
def kTab : List ((Nat × Nat) × Int32) := [((6, 68), (-1000001)), ((6, 83), (-1000002)), ((6, 120), (99999)), ((6, 121), (-1000005)), ((16, 265), (1431655765)), ((16, 266), (858993459)), ((16, 267), (252645135)), ((6, 172), (-1000004)), ((4, 27), (-1000001)), ((4, 28), (-1000006)), ((0, 71), (1103515245)), ((6, 252), (-1000006)), ((6, 258), (-1000003)), ((6, 262), (-1000007)), ((7, 69), (-1000001)), ((7, 108), (-1000002)), ((7, 144), (99999)), ((7, 145), (-1000005)), ((7, 74), (-1000004)), ((7, 219), (2147483647)), ((7, 223), (-1000006)), ((7, 239), (1103515245)), ((7, 327), (-1000003)), ((7, 328), (-1000007))]
def kPl : List Nat := [287, 307, 355, 356, 397, 398, 399, 450, 588, 589, 610, 782, 789, 795, 959, 975, 1024, 1025, 1121, 1194, 1210, 1235, 1321, 1326]
set_option maxRecDepth 100000 in
theorem kok : (kTab.zip kPl).all (fun e => okPl [.constant (clsN e.1.1.1) e.1.1.2 e.1.2] [e.2]) = true := by decide +kernel
theorem k_len : kTab.length = 24 ∧ kPl.length = 24 := by decide +kernel
def kres (c i : Nat) : Option Int32 := kTab.lookup (c, i)
theorem kres_ok {c i : Nat} {v : Int32} (h : kres c i = some v) : Cond.constant (clsN c) i v ∈ gT := by
  obtain ⟨k, hk⟩ := lk_mem h
  have hl := (List.getElem?_eq_some_iff.mp hk).1
  rw [k_len.1] at hl
  obtain ⟨q, hq⟩ : ∃ q, kPl[k]? = some q := ⟨_, List.getElem?_eq_getElem (by rw [k_len.2]; exact hl)⟩
  have hm : (((c, i), v), q) ∈ kTab.zip kPl := List.mem_of_getElem? (i := k) (List.getElem?_zip_eq_some.mpr ⟨hk, hq⟩)
  have h3 := List.all_eq_true.mp kok _ hm
  exact okPl_in h3 _ List.mem_cons_self
/-- string constants: (class, index) ↦ the text's number -/
def sTab : List ((Nat × Nat) × Nat) := [((3, 116), 0), ((3, 122), 1), ((3, 124), 2), ((3, 126), 3), ((3, 128), 4), ((3, 130), 5), ((3, 132), 6), ((3, 134), 7), ((3, 136), 8), ((3, 138), 9), ((3, 139), 10), ((3, 141), 11), ((3, 143), 12), ((7, 36), 0), ((7, 38), 1), ((7, 40), 2), ((7, 42), 3), ((7, 44), 4), ((7, 46), 5), ((7, 48), 6), ((7, 295), 11), ((7, 301), 12), ((7, 307), 7), ((7, 309), 8), ((7, 311), 9), ((7, 313), 10)]
def sTx : List String := ["walker", "drunk", "marcher", "dancer", "mourner", "calm", "carried", "plank", "new", "night", "day", "gait", "balance"]
def sBy : List (List Int32) := [[119, 97, 108, 107, 101, 114], [100, 114, 117, 110, 107], [109, 97, 114, 99, 104, 101, 114], [100, 97, 110, 99, 101, 114], [109, 111, 117, 114, 110, 101, 114], [99, 97, 108, 109], [99, 97, 114, 114, 105, 101, 100], [112, 108, 97, 110, 107], [110, 101, 119], [110, 105, 103, 104, 116], [100, 97, 121], [103, 97, 105, 116], [98, 97, 108, 97, 110, 99, 101]]
def sres (c i : Nat) : Option Nat := sTab.lookup (c, i)
def gsI : Nat × Nat := (1, 18)
def gsW : Cond := .fieldLinkNest (clsN gsI.1) gsI.2 "FeetBridge" "KIND_ABOVE" "[I" "FeetBridge"
theorem gs_in : gsW ∈ lw_tbl := List.mem_of_getElem? (i := 786) (by decide +kernel)
def nestW (c i j : Nat) : Cond := .methodLinkNest (clsN c) i (mI j).2.1 RX6
def nTab : List (Nat × Nat × Nat) := [(5, 59, 110), (2, 72, 109), (4, 23, 108), (3, 75, 106), (1, 22, 106)]
theorem n_in : ∀ e ∈ nTab, nestW e.1 e.2.1 e.2.2 ∈ lw_tbl := by
  have h : (nTab.zip [375, 491, 585, 759, 788]).all (fun e => decide (lw_tbl[e.2]? = some (nestW e.1.1 e.1.2.1 e.1.2.2))) = true := by decide +kernel
  intro e he
  obtain ⟨k, hk⟩ := List.getElem?_of_mem he
  have hl := (List.getElem?_eq_some_iff.mp hk).1
  obtain ⟨q, hq⟩ : ∃ q, ([375, 491, 585, 759, 788] : List Nat)[k]? = some q := ⟨_, List.getElem?_eq_getElem (by exact hl)⟩
  have h3 := List.all_eq_true.mp h (e, q) (List.mem_of_getElem? (i := k) (List.getElem?_zip_eq_some.mpr ⟨hk, hq⟩))
  exact List.mem_of_getElem? (of_decide_eq_true h3)
theorem n_all {c i j n r : Nat} (h : cres c i = some (j, n, r, 2)) : (c, i, j) ∈ nTab := by
  have hh : lkTab.all (fun e => decide (e.2.2.2.2 ≠ 2) || decide ((e.1.1, e.1.2, e.2.1) ∈ nTab)) = true := by decide +kernel
  obtain ⟨k, hk⟩ := lk_mem h
  have h3 := List.all_eq_true.mp hh _ (List.mem_of_getElem? hk)
  simpa using h3
theorem cr_20_13 : cres 20 13 = some (56, 3, 1, 15) := by decide +kernel
theorem cr_6_61 : cres 6 61 = some (104, 1, 1, 1) := by decide +kernel
theorem cr_6_65 : cres 6 65 = some (105, 1, 1, 1) := by decide +kernel
theorem cr_6_69 : cres 6 69 = some (103, 2, 1, 15) := by decide +kernel
theorem cr_20_18 : cres 20 18 = some (57, 2, 1, 15) := by decide +kernel
theorem cr_20_23 : cres 20 23 = some (58, 3, 1, 15) := by decide +kernel
theorem cr_6_76 : cres 6 76 = some (106, 1, 1, 1) := by decide +kernel
theorem cr_6_79 : cres 6 79 = some (4, 1, 1, 10) := by decide +kernel
theorem cr_6_84 : cres 6 84 = some (5, 4, 1, 10) := by decide +kernel
theorem cr_0_49 : cres 0 49 = some (4, 1, 1, 10) := by decide +kernel
theorem cr_20_27 : cres 20 27 = some (59, 3, 1, 15) := by decide +kernel
theorem cr_6_88 : cres 6 88 = some (2, 2, 1, 10) := by decide +kernel
theorem cr_6_103 : cres 6 103 = some (6, 2, 1, 10) := by decide +kernel
theorem cr_0_53 : cres 0 53 = some (2, 2, 1, 10) := by decide +kernel
theorem cr_0_57 : cres 0 57 = some (10, 3, 1, 1) := by decide +kernel
theorem cr_1_9 : cres 1 9 = some (906, 2, 1, 6) := by decide +kernel
theorem cr_6_106 : cres 6 106 = some (7, 2, 1, 10) := by decide +kernel
theorem cr_0_63 : cres 0 63 = some (6, 2, 1, 10) := by decide +kernel
theorem cr_0_66 : cres 0 66 = some (908, 1, 1, 8) := by decide +kernel
theorem cr_20_31 : cres 20 31 = some (60, 4, 1, 15) := by decide +kernel
theorem cr_6_109 : cres 6 109 = some (112, 3, 1, 1) := by decide +kernel
theorem cr_20_36 : cres 20 36 = some (61, 2, 1, 15) := by decide +kernel
theorem cr_20_40 : cres 20 40 = some (62, 2, 1, 15) := by decide +kernel
theorem cr_6_122 : cres 6 122 = some (113, 2, 1, 15) := by decide +kernel
theorem cr_6_157 : cres 6 157 = some (52, 3, 0, 14) := by decide +kernel
theorem cr_5_28 : cres 5 28 = some (2, 2, 1, 10) := by decide +kernel
theorem cr_6_161 : cres 6 161 = some (54, 2, 1, 14) := by decide +kernel
theorem cr_5_44 : cres 5 44 = some (10, 3, 1, 1) := by decide +kernel
theorem cr_5_50 : cres 5 50 = some (908, 1, 1, 8) := by decide +kernel
theorem cr_5_56 : cres 5 56 = some (12, 3, 1, 1) := by decide +kernel
theorem cr_6_293 : cres 6 293 = some (907, 2, 1, 7) := by decide +kernel
theorem cr_6_298 : cres 6 298 = some (906, 2, 1, 6) := by decide +kernel
theorem cr_5_62 : cres 5 62 = some (11, 3, 1, 1) := by decide +kernel
theorem cr_1_15 : cres 1 15 = some (907, 2, 1, 7) := by decide +kernel
theorem cr_20_44 : cres 20 44 = some (63, 2, 1, 15) := by decide +kernel
theorem cr_6_125 : cres 6 125 = some (3, 2, 1, 10) := by decide +kernel
theorem cr_6_128 : cres 6 128 = some (230, 1, 1, 1) := by decide +kernel
theorem cr_6_133 : cres 6 133 = some (109, 2, 1, 1) := by decide +kernel
theorem cr_20_48 : cres 20 48 = some (64, 2, 1, 15) := by decide +kernel
theorem cr_6_137 : cres 6 137 = some (111, 2, 1, 1) := by decide +kernel
theorem cr_6_141 : cres 6 141 = some (114, 1, 1, 15) := by decide +kernel
theorem cr_6_148 : cres 6 148 = some (116, 2, 1, 15) := by decide +kernel
theorem cr_6_165 : cres 6 165 = some (115, 2, 0, 15) := by decide +kernel
theorem cr_6_286 : cres 6 286 = some (53, 2, 0, 14) := by decide +kernel
theorem cr_20_52 : cres 20 52 = some (65, 2, 1, 15) := by decide +kernel
theorem cr_20_56 : cres 20 56 = some (66, 2, 1, 15) := by decide +kernel
theorem cr_20_60 : cres 20 60 = some (67, 3, 1, 15) := by decide +kernel
theorem cr_20_64 : cres 20 64 = some (68, 3, 1, 15) := by decide +kernel
theorem cr_20_68 : cres 20 68 = some (69, 2, 1, 15) := by decide +kernel
theorem cr_20_72 : cres 20 72 = some (70, 2, 1, 15) := by decide +kernel
theorem cr_20_76 : cres 20 76 = some (71, 2, 1, 15) := by decide +kernel
theorem cr_6_173 : cres 6 173 = some (117, 3, 1, 15) := by decide +kernel
theorem cr_20_80 : cres 20 80 = some (72, 2, 1, 15) := by decide +kernel
theorem cr_20_84 : cres 20 84 = some (73, 2, 1, 15) := by decide +kernel
theorem cr_20_88 : cres 20 88 = some (74, 3, 1, 15) := by decide +kernel
theorem cr_6_180 : cres 6 180 = some (15, 3, 1, 11) := by decide +kernel
theorem cr_2_34 : cres 2 34 = some (20, 2, 0, 11) := by decide +kernel
theorem cr_2_53 : cres 2 53 = some (1, 2, 0, 10) := by decide +kernel
theorem cr_2_38 : cres 2 38 = some (22, 3, 1, 11) := by decide +kernel
theorem cr_2_75 : cres 2 75 = some (21, 3, 1, 11) := by decide +kernel
theorem cr_2_65 : cres 2 65 = some (52, 3, 0, 14) := by decide +kernel
theorem cr_2_68 : cres 2 68 = some (54, 2, 1, 14) := by decide +kernel
theorem cr_6_184 : cres 6 184 = some (19, 2, 1, 11) := by decide +kernel
theorem cr_20_92 : cres 20 92 = some (75, 2, 1, 15) := by decide +kernel
theorem cr_6_187 : cres 6 187 = some (16, 3, 1, 11) := by decide +kernel
theorem cr_2_42 : cres 2 42 = some (23, 3, 1, 11) := by decide +kernel
theorem cr_20_96 : cres 20 96 = some (76, 2, 1, 15) := by decide +kernel
theorem cr_6_191 : cres 6 191 = some (17, 3, 1, 11) := by decide +kernel
theorem cr_2_46 : cres 2 46 = some (24, 3, 1, 11) := by decide +kernel
theorem cr_2_78 : cres 2 78 = some (907, 2, 1, 7) := by decide +kernel
theorem cr_20_100 : cres 20 100 = some (77, 1, 1, 15) := by decide +kernel
theorem cr_6_194 : cres 6 194 = some (18, 2, 1, 11) := by decide +kernel
theorem cr_2_49 : cres 2 49 = some (25, 4, 1, 11) := by decide +kernel
theorem cr_2_83 : cres 2 83 = some (26, 2, 1, 1) := by decide +kernel
theorem cr_2_90 : cres 2 90 = some (230, 1, 1, 1) := by decide +kernel
theorem cr_20_105 : cres 20 105 = some (78, 2, 1, 15) := by decide +kernel
theorem cr_6_198 : cres 6 198 = some (119, 5, 1, 15) := by decide +kernel
theorem cr_6_202 : cres 6 202 = some (118, 3, 1, 15) := by decide +kernel
theorem cr_20_109 : cres 20 109 = some (79, 1, 1, 15) := by decide +kernel
theorem cr_20_113 : cres 20 113 = some (80, 3, 1, 15) := by decide +kernel
theorem cr_6_205 : cres 6 205 = some (120, 3, 1, 15) := by decide +kernel
theorem cr_6_301 : cres 6 301 = some (908, 1, 1, 8) := by decide +kernel
theorem cr_20_117 : cres 20 117 = some (81, 2, 1, 15) := by decide +kernel
theorem cr_20_121 : cres 20 121 = some (82, 3, 1, 15) := by decide +kernel
theorem cr_6_208 : cres 6 208 = some (121, 3, 1, 15) := by decide +kernel
theorem cr_6_215 : cres 6 215 = some (46, 2, 1, 13) := by decide +kernel
theorem cr_6_211 : cres 6 211 = some (50, 3, 1, 13) := by decide +kernel
theorem cr_20_125 : cres 20 125 = some (83, 3, 1, 15) := by decide +kernel
theorem cr_20_129 : cres 20 129 = some (84, 2, 1, 15) := by decide +kernel
theorem cr_20_133 : cres 20 133 = some (85, 2, 1, 15) := by decide +kernel
theorem cr_6_221 : cres 6 221 = some (8, 1, 1, 10) := by decide +kernel
theorem cr_20_137 : cres 20 137 = some (86, 4, 1, 15) := by decide +kernel
theorem cr_6_224 : cres 6 224 = some (122, 2, 1, 1) := by decide +kernel
theorem cr_6_227 : cres 6 227 = some (123, 2, 1, 1) := by decide +kernel
theorem cr_20_142 : cres 20 142 = some (87, 2, 1, 15) := by decide +kernel
theorem cr_20_146 : cres 20 146 = some (88, 3, 1, 15) := by decide +kernel
theorem cr_6_237 : cres 6 237 = some (28, 2, 0, 12) := by decide +kernel
theorem cr_20_150 : cres 20 150 = some (89, 1, 1, 15) := by decide +kernel
theorem cr_20_154 : cres 20 154 = some (90, 1, 1, 15) := by decide +kernel
theorem cr_6_240 : cres 6 240 = some (1, 2, 0, 10) := by decide +kernel
theorem cr_6_243 : cres 6 243 = some (29, 2, 1, 12) := by decide +kernel
theorem cr_3_43 : cres 3 43 = some (38, 1, 0, 12) := by decide +kernel
theorem cr_3_96 : cres 3 96 = some (39, 1, 1, 1) := by decide +kernel
theorem cr_3_100 : cres 3 100 = some (40, 3, 0, 12) := by decide +kernel
theorem cr_3_104 : cres 3 104 = some (41, 2, 0, 12) := by decide +kernel
theorem cr_3_107 : cres 3 107 = some (907, 2, 1, 7) := by decide +kernel
theorem cr_3_46 : cres 3 46 = some (42, 1, 0, 12) := by decide +kernel
theorem cr_3_113 : cres 3 113 = some (43, 3, 1, 12) := by decide +kernel
theorem cr_3_118 : cres 3 118 = some (44, 4, 1, 12) := by decide +kernel
theorem cr_3_145 : cres 3 145 = some (231, 1, 1, 17) := by decide +kernel
theorem cr_10_335 : cres 10 335 = some (233, 1, 1, 17) := by decide +kernel
theorem cr_3_150 : cres 3 150 = some (232, 2, 1, 17) := by decide +kernel
theorem cr_10_492 : cres 10 492 = some (234, 1, 1, 17) := by decide +kernel
theorem cr_10_495 : cres 10 495 = some (236, 2, 1, 1) := by decide +kernel
theorem cr_11_9 : cres 11 9 = some (235, 2, 0, 1) := by decide +kernel
theorem cr_10_1059 : cres 10 1059 = some (241, 3, 1, 1) := by decide +kernel
theorem cr_10_498 : cres 10 498 = some (239, 2, 1, 1) := by decide +kernel
theorem cr_12_67 : cres 12 67 = some (240, 2, 0, 1) := by decide +kernel
theorem cr_12_48 : cres 12 48 = some (238, 1, 1, 1) := by decide +kernel
theorem cr_12_414 : cres 12 414 = some (235, 2, 0, 1) := by decide +kernel
theorem cr_12_71 : cres 12 71 = some (237, 2, 1, 1) := by decide +kernel
theorem cr_3_49 : cres 3 49 = some (31, 2, 0, 12) := by decide +kernel
theorem cr_3_53 : cres 3 53 = some (32, 2, 1, 12) := by decide +kernel
theorem cr_3_61 : cres 3 61 = some (34, 2, 1, 12) := by decide +kernel
theorem cr_3_86 : cres 3 86 = some (37, 2, 1, 12) := by decide +kernel
theorem cr_3_64 : cres 3 64 = some (35, 2, 1, 12) := by decide +kernel
theorem cr_3_72 : cres 3 72 = some (33, 2, 1, 12) := by decide +kernel
theorem cr_3_79 : cres 3 79 = some (4, 1, 1, 10) := by decide +kernel
theorem cr_3_83 : cres 3 83 = some (36, 2, 1, 12) := by decide +kernel
theorem cr_3_89 : cres 3 89 = some (5, 4, 1, 10) := by decide +kernel
theorem cr_3_57 : cres 3 57 = some (30, 1, 1, 12) := by decide +kernel
theorem cr_20_158 : cres 20 158 = some (91, 3, 1, 15) := by decide +kernel
theorem cr_6_246 : cres 6 246 = some (107, 1, 1, 1) := by decide +kernel
theorem cr_20_162 : cres 20 162 = some (92, 3, 1, 15) := by decide +kernel
theorem cr_6_253 : cres 6 253 = some (13, 2, 1, 1) := by decide +kernel
theorem cr_20_166 : cres 20 166 = some (93, 4, 1, 15) := by decide +kernel
theorem cr_6_259 : cres 6 259 = some (108, 1, 1, 1) := by decide +kernel
theorem cr_6_263 : cres 6 263 = some (47, 4, 0, 13) := by decide +kernel
theorem cr_20_170 : cres 20 170 = some (94, 4, 1, 15) := by decide +kernel
theorem cr_6_267 : cres 6 267 = some (48, 4, 0, 13) := by decide +kernel
theorem cr_20_174 : cres 20 174 = some (95, 6, 1, 15) := by decide +kernel
theorem cr_6_272 : cres 6 272 = some (49, 4, 1, 13) := by decide +kernel
theorem cr_20_179 : cres 20 179 = some (96, 2, 1, 15) := by decide +kernel
theorem cr_20_183 : cres 20 183 = some (97, 2, 1, 15) := by decide +kernel
theorem cr_20_187 : cres 20 187 = some (98, 1, 1, 15) := by decide +kernel
theorem cr_20_191 : cres 20 191 = some (99, 1, 1, 15) := by decide +kernel
theorem cr_20_195 : cres 20 195 = some (100, 1, 1, 15) := by decide +kernel
theorem cr_20_199 : cres 20 199 = some (101, 2, 1, 15) := by decide +kernel
theorem cr_6_290 : cres 6 290 = some (9, 1, 1, 10) := by decide +kernel
theorem cr_20_203 : cres 20 203 = some (102, 2, 1, 15) := by decide +kernel
theorem cr_20_17 : cres 20 17 = some (140, 3, 1, 16) := by decide +kernel
theorem cr_7_95 : cres 7 95 = some (134, 1, 1, 1) := by decide +kernel
theorem cr_7_88 : cres 7 88 = some (126, 3, 1, 1) := by decide +kernel
theorem cr_7_99 : cres 7 99 = some (135, 1, 1, 1) := by decide +kernel
theorem cr_7_102 : cres 7 102 = some (127, 3, 1, 16) := by decide +kernel
theorem cr_7_75 : cres 7 75 = some (125, 2, 1, 16) := by decide +kernel
theorem cr_20_22 : cres 20 22 = some (141, 2, 1, 16) := by decide +kernel
theorem cr_20_26 : cres 20 26 = some (143, 3, 1, 16) := by decide +kernel
theorem cr_7_105 : cres 7 105 = some (137, 1, 1, 1) := by decide +kernel
theorem cr_7_109 : cres 7 109 = some (142, 4, 1, 16) := by decide +kernel
theorem cr_7_92 : cres 7 92 = some (138, 2, 1, 1) := by decide +kernel
theorem cr_20_30 : cres 20 30 = some (147, 3, 1, 16) := by decide +kernel
theorem cr_7_126 : cres 7 126 = some (136, 2, 1, 16) := by decide +kernel
theorem cr_7_119 : cres 7 119 = some (144, 2, 1, 16) := by decide +kernel
theorem cr_7_113 : cres 7 113 = some (139, 3, 1, 16) := by decide +kernel
theorem cr_7_85 : cres 7 85 = some (906, 2, 1, 6) := by decide +kernel
theorem cr_7_129 : cres 7 129 = some (146, 2, 1, 16) := by decide +kernel
theorem cr_7_122 : cres 7 122 = some (145, 3, 1, 16) := by decide +kernel
theorem cr_7_116 : cres 7 116 = some (908, 1, 1, 8) := by decide +kernel
theorem cr_20_35 : cres 20 35 = some (149, 4, 1, 16) := by decide +kernel
theorem cr_7_132 : cres 7 132 = some (148, 2, 1, 1) := by decide +kernel
theorem cr_20_39 : cres 20 39 = some (150, 2, 1, 16) := by decide +kernel
theorem cr_20_43 : cres 20 43 = some (154, 2, 1, 16) := by decide +kernel
theorem cr_7_146 : cres 7 146 = some (153, 2, 1, 16) := by decide +kernel
theorem cr_7_135 : cres 7 135 = some (151, 3, 1, 1) := by decide +kernel
theorem cr_7_79 : cres 7 79 = some (907, 2, 1, 7) := by decide +kernel
theorem cr_7_138 : cres 7 138 = some (133, 1, 1, 1) := by decide +kernel
theorem cr_7_141 : cres 7 141 = some (152, 3, 1, 1) := by decide +kernel
theorem cr_20_47 : cres 20 47 = some (156, 2, 1, 16) := by decide +kernel
theorem cr_7_149 : cres 7 149 = some (155, 2, 1, 16) := by decide +kernel
theorem cr_7_152 : cres 7 152 = some (132, 1, 1, 1) := by decide +kernel
theorem cr_7_155 : cres 7 155 = some (131, 2, 1, 1) := by decide +kernel
theorem cr_20_51 : cres 20 51 = some (161, 2, 1, 16) := by decide +kernel
theorem cr_7_164 : cres 7 164 = some (158, 1, 1, 16) := by decide +kernel
theorem cr_7_168 : cres 7 168 = some (160, 1, 1, 16) := by decide +kernel
theorem cr_7_161 : cres 7 161 = some (159, 2, 1, 16) := by decide +kernel
theorem cr_7_70 : cres 7 70 = some (128, 2, 0, 1) := by decide +kernel
theorem cr_7_158 : cres 7 158 = some (129, 2, 1, 16) := by decide +kernel
theorem cr_7_171 : cres 7 171 = some (157, 2, 1, 16) := by decide +kernel
theorem cr_20_55 : cres 20 55 = some (162, 2, 1, 16) := by decide +kernel
theorem cr_20_59 : cres 20 59 = some (164, 2, 1, 16) := by decide +kernel
theorem cr_7_174 : cres 7 174 = some (163, 3, 1, 16) := by decide +kernel
theorem cr_20_63 : cres 20 63 = some (165, 3, 1, 16) := by decide +kernel
theorem cr_20_67 : cres 20 67 = some (167, 3, 1, 16) := by decide +kernel
theorem cr_7_177 : cres 7 177 = some (166, 3, 1, 16) := by decide +kernel
theorem cr_20_71 : cres 20 71 = some (168, 2, 1, 16) := by decide +kernel
theorem cr_20_75 : cres 20 75 = some (171, 2, 1, 16) := by decide +kernel
theorem cr_7_180 : cres 7 180 = some (170, 4, 1, 16) := by decide +kernel
theorem cr_7_183 : cres 7 183 = some (130, 2, 1, 16) := by decide +kernel
theorem cr_20_79 : cres 20 79 = some (172, 2, 1, 16) := by decide +kernel
theorem cr_7_186 : cres 7 186 = some (169, 4, 1, 16) := by decide +kernel
theorem cr_20_83 : cres 20 83 = some (173, 2, 1, 16) := by decide +kernel
theorem cr_20_87 : cres 20 87 = some (174, 2, 1, 16) := by decide +kernel
theorem cr_20_91 : cres 20 91 = some (179, 3, 1, 16) := by decide +kernel
theorem cr_7_207 : cres 7 207 = some (178, 3, 0, 16) := by decide +kernel
theorem cr_7_200 : cres 7 200 = some (177, 5, 0, 16) := by decide +kernel
theorem cr_7_196 : cres 7 196 = some (175, 2, 0, 16) := by decide +kernel
theorem cr_7_204 : cres 7 204 = some (176, 2, 0, 16) := by decide +kernel
theorem cr_20_95 : cres 20 95 = some (180, 2, 1, 16) := by decide +kernel
theorem cr_20_99 : cres 20 99 = some (181, 2, 1, 16) := by decide +kernel
theorem cr_20_104 : cres 20 104 = some (182, 1, 1, 16) := by decide +kernel
theorem cr_20_108 : cres 20 108 = some (184, 2, 1, 16) := by decide +kernel
theorem cr_7_211 : cres 7 211 = some (183, 2, 0, 16) := by decide +kernel
theorem cr_20_112 : cres 20 112 = some (185, 1, 1, 16) := by decide +kernel
theorem cr_20_116 : cres 20 116 = some (187, 3, 1, 16) := by decide +kernel
theorem cr_7_214 : cres 7 214 = some (186, 3, 1, 16) := by decide +kernel
theorem cr_20_120 : cres 20 120 = some (188, 2, 1, 16) := by decide +kernel
theorem cr_20_124 : cres 20 124 = some (193, 3, 1, 16) := by decide +kernel
theorem cr_7_233 : cres 7 233 = some (190, 3, 1, 16) := by decide +kernel
theorem cr_7_224 : cres 7 224 = some (189, 2, 1, 16) := by decide +kernel
theorem cr_7_220 : cres 7 220 = some (216, 1, 1, 1) := by decide +kernel
theorem cr_7_236 : cres 7 236 = some (192, 3, 1, 16) := by decide +kernel
theorem cr_7_230 : cres 7 230 = some (191, 3, 1, 16) := by decide +kernel
theorem cr_20_128 : cres 20 128 = some (194, 3, 1, 16) := by decide +kernel
theorem cr_20_132 : cres 20 132 = some (195, 2, 1, 16) := by decide +kernel
theorem cr_20_136 : cres 20 136 = some (197, 2, 1, 16) := by decide +kernel
theorem cr_7_240 : cres 7 240 = some (196, 1, 1, 16) := by decide +kernel
theorem cr_20_141 : cres 20 141 = some (198, 4, 1, 16) := by decide +kernel
theorem cr_20_145 : cres 20 145 = some (199, 2, 1, 16) := by decide +kernel
theorem cr_20_149 : cres 20 149 = some (200, 3, 1, 16) := by decide +kernel
theorem cr_20_153 : cres 20 153 = some (201, 1, 1, 16) := by decide +kernel
theorem cr_20_157 : cres 20 157 = some (212, 1, 1, 16) := by decide +kernel
theorem cr_7_272 : cres 7 272 = some (203, 1, 0, 16) := by decide +kernel
theorem cr_7_252 : cres 7 252 = some (202, 2, 1, 16) := by decide +kernel
theorem cr_7_315 : cres 7 315 = some (210, 1, 0, 16) := by decide +kernel
theorem cr_7_289 : cres 7 289 = some (208, 1, 1, 16) := by decide +kernel
theorem cr_7_282 : cres 7 282 = some (204, 2, 1, 16) := by decide +kernel
theorem cr_7_261 : cres 7 261 = some (231, 1, 1, 17) := by decide +kernel
theorem cr_7_264 : cres 7 264 = some (232, 2, 1, 17) := by decide +kernel
theorem cr_7_275 : cres 7 275 = some (205, 2, 0, 16) := by decide +kernel
theorem cr_7_297 : cres 7 297 = some (209, 3, 1, 16) := by decide +kernel
theorem cr_7_286 : cres 7 286 = some (206, 3, 1, 16) := by decide +kernel
theorem cr_7_303 : cres 7 303 = some (207, 4, 0, 16) := by decide +kernel
theorem cr_7_318 : cres 7 318 = some (211, 2, 1, 16) := by decide +kernel
theorem cr_20_161 : cres 20 161 = some (214, 3, 1, 16) := by decide +kernel
theorem cr_7_321 : cres 7 321 = some (213, 1, 1, 1) := by decide +kernel
theorem cr_20_165 : cres 20 165 = some (215, 3, 1, 16) := by decide +kernel
theorem cr_7_324 : cres 7 324 = some (222, 2, 1, 1) := by decide +kernel
theorem cr_7_332 : cres 7 332 = some (221, 1, 1, 1) := by decide +kernel
theorem cr_20_169 : cres 20 169 = some (218, 4, 1, 16) := by decide +kernel
theorem cr_20_173 : cres 20 173 = some (219, 4, 1, 16) := by decide +kernel
theorem cr_7_329 : cres 7 329 = some (217, 2, 1, 1) := by decide +kernel
theorem cr_20_178 : cres 20 178 = some (220, 6, 1, 16) := by decide +kernel
theorem cr_20_182 : cres 20 182 = some (223, 2, 1, 16) := by decide +kernel
theorem cr_20_186 : cres 20 186 = some (224, 2, 1, 16) := by decide +kernel
theorem cr_20_190 : cres 20 190 = some (225, 1, 1, 16) := by decide +kernel
theorem cr_20_194 : cres 20 194 = some (226, 1, 1, 16) := by decide +kernel
theorem cr_20_198 : cres 20 198 = some (227, 1, 1, 16) := by decide +kernel
theorem cr_20_202 : cres 20 202 = some (228, 2, 1, 16) := by decide +kernel
theorem cr_20_206 : cres 20 206 = some (229, 2, 1, 16) := by decide +kernel
theorem cr_5_59 : cres 5 59 = some (110, 1, 1, 2) := by decide +kernel
theorem cr_2_72 : cres 2 72 = some (109, 2, 1, 2) := by decide +kernel
theorem cr_4_23 : cres 4 23 = some (108, 1, 1, 2) := by decide +kernel
theorem cr_3_75 : cres 3 75 = some (106, 1, 1, 2) := by decide +kernel
theorem cr_1_22 : cres 1 22 = some (106, 1, 1, 2) := by decide +kernel
theorem cr_0_43 : cres 0 43 = some (999, 5, 0, 5) := by decide +kernel
theorem cr_2_59 : cres 2 59 = some (999, 5, 0, 5) := by decide +kernel
theorem cr_6_280 : cres 6 280 = some (999, 5, 0, 5) := by decide +kernel
theorem fr_0_9 : fres 0 9 = some (0, 0) := by decide +kernel
theorem fr_6_73 : fres 6 73 = some (0, 0) := by decide +kernel
theorem fr_2_56 : fres 2 56 = some (0, 0) := by decide +kernel
theorem fr_3_93 : fres 3 93 = some (0, 0) := by decide +kernel
theorem fr_0_15 : fres 0 15 = some (0, 1) := by decide +kernel
theorem fr_5_34 : fres 5 34 = some (0, 1) := by decide +kernel
theorem fr_6_91 : fres 6 91 = some (0, 1) := by decide +kernel
theorem fr_0_18 : fres 0 18 = some (0, 2) := by decide +kernel
theorem fr_5_37 : fres 5 37 = some (0, 2) := by decide +kernel
theorem fr_6_94 : fres 6 94 = some (0, 2) := by decide +kernel
theorem fr_0_21 : fres 0 21 = some (0, 3) := by decide +kernel
theorem fr_5_40 : fres 5 40 = some (0, 3) := by decide +kernel
theorem fr_6_97 : fres 6 97 = some (0, 3) := by decide +kernel
theorem fr_0_24 : fres 0 24 = some (0, 4) := by decide +kernel
theorem fr_6_100 : fres 6 100 = some (0, 4) := by decide +kernel
theorem fr_0_27 : fres 0 27 = some (0, 5) := by decide +kernel
theorem fr_6_249 : fres 6 249 = some (0, 5) := by decide +kernel
theorem fr_0_30 : fres 0 30 = some (0, 6) := by decide +kernel
theorem fr_6_145 : fres 6 145 = some (0, 6) := by decide +kernel
theorem fr_2_86 : fres 2 86 = some (0, 6) := by decide +kernel
theorem fr_0_34 : fres 0 34 = some (0, 7) := by decide +kernel
theorem fr_5_43 : fres 5 43 = some (0, 7) := by decide +kernel
theorem fr_3_67 : fres 3 67 = some (0, 7) := by decide +kernel
theorem fr_6_113 : fres 6 113 = some (0, 7) := by decide +kernel
theorem fr_0_37 : fres 0 37 = some (0, 8) := by decide +kernel
theorem fr_6_117 : fres 6 117 = some (0, 8) := by decide +kernel
theorem fr_0_40 : fres 0 40 = some (0, 9) := by decide +kernel
theorem fr_6_231 : fres 6 231 = some (0, 9) := by decide +kernel
theorem fr_5_9 : fres 5 9 = some (4, 0) := by decide +kernel
theorem fr_6_154 : fres 6 154 = some (4, 0) := by decide +kernel
theorem fr_5_15 : fres 5 15 = some (4, 1) := by decide +kernel
theorem fr_6_177 : fres 6 177 = some (4, 1) := by decide +kernel
theorem fr_5_19 : fres 5 19 = some (4, 2) := by decide +kernel
theorem fr_6_151 : fres 6 151 = some (4, 2) := by decide +kernel
theorem fr_5_22 : fres 5 22 = some (4, 3) := by decide +kernel
theorem fr_6_169 : fres 6 169 = some (4, 3) := by decide +kernel
theorem fr_5_25 : fres 5 25 = some (4, 4) := by decide +kernel
theorem fr_2_12 : fres 2 12 = some (1, 0) := by decide +kernel
theorem fr_2_21 : fres 2 21 = some (1, 1) := by decide +kernel
theorem fr_2_27 : fres 2 27 = some (1, 2) := by decide +kernel
theorem fr_2_30 : fres 2 30 = some (1, 3) := by decide +kernel
theorem fr_3_9 : fres 3 9 = some (2, 0) := by decide +kernel
theorem fr_3_15 : fres 3 15 = some (2, 1) := by decide +kernel
theorem fr_6_234 : fres 6 234 = some (2, 1) := by decide +kernel
theorem fr_3_19 : fres 3 19 = some (2, 2) := by decide +kernel
theorem fr_3_22 : fres 3 22 = some (2, 3) := by decide +kernel
theorem fr_3_25 : fres 3 25 = some (2, 4) := by decide +kernel
theorem fr_3_28 : fres 3 28 = some (2, 5) := by decide +kernel
theorem fr_3_31 : fres 3 31 = some (2, 6) := by decide +kernel
theorem fr_3_34 : fres 3 34 = some (2, 7) := by decide +kernel
theorem fr_3_37 : fres 3 37 = some (2, 8) := by decide +kernel
theorem fr_3_40 : fres 3 40 = some (2, 9) := by decide +kernel
theorem fr_4_11 : fres 4 11 = some (3, 0) := by decide +kernel
theorem fr_6_276 : fres 6 276 = some (3, 0) := by decide +kernel
theorem fr_4_16 : fres 4 16 = some (3, 1) := by decide +kernel
theorem fr_6_269 : fres 6 269 = some (3, 1) := by decide +kernel
theorem fr_4_20 : fres 4 20 = some (3, 2) := by decide +kernel
theorem fr_6_218 : fres 6 218 = some (3, 2) := by decide +kernel
theorem fr_6_12 : fres 6 12 = some (5, 0) := by decide +kernel
theorem fr_6_16 : fres 6 16 = some (5, 1) := by decide +kernel
theorem fr_6_19 : fres 6 19 = some (5, 2) := by decide +kernel
theorem fr_6_25 : fres 6 25 = some (5, 3) := by decide +kernel
theorem fr_6_29 : fres 6 29 = some (5, 4) := by decide +kernel
theorem fr_6_36 : fres 6 36 = some (5, 5) := by decide +kernel
theorem fr_6_43 : fres 6 43 = some (5, 6) := by decide +kernel
theorem fr_6_50 : fres 6 50 = some (5, 7) := by decide +kernel
theorem fr_6_54 : fres 6 54 = some (5, 8) := by decide +kernel
theorem fr_6_57 : fres 6 57 = some (5, 9) := by decide +kernel
theorem fr_7_9 : fres 7 9 = some (6, 0) := by decide +kernel
theorem fr_7_13 : fres 7 13 = some (6, 1) := by decide +kernel
theorem fr_7_16 : fres 7 16 = some (6, 2) := by decide +kernel
theorem fr_7_335 : fres 7 335 = some (6, 3) := by decide +kernel
theorem fr_7_19 : fres 7 19 = some (6, 4) := by decide +kernel
theorem fr_7_22 : fres 7 22 = some (6, 5) := by decide +kernel
theorem fr_7_25 : fres 7 25 = some (6, 6) := by decide +kernel
theorem fr_7_28 : fres 7 28 = some (6, 7) := by decide +kernel
theorem fr_7_189 : fres 7 189 = some (6, 8) := by decide +kernel
theorem fr_7_193 : fres 7 193 = some (6, 9) := by decide +kernel
theorem fr_7_227 : fres 7 227 = some (6, 10) := by decide +kernel
theorem fr_7_31 : fres 7 31 = some (6, 11) := by decide +kernel
theorem fr_7_243 : fres 7 243 = some (6, 12) := by decide +kernel
theorem fr_7_249 : fres 7 249 = some (6, 13) := by decide +kernel
theorem fr_7_246 : fres 7 246 = some (6, 14) := by decide +kernel
theorem fr_7_258 : fres 7 258 = some (6, 15) := by decide +kernel
theorem fr_7_255 : fres 7 255 = some (6, 16) := by decide +kernel
theorem fr_7_268 : fres 7 268 = some (6, 17) := by decide +kernel
theorem fr_7_50 : fres 7 50 = some (6, 18) := by decide +kernel
theorem fr_7_54 : fres 7 54 = some (6, 19) := by decide +kernel
theorem fr_7_279 : fres 7 279 = some (6, 20) := by decide +kernel
theorem fr_7_292 : fres 7 292 = some (6, 21) := by decide +kernel
theorem fr_7_57 : fres 7 57 = some (6, 22) := by decide +kernel
theorem fr_7_60 : fres 7 60 = some (6, 23) := by decide +kernel
theorem fr_7_63 : fres 7 63 = some (6, 24) := by decide +kernel
theorem fr_7_66 : fres 7 66 = some (6, 25) := by decide +kernel
theorem kr_6_68 : kres 6 68 = some (-1000001) := by decide +kernel
theorem skr_6_68 : sres 6 68 = none := by decide +kernel
theorem kr_6_83 : kres 6 83 = some (-1000002) := by decide +kernel
theorem skr_6_83 : sres 6 83 = none := by decide +kernel
theorem kr_6_120 : kres 6 120 = some (99999) := by decide +kernel
theorem skr_6_120 : sres 6 120 = none := by decide +kernel
theorem kr_6_121 : kres 6 121 = some (-1000005) := by decide +kernel
theorem skr_6_121 : sres 6 121 = none := by decide +kernel
theorem kr_16_265 : kres 16 265 = some (1431655765) := by decide +kernel
theorem skr_16_265 : sres 16 265 = none := by decide +kernel
theorem kr_16_266 : kres 16 266 = some (858993459) := by decide +kernel
theorem skr_16_266 : sres 16 266 = none := by decide +kernel
theorem kr_16_267 : kres 16 267 = some (252645135) := by decide +kernel
theorem skr_16_267 : sres 16 267 = none := by decide +kernel
theorem kr_6_172 : kres 6 172 = some (-1000004) := by decide +kernel
theorem skr_6_172 : sres 6 172 = none := by decide +kernel
theorem kr_4_27 : kres 4 27 = some (-1000001) := by decide +kernel
theorem skr_4_27 : sres 4 27 = none := by decide +kernel
theorem kr_4_28 : kres 4 28 = some (-1000006) := by decide +kernel
theorem skr_4_28 : sres 4 28 = none := by decide +kernel
theorem kr_0_71 : kres 0 71 = some (1103515245) := by decide +kernel
theorem skr_0_71 : sres 0 71 = none := by decide +kernel
theorem kr_6_252 : kres 6 252 = some (-1000006) := by decide +kernel
theorem skr_6_252 : sres 6 252 = none := by decide +kernel
theorem kr_6_258 : kres 6 258 = some (-1000003) := by decide +kernel
theorem skr_6_258 : sres 6 258 = none := by decide +kernel
theorem kr_6_262 : kres 6 262 = some (-1000007) := by decide +kernel
theorem skr_6_262 : sres 6 262 = none := by decide +kernel
theorem kr_7_69 : kres 7 69 = some (-1000001) := by decide +kernel
theorem skr_7_69 : sres 7 69 = none := by decide +kernel
theorem kr_7_108 : kres 7 108 = some (-1000002) := by decide +kernel
theorem skr_7_108 : sres 7 108 = none := by decide +kernel
theorem kr_7_144 : kres 7 144 = some (99999) := by decide +kernel
theorem skr_7_144 : sres 7 144 = none := by decide +kernel
theorem kr_7_145 : kres 7 145 = some (-1000005) := by decide +kernel
theorem skr_7_145 : sres 7 145 = none := by decide +kernel
theorem kr_7_74 : kres 7 74 = some (-1000004) := by decide +kernel
theorem skr_7_74 : sres 7 74 = none := by decide +kernel
theorem kr_7_219 : kres 7 219 = some (2147483647) := by decide +kernel
theorem skr_7_219 : sres 7 219 = none := by decide +kernel
theorem kr_7_223 : kres 7 223 = some (-1000006) := by decide +kernel
theorem skr_7_223 : sres 7 223 = none := by decide +kernel
theorem kr_7_239 : kres 7 239 = some (1103515245) := by decide +kernel
theorem skr_7_239 : sres 7 239 = none := by decide +kernel
theorem kr_7_327 : kres 7 327 = some (-1000003) := by decide +kernel
theorem skr_7_327 : sres 7 327 = none := by decide +kernel
theorem kr_7_328 : kres 7 328 = some (-1000007) := by decide +kernel
theorem skr_7_328 : sres 7 328 = none := by decide +kernel
theorem sr_3_116 : sres 3 116 = some 0 := by decide +kernel
theorem sr_3_122 : sres 3 122 = some 1 := by decide +kernel
theorem sr_3_124 : sres 3 124 = some 2 := by decide +kernel
theorem sr_3_126 : sres 3 126 = some 3 := by decide +kernel
theorem sr_3_128 : sres 3 128 = some 4 := by decide +kernel
theorem sr_3_130 : sres 3 130 = some 5 := by decide +kernel
theorem sr_3_132 : sres 3 132 = some 6 := by decide +kernel
theorem sr_3_134 : sres 3 134 = some 7 := by decide +kernel
theorem sr_3_136 : sres 3 136 = some 8 := by decide +kernel
theorem sr_3_138 : sres 3 138 = some 9 := by decide +kernel
theorem sr_3_139 : sres 3 139 = some 10 := by decide +kernel
theorem sr_3_141 : sres 3 141 = some 11 := by decide +kernel
theorem sr_3_143 : sres 3 143 = some 12 := by decide +kernel
theorem sr_7_36 : sres 7 36 = some 0 := by decide +kernel
theorem sr_7_38 : sres 7 38 = some 1 := by decide +kernel
theorem sr_7_40 : sres 7 40 = some 2 := by decide +kernel
theorem sr_7_42 : sres 7 42 = some 3 := by decide +kernel
theorem sr_7_44 : sres 7 44 = some 4 := by decide +kernel
theorem sr_7_46 : sres 7 46 = some 5 := by decide +kernel
theorem sr_7_48 : sres 7 48 = some 6 := by decide +kernel
theorem sr_7_295 : sres 7 295 = some 11 := by decide +kernel
theorem sr_7_301 : sres 7 301 = some 12 := by decide +kernel
theorem sr_7_307 : sres 7 307 = some 7 := by decide +kernel
theorem sr_7_309 : sres 7 309 = some 8 := by decide +kernel
theorem sr_7_311 : sres 7 311 = some 9 := by decide +kernel
theorem sr_7_313 : sres 7 313 = some 10 := by decide +kernel
end
section
/-! THE ABSTRACT MACHINE: places for cells, one memory of ints, ops by 'decode' -/
abbrev Mem : Type := Nat → Nat → Int32
def mrow (M : Mem) (p : Nat) (f : Nat → Int32) : Mem := fun q => if q = p then f else M q
def mset (M : Mem) (p i : Nat) (v : Int32) : Mem := mrow M p (upd (M p) i v)
/-- shapes of the places: (0, n, []) a row of n ints; (1, class, slots) an object (a slot: an int, or the place of what it holds); (2, t, places) a row of references -/
def shp : List (Nat × Nat × List (Option Nat)) := [
  (1, 5, [some 1, some 8, some 15, some 22, some 24, some 25, some 44, some 50, some 58, none]),
  (1, 0, [some 2, some 3, some 4, some 5, some 6, some 7, none, none, none, none]), (0, 12, []), (0, 6, []), (0, 6, []), (0, 6, []), (0, 6, []), (0, 10, []),
  (1, 0, [some 9, some 10, some 11, some 12, some 13, some 14, none, none, none, none]), (0, 12, []), (0, 6, []), (0, 6, []), (0, 6, []), (0, 6, []), (0, 10, []),
  (1, 0, [some 16, some 17, some 18, some 19, some 20, some 21, none, none, none, none]), (0, 12, []), (0, 6, []), (0, 6, []), (0, 6, []), (0, 6, []), (0, 10, []),
  (1, 4, [some 23, none, none, none, none]), (0, 12, []),
  (0, 12, []),
  (1, 1, [some 26, some 33, some 35, some 43]),
  (1, 0, [some 27, some 28, some 29, some 30, some 31, some 32, none, none, none, none]), (0, 12, []), (0, 6, []), (0, 6, []), (0, 6, []), (0, 6, []), (0, 10, []),
  (1, 4, [some 34, none, none, none, none]), (0, 12, []),
  (2, 0, [some 36, some 37, some 38, some 39, some 40, some 41, some 42]), (0, 12, []), (0, 12, []), (0, 12, []), (0, 12, []), (0, 12, []), (0, 12, []), (0, 12, []),
  (0, 6, []),
  (1, 2, [some 45, none, some 46, some 47, some 48, some 49, none, none, none, none]), (0, 120, []), (0, 121, []), (0, 121, []), (0, 121, []), (0, 121, []),
  (1, 3, [some 51, some 56, some 57]), (2, 0, [some 52, some 53, some 54, some 55]), (0, 40, []), (0, 40, []), (0, 40, []), (0, 40, []), (0, 4, []), (0, 4, []),
  (0, 7, []),
  (1, 6, [some 60, some 61, some 62, none, some 63, some 64, some 65, some 66, none, none, none, some 67, none, none, none, none, none, none, some 68, some 69, none, none, some 70, some 71, some 72, some 73]), (0, 50, []), (0, 50, []), (0, 50, []), (0, 8, []), (0, 350, []), (0, 6, []), (0, 6, []), (0, 120, []), (2, 1, [some 100, some 101, some 102, some 103, some 104, some 105, some 106]), (0, 360, []), (0, 4, []), (0, 4, []), (0, 160, []), (0, 40, [])]
def shO (p : Nat) : Nat × Nat × List (Option Nat) := shp.getD p (9, 0, [])
def NP : Nat := 74
def fldV (σ : Nat → Nat) (M : Mem) (p : Nat) (sl : List (Option Nat)) (k : Nat) : Value := match sl.getD k none with
  | some q => .ref (σ q)
  | none => .int (M p k)
def cel (σ : Nat → Nat) (tc : Nat × Nat × Nat) (M : Mem) (p : Nat) : va_E :=
  if (shO p).1 = 0 then .inl (tc.1, (shO p).2.1, .inl (M p))
  else if (shO p).1 = 1 then .inr ((shO p).2.1, (List.range (shO p).2.2.length).map (fldV σ M p (shO p).2.2))
  else .inl (if (shO p).2.1 = 0 then tc.2.1 else tc.2.2, (shO p).2.2.length, .inr (.inr (.inr (.inr (fun i => ((shO p).2.2.getD i none).map σ)))))
def wsM (σ : Nat → Nat) (tc : Nat × Nat × Nat) (M : Mem) : va_W := (List.range NP).map (fun p => (σ p, cel σ tc M p))
def tysM (tc : Nat × Nat × Nat) : List (ClassId × FieldType) := [(tc.1, .int), (tc.2.1, .array .int), (tc.2.2, .object "java/lang/String")]
/-- the cells of the places -/
def Am (σ : Nat → Nat) : Nat → Prop := fun q => ∃ p, p < NP ∧ q = σ p
def InjM (σ : Nat → Nat) : Prop := ∀ p q, p < NP → q < NP → σ p = σ q → p = q
def vr (σ : Nat → Nat) : Value → Value
  | .ref q => .ref (σ q)
  | v => v
theorem vr_cat (σ : Nat → Nat) (v : Value) : (vr σ v).category = v.category := by cases v <;> rfl
theorem ws_len (σ : Nat → Nat) (tc : Nat × Nat × Nat) (M : Mem) : (wsM σ tc M).length = NP := by simp [wsM]
theorem ws_get {σ : Nat → Nat} {tc : Nat × Nat × Nat} {M : Mem} {p : Nat} (h : p < NP) : (wsM σ tc M)[p]? = some (σ p, cel σ tc M p) := by
  simp [wsM, h]
theorem ws_inv {σ : Nat → Nat} {tc : Nat × Nat × Nat} {M : Mem} {k : Nat} {q : Nat × va_E} (h : (wsM σ tc M)[k]? = some q) : k < NP ∧ q = (σ k, cel σ tc M k) := by
  have hk : k < NP := by
    have := (List.getElem?_eq_some_iff.mp h).1
    rwa [ws_len] at this
  rw [ws_get hk] at h
  exact ⟨hk, (Option.some.inj h).symm⟩
theorem ws_D {σ : Nat → Nat} {tc : Nat × Nat × Nat} {M : Mem} (h : InjM σ) : va_D (Am σ) (wsM σ tc M) := by
  refine ⟨fun i j x y hi hj hxy => ?_, fun k q hk => ?_⟩
  · obtain ⟨h1, rfl⟩ := ws_inv hi
    obtain ⟨h2, rfl⟩ := ws_inv hj
    exact h i j h1 h2 hxy
  · obtain ⟨h1, rfl⟩ := ws_inv hk
    exact ⟨k, h1, rfl⟩
theorem cel_ne {σ : Nat → Nat} {tc : Nat × Nat × Nat} {M : Mem} {p q : Nat} {f : Nat → Int32} (h : q ≠ p) : cel σ tc (mrow M p f) q = cel σ tc M q := by
  have e : mrow M p f q = M q := if_neg h
  have e2 : fldV σ (mrow M p f) q (shO q).2.2 = fldV σ M q (shO q).2.2 := by
    funext k
    unfold fldV
    rw [e]
  unfold cel
  rw [e, e2]
theorem ws_set {σ : Nat → Nat} {tc : Nat × Nat × Nat} {M : Mem} {p : Nat} {f : Nat → Int32} {x : va_E} (hx : cel σ tc (mrow M p f) p = x) : (wsM σ tc M).set p (σ p, x) = wsM σ tc (mrow M p f) := by
  apply List.ext_getElem?
  intro k
  by_cases hk : k < NP
  · rw [ws_get hk, List.getElem?_set]
    by_cases hp : p = k
    · subst hp
      simp [ws_len, hk, hx]
    · rw [if_neg hp, ws_get hk, cel_ne (fun q => hp q.symm)]
  · rw [List.getElem?_eq_none (by rw [List.length_set, ws_len]; omega), List.getElem?_eq_none (by rw [ws_len]; omega)]
theorem ws_setA {σ : Nat → Nat} {tc : Nat × Nat × Nat} {M : Mem} {p n : Nat} {f : Nat → Int32} {o : List (Option Nat)} (hs : shO p = (0, n, o)) : (wsM σ tc M).set p (σ p, .inl (tc.1, n, .inl f)) = wsM σ tc (mrow M p f) := by
  refine ws_set ?_
  unfold cel
  rw [hs]
  show Sum.inl (tc.1, n, Sum.inl (mrow M p f p)) = _
  rw [show mrow M p f p = f from if_pos rfl]
theorem cel_A {σ : Nat → Nat} {tc : Nat × Nat × Nat} {M : Mem} {p n : Nat} {o : List (Option Nat)} (hs : shO p = (0, n, o)) : cel σ tc M p = .inl (tc.1, n, .inl (M p)) := by
  unfold cel; rw [hs]; rfl
theorem cel_O {σ : Nat → Nat} {tc : Nat × Nat × Nat} {M : Mem} {p ci : Nat} {sl : List (Option Nat)} (hs : shO p = (1, ci, sl)) : cel σ tc M p = .inr (ci, (List.range sl.length).map (fldV σ M p sl)) := by
  unfold cel; rw [hs]; rfl
theorem cel_R {σ : Nat → Nat} {tc : Nat × Nat × Nat} {M : Mem} {p t : Nat} {sl : List (Option Nat)} (hs : shO p = (2, t, sl)) : cel σ tc M p = .inl (if t = 0 then tc.2.1 else tc.2.2, sl.length, .inr (.inr (.inr (.inr (fun i => (sl.getD i none).map σ))))) := by
  unfold cel; rw [hs]; rfl
theorem ws_setF {σ : Nat → Nat} {tc : Nat × Nat × Nat} {M : Mem} {p ci k : Nat} {sl : List (Option Nat)} {v : Int32} (hs : shO p = (1, ci, sl)) (hk : sl[k]? = some none) : (wsM σ tc M).set p (σ p, .inr (ci, ((List.range sl.length).map (fldV σ M p sl)).set k (.int v))) = wsM σ tc (mset M p k v) := by
  refine ws_set ?_
  rw [cel_O hs]
  congr 2
  apply List.ext_getElem?
  intro j
  have hkl : k < sl.length := (List.getElem?_eq_some_iff.mp hk).1
  rw [List.getElem?_set]
  by_cases hj : j < sl.length
  · by_cases e : k = j
    · subst e
      have e0 : sl[k] = none := (List.getElem?_eq_some_iff.mp hk).2
      simp [hj, fldV, hk, mrow, upd, e0]
    · rw [if_neg e]
      simp only [List.getElem?_map, List.getElem?_range hj, Option.map_some]
      congr 1
      unfold fldV
      have : mrow M p (upd (M p) k v) p j = M p j := by simp [mrow, upd, Ne.symm e]
      rw [this]
  · rw [List.getElem?_eq_none (by simp; omega)]
    by_cases e : k = j
    · omega
    · rw [if_neg e, List.getElem?_eq_none (by simp; omega)]
theorem place_lt {p : Nat} {x : Nat × Nat × List (Option Nat)} (h : shO p = x) (hx : x.1 ≠ 9) : p < NP := by
  rcases Nat.lt_or_ge p NP with q | q
  · exact q
  · exfalso
    apply hx
    rw [← h]
    show (shp.getD p (9, 0, [])).1 = 9
    have : shp.length ≤ p := by
      have e : shp.length = NP := by decide +kernel
      omega
    simp [List.getD, List.getElem?_eq_none this]
/-! LOCALS: a list by place; what isn't known is a retAddr -/
def isU : Value → Bool
  | .retAddr _ => true
  | _ => false
def prs (σ : Nat → Nat) (L : List Value) : List (Nat × Value) := (List.range L.length).filterMap (fun i => match L[i]? with
  | some v => if isU v then none else some (i, vr σ v)
  | none => none)
theorem prs_mem {σ : Nat → Nat} {L : List Value} {q : Nat × Value} : q ∈ prs σ L ↔ ∃ v, L[q.1]? = some v ∧ isU v = false ∧ q.2 = vr σ v := by
  unfold prs
  rw [List.mem_filterMap]
  constructor
  · rintro ⟨i, -, hi⟩
    cases hl : L[i]? with
    | none => rw [hl] at hi; cases hi
    | some v =>
      rw [hl] at hi
      dsimp only at hi
      cases hu : isU v with
      | true => rw [hu] at hi; cases hi
      | false =>
        rw [hu] at hi
        cases hi
        exact ⟨v, hl, hu, rfl⟩
  · rintro ⟨v, hl, hu, hq⟩
    refine ⟨q.1, List.mem_range.mpr (List.getElem?_eq_some_iff.mp hl).1, ?_⟩
    rw [hl]
    dsimp only
    rw [hu, ← hq]
    rfl
theorem prs_at {σ : Nat → Nat} {ls : Array Slot} {nL : Nat} {L : List Value} {i : Nat} {v : Value} (h : lv_has ls nL (prs σ L)) (hv : L[i]? = some v) (hu : isU v = false) : ls[i]? = some (.val (vr σ v)) := h.2.2 (i, vr σ v) (prs_mem.mpr ⟨v, hv, hu, rfl⟩)
/-- nothing of two slots stands just ahead of place i -/
def lok (L : List Value) : Nat → Bool
  | 0 => true
  | i + 1 => match L[i]? with
    | some v => v.category == 1
    | none => true
theorem prs_set1 {σ : Nat → Nat} {ls : Array Slot} {nL i : Nat} {L : List Value} {v : Value} (h : lv_has ls nL ((i, vr σ v) :: (prs σ L).filter (fun q => !(q.1 == i) && !(q.1 + 1 == i && q.2.category == 2)))) (hk : lok L i = true) : lv_has ls nL (prs σ (L.set i v)) := by
  refine ⟨h.1, h.2.1, fun q hq => h.2.2 q ?_⟩
  obtain ⟨w, h1, h2, h3⟩ := prs_mem.mp hq
  rw [List.getElem?_set] at h1
  by_cases e : i = q.1
  · rw [if_pos e] at h1
    split at h1
    · cases h1
      refine List.mem_cons.mpr (Or.inl ?_)
      rw [e, ← h3]
    · cases h1
  · rw [if_neg e] at h1
    refine List.mem_cons_of_mem _ (List.mem_filter.mpr ⟨prs_mem.mpr ⟨w, h1, h2, h3⟩, ?_⟩)
    simp only [Bool.and_eq_true, Bool.not_eq_true', beq_eq_false_iff_ne, ne_eq, Bool.and_eq_false_iff]
    refine ⟨fun q => e q.symm, ?_⟩
    by_cases e2 : q.1 + 1 = i
    · right
      subst e2
      have hk : (match L[q.1]? with | some v => v.category == 1 | none => true) = true := hk
      rw [h1] at hk
      rw [h3, vr_cat]
      have : w.category = 1 := by simpa using hk
      omega
    · left
      exact e2
theorem prs_set2 {σ : Nat → Nat} {ls : Array Slot} {nL i : Nat} {L : List Value} {v : Value} (h : lv_has ls nL ((i, vr σ v) :: (prs σ L).filter (fun q => !(q.1 == i) && (!(q.1 == i + 1) && !(q.1 + 1 == i && q.2.category == 2))))) (hk : lok L i = true) : lv_has ls nL (prs σ ((L.set i v).set (i + 1) (.retAddr 0))) := by
  refine ⟨h.1, h.2.1, fun q hq => h.2.2 q ?_⟩
  obtain ⟨w, h1, h2, h3⟩ := prs_mem.mp hq
  rw [List.getElem?_set] at h1
  by_cases e0 : i + 1 = q.1
  · rw [if_pos e0] at h1
    split at h1
    · cases h1
      cases h2
    · cases h1
  rw [if_neg e0, List.getElem?_set] at h1
  by_cases e : i = q.1
  · rw [if_pos e] at h1
    split at h1
    · cases h1
      refine List.mem_cons.mpr (Or.inl ?_)
      rw [e, ← h3]
    · cases h1
  · rw [if_neg e] at h1
    refine List.mem_cons_of_mem _ (List.mem_filter.mpr ⟨prs_mem.mpr ⟨w, h1, h2, h3⟩, ?_⟩)
    simp only [Bool.and_eq_true, Bool.not_eq_true', beq_eq_false_iff_ne, ne_eq, Bool.and_eq_false_iff]
    refine ⟨fun q => e q.symm, fun q => e0 q.symm, ?_⟩
    by_cases e2 : q.1 + 1 = i
    · right
      subst e2
      have hk : (match L[q.1]? with | some v => v.category == 1 | none => true) = true := hk
      rw [h1] at hk
      rw [h3, vr_cat]
      have : w.category = 1 := by simpa using hk
      omega
    · left
      exact e2
end
section
/-! WHAT IS ONLY READ: string constants (places 100 + j, their bytes 120 + j), the row KIND_ABOVE (place 90) -/
def kab : List Int32 := [-1, 0, 0, 2, 3, 0, 1]
def RO (σ : Nat → Nat) (U : State) (H : Heap) : Prop :=
  (∀ j, j < 13 → va_O "java/lang/String" (σ (100 + j)) (Am σ) U H ∧ va_OF "java/lang/String" "coder" "B" (.int 0) (σ (100 + j)) (Am σ) U H ∧ va_OF "java/lang/String" "value" "[B" (.ref (σ (120 + j))) (σ (100 + j)) (Am σ) U H ∧ va_T .byte (σ (120 + j)) (sBy.getD j []).length (fun i => .int ((sBy.getD j []).getD i 0)) (Am σ) U H) ∧
  va_Z "java/lang/String" "COMPACT_STRINGS" "Z" (.int 1) (Am σ) U H ∧
  va_Zq "jdk/internal/util/Preconditions" "SIOOBE_FORMATTER" "Ljava/util/function/BiFunction;" (Am σ) U H ∧
  va_Z "FeetBridge" "KIND_ABOVE" "[I" (.ref (σ 90)) (Am σ) U H ∧
  va_T .int (σ 90) 7 (fun i => .int (kab.getD i 0)) (Am σ) U H ∧
  (∀ e ∈ nTab, va_Nw (nestW e.1 e.2.1 e.2.2) U) ∧ va_Nw gsW U ∧
  ∀ c i j, sres c i = some j → vk_R (clsN c) i (sTx.getD j "") (σ (100 + j)) U
theorem RO.at {σ : Nat → Nat} {s U : State} {H : Heap} {locs : List Loc} (h : RO σ s s.heap) (hS : va_S (Am σ) s.heap H locs) (hU : U.heap = H) (hW : s.WarmedH U.vm) : RO σ U U.heap := by
  obtain ⟨h1, h2, h3, h4, h5, hn, hg, h6⟩ := h
  have hq : ∀ a : Nat, a < s.heap.size → ¬ Am σ a → U.heap[a]? = s.heap[a]? := fun a b c => by rw [hU]; exact hS.2.1 a b c
  refine ⟨fun j hj => ?_, (h2.kept hq).moved hW.alike, (h3.kept hq).moved hW.alike, (h4.kept hq).moved hW.alike, (h5.kept hq).moved hW.alike, fun e he => va_Nw.warmM hW (hn e he), va_Nw.warmF hW hg, fun c i j e => (h6 c i j e).warm hW⟩
  obtain ⟨a, b, c, d⟩ := h1 j hj
  exact ⟨(a.kept hq).moved hW.alike, (b.kept hq).moved hW.alike, (c.kept hq).moved hW.alike, (d.kept hq).moved hW.alike⟩
theorem RO.blind {σ : Nat → Nat} {U : State} {g : JFrame} {mk : MethodId} {a : Array Value} (h : RO σ U U.heap) : RO σ (U.calling g mk a) (U.calling g mk a).heap := by
  obtain ⟨h1, h2, h3, h4, h5, hn, hg, h6⟩ := h
  have hv : U.vm.Alike (U.calling g mk a).vm := Vm.Alike.refl U.vm
  refine ⟨fun j hj => ?_, h2.moved hv, h3.moved hv, h4.moved hv, h5.moved hv, fun e he => va_Nw.same rfl rfl (hn e he), va_Nw.same rfl rfl hg, fun c i j e => (h6 c i j e).same rfl⟩
  obtain ⟨a, b, c, d⟩ := h1 j hj
  exact ⟨a.moved hv, b.moved hv, c.moved hv, d.moved hv⟩
/-! THE JUDGEMENTS -/
def rmM (d : Nat) : Room := { frames := d + 2, cells := 0, slots := 0, locals := 64 * (d + 2) }
def retQ (D : va_G) (tc : Nat × Nat × Nat) (σ : Nat → Nat) (ret : Option FieldType) (post : Value → Mem → Prop) : Array Value → State → Outcome → State → Prop := match ret with
  | none => va_Qv (S := Mem) (fun M => post (.int 0) M) (fun M t => va_P D vwCl (wsM σ tc M) t.heap) (Am σ)
  | some .long => va_Ql (S := Mem) (fun r M => post (.long r) M) (fun M t => va_P D vwCl (wsM σ tc M) t.heap) (Am σ)
  | some _ => va_Qi (S := Mem) (fun r M => post (.int r) M) (fun M t => va_P D vwCl (wsM σ tc M) t.heap) (Am σ)
def CX (mi : MI) (D : va_G) (tc : Nat × Nat × Nat) (σ : Nat → Nat) (p : Program) (s : State) (m : MethodId) (args : Array Value) (meth : Method) (c : Code) : Prop :=
  InjM σ ∧ p.tables.exec = Jvm.exec ∧ c.code = mi.2.2.1 ∧ meth.sig.returnType = mi.2.2.2.2 ∧ c.maxLocals = mi.2.2.2.1 ∧ s.vm.findClass (clsN mi.1) = some m.cls ∧ (∀ w ∈ gT, w.before args s = true) ∧ meth.locks = false ∧ va_K D vwCl (tysM tc) s ∧ RO σ s s.heap
/-- at pc of method mi, with these locals, this stack, this memory: it comes to its end with 'post answer memory' -/
def WP (mi : MI) (d : Nat) (post : Value → Mem → Prop) (pc : Nat) (L st : List Value) (M : Mem) : Prop :=
  ∀ (l : Launch) (D : va_G) (tc : Nat × Nat × Nat) (σ : Nat → Nat) (p : Program) (e : Env) (s : State) (m : MethodId) (args : Array Value) (below : List Frame) (meth : Method) (c : Code) (H : Heap) (locs : List Loc) (ls : Array Slot),
    CX mi D tc σ p s m args meth c → L.length = mi.2.2.2.1 → va_P D vwCl (wsM σ tc M) H → va_S (Am σ) s.heap H locs → lv_has ls mi.2.2.2.1 (prs σ L) →
    W p l e (rmM d) s m args below meth c H locs 0 0 (MQ below (retQ D tc σ mi.2.2.2.2 post) args s 0 0 (Am σ)) (F0 m pc ls (st.map (vr σ)))
def mws (mi : MI) : List Cond := .code mi.2.1 mi.2.2.1 mi.2.2.2.1 mi.2.2.2.2 :: gT
/-- a call of method j -/
def CallP (d j : Nat) (args : List Value) (M : Mem) (post : Value → Mem → Prop) : Prop :=
  ∀ (l : Launch) (D : va_G) (tc : Nat × Nat × Nat) (σ : Nat → Nat), InjM σ →
    Met l (mI j).2.1 (mws (mI j)) (rmM d) (va_Pc (args.map (vr σ)) (fun U => va_P D vwCl (wsM σ tc M) U.heap ∧ va_K D vwCl (tysM tc) U ∧ RO σ U U.heap)) (retQ D tc σ (mI j).2.2.2.2 post) 0 0 (Am σ)
theorem mws_good {j : Nat} (h : j < NM) : GoodIn gT (mws (mI j)) := by
  intro w hw
  have hm : w ∈ gT := by
    rcases List.mem_cons.mp hw with rfl | q
    · exact (mok h).1 _ (List.mem_cons_of_mem _ List.mem_cons_self)
    · exact q
  exact ⟨hm, good_of_word (List.mem_filter.mp hm).2⟩
/-! ENTRY -/
/-- the locals at the entry -/
def lpad : List Value → List Value
  | [] => []
  | v :: vs => if v.category = 2 then v :: .retAddr 0 :: lpad vs else v :: lpad vs
def lent (n : Nat) (args : List Value) : List Value := lpad args ++ List.replicate (n - (lpad args).length) (.retAddr 0)
theorem lg_sl_len (σ : Nat → Nat) : ∀ args : List Value, (lg_sl (args.map (vr σ))).length = (lpad args).length := by
  intro args
  induction args with
  | nil => rfl
  | cons v vs ih =>
    have e : ∀ (a : Value) (as : List Value), lg_sl (a :: as) = (if a.category = 2 then [Slot.val a, Slot.second] else [Slot.val a]) ++ lg_sl as := fun a as => by simp [lg_sl]
    rw [List.map_cons, e, List.length_append, ih, lpad, vr_cat]
    split <;> simp <;> omega
theorem lpad_args (σ : Nat → Nat) : ∀ (args : List Value) (b i : Nat) (v : Value), (lpad args)[i]? = some v → isU v = false → (b + i, vr σ v) ∈ lv_args b (args.map (vr σ)) := by
  intro args
  induction args with
  | nil => intro b i v h; cases h
  | cons a as ih =>
    intro b i v h hu
    rw [List.map_cons, lv_args, vr_cat]
    rw [lpad] at h
    by_cases hc : a.category = 2
    · rw [if_pos hc] at h ⊢
      match i, h with
      | 0, h =>
        cases h
        exact List.mem_cons_self
      | 1, h =>
        cases h
        cases hu
      | i + 2, h =>
        have := ih (b + 2) i v (by simpa using h) hu
        rw [show b + (i + 2) = b + 2 + i by omega]
        exact List.mem_cons_of_mem _ this
    · rw [if_neg hc] at h ⊢
      match i, h with
      | 0, h =>
        cases h
        exact List.mem_cons_self
      | i + 1, h =>
        have := ih (b + 1) i v (by simpa using h) hu
        rw [show b + (i + 1) = b + 1 + i by omega]
        exact List.mem_cons_of_mem _ this
theorem call_enter {d j : Nat} {args : List Value} {M : Mem} {post : Value → Mem → Prop} (hj : j < NM) (hn : (lpad args).length ≤ (mI j).2.2.2.1)
    (h : WP (mI j) d post 0 (lent (mI j).2.2.2.1 args) [] M) : CallP d j args M post := by
  intro l D tc σ hI
  obtain ⟨hmw, hma⟩ := mok hj
  simp only [mArgs, Bool.and_eq_true, decide_eq_true_eq] at hma
  obtain ⟨⟨⟨⟨a1, a2⟩, a3⟩, a4⟩, a5⟩ := hma
  refine Met.ofW (cc := (mI j).2.2.1) (maxL := (mI j).2.2.2.1) (ret := (mI j).2.2.2.2) a4 rfl ?_
  intro p e s m args' below meth c s₁ B hml hv
  obtain ⟨rfl, hP, hK, hRO⟩ := hv
  have hts := atoms_spec (ws := mws (mI j)) B.pre
  have hown : s.vm.findClass (mI j).2.1.cls = some m.cls := findClass_of_methodNamed B.named
  rw [a3] at hown
  have hl := lv_entry (args.map (vr σ)) (n := (mI j).2.2.2.1) (by rw [lg_sl_len]; exact hn)
  rw [lg_entry_eq]
  refine h l D tc σ p e s m _ below meth c s.heap [] _ ⟨hI, B.exec, B.bytes, B.returns, hml, hown, fun w hw => hts w (List.mem_cons_of_mem _ hw), B.notSynchronized, hK, hRO⟩ ?_ hP va_S.rf ?_
  · unfold lent
    rw [List.length_append, List.length_replicate]
    omega
  · refine ⟨hl.1, hl.2.1, fun q hq => hl.2.2 q ?_⟩
    obtain ⟨v, h1, h2, h3⟩ := prs_mem.mp hq
    unfold lent at h1
    rw [List.getElem?_append] at h1
    split at h1
    · have := lpad_args σ args 0 q.1 v h1 h2
      rw [Nat.zero_add, ← h3] at this
      exact this
    · rw [List.getElem?_replicate] at h1
      split at h1
      · cases h1
        cases h2
      · cases h1
end
section
/-! ONE INSTRUCTION EACH -/
section Rules
variable {mi : MI} {d : Nat} {post : Value → Mem → Prop} {pc : Nat} {L st : List Value} {M : Mem}
theorem r_iconst {n : Int} (hd : decode mi.2.2.1 pc = .ok (.iconst n, 1)) (k : WP mi d post (pc + 1) L (.int (Int32.ofInt n) :: st) M) : WP mi d post pc L (st) M :=
  fun l D tc σ p e s m args below meth c H locs ls C hL hP hS hl => lv_iconst C.2.1 C.2.2.1 hd rfl (k l D tc σ p e s m args below meth c H locs ls C hL hP hS hl)
theorem r_bipush {n : Int} (hd : decode mi.2.2.1 pc = .ok (.bipush n, 2)) (k : WP mi d post (pc + 2) L (.int (Int8.ofInt n).toInt32 :: st) M) : WP mi d post pc L (st) M :=
  fun l D tc σ p e s m args below meth c H locs ls C hL hP hS hl => lv_bipush C.2.1 C.2.2.1 hd rfl (k l D tc σ p e s m args below meth c H locs ls C hL hP hS hl)
theorem r_sipush {n : Int} (hd : decode mi.2.2.1 pc = .ok (.sipush n, 3)) (k : WP mi d post (pc + 3) L (.int (Int16.ofInt n).toInt32 :: st) M) : WP mi d post pc L (st) M :=
  fun l D tc σ p e s m args below meth c H locs ls C hL hP hS hl => lv_sipush C.2.1 C.2.2.1 hd rfl (k l D tc σ p e s m args below meth c H locs ls C hL hP hS hl)
theorem r_lconst {n : Fin 2} (hd : decode mi.2.2.1 pc = .ok (.lconst n, 1)) (k : WP mi d post (pc + 1) L (.long (Int64.ofNat (n : Nat)) :: st) M) : WP mi d post pc L (st) M :=
  fun l D tc σ p e s m args below meth c H locs ls C hL hP hS hl => lv_lconst C.2.1 C.2.2.1 hd rfl (k l D tc σ p e s m args below meth c H locs ls C hL hP hS hl)
theorem r_iadd {a b : Int32} (hd : decode mi.2.2.1 pc = .ok (.iadd, 1)) (k : WP mi d post (pc + 1) L (.int (a + b) :: st) M) : WP mi d post pc L (.int b :: .int a :: st) M :=
  fun l D tc σ p e s m args below meth c H locs ls C hL hP hS hl => lv_iadd C.2.1 C.2.2.1 hd  (k l D tc σ p e s m args below meth c H locs ls C hL hP hS hl)
theorem r_isub {a b : Int32} (hd : decode mi.2.2.1 pc = .ok (.isub, 1)) (k : WP mi d post (pc + 1) L (.int (a - b) :: st) M) : WP mi d post pc L (.int b :: .int a :: st) M :=
  fun l D tc σ p e s m args below meth c H locs ls C hL hP hS hl => lv_isub C.2.1 C.2.2.1 hd  (k l D tc σ p e s m args below meth c H locs ls C hL hP hS hl)
theorem r_imul {a b : Int32} (hd : decode mi.2.2.1 pc = .ok (.imul, 1)) (k : WP mi d post (pc + 1) L (.int (a * b) :: st) M) : WP mi d post pc L (.int b :: .int a :: st) M :=
  fun l D tc σ p e s m args below meth c H locs ls C hL hP hS hl => lv_imul C.2.1 C.2.2.1 hd  (k l D tc σ p e s m args below meth c H locs ls C hL hP hS hl)
theorem r_iand {a b : Int32} (hd : decode mi.2.2.1 pc = .ok (.iand, 1)) (k : WP mi d post (pc + 1) L (.int (a &&& b) :: st) M) : WP mi d post pc L (.int b :: .int a :: st) M :=
  fun l D tc σ p e s m args below meth c H locs ls C hL hP hS hl => lv_iand C.2.1 C.2.2.1 hd  (k l D tc σ p e s m args below meth c H locs ls C hL hP hS hl)
theorem r_ior {a b : Int32} (hd : decode mi.2.2.1 pc = .ok (.ior, 1)) (k : WP mi d post (pc + 1) L (.int (a ||| b) :: st) M) : WP mi d post pc L (.int b :: .int a :: st) M :=
  fun l D tc σ p e s m args below meth c H locs ls C hL hP hS hl => lv_ior C.2.1 C.2.2.1 hd  (k l D tc σ p e s m args below meth c H locs ls C hL hP hS hl)
theorem r_ixor {a b : Int32} (hd : decode mi.2.2.1 pc = .ok (.ixor, 1)) (k : WP mi d post (pc + 1) L (.int (a ^^^ b) :: st) M) : WP mi d post pc L (.int b :: .int a :: st) M :=
  fun l D tc σ p e s m args below meth c H locs ls C hL hP hS hl => lv_ixor C.2.1 C.2.2.1 hd  (k l D tc σ p e s m args below meth c H locs ls C hL hP hS hl)
theorem r_ishl {a b : Int32} (hd : decode mi.2.2.1 pc = .ok (.ishl, 1)) (k : WP mi d post (pc + 1) L (.int (a <<< (b &&& 31)) :: st) M) : WP mi d post pc L (.int b :: .int a :: st) M :=
  fun l D tc σ p e s m args below meth c H locs ls C hL hP hS hl => lv_ishl C.2.1 C.2.2.1 hd  (k l D tc σ p e s m args below meth c H locs ls C hL hP hS hl)
theorem r_ishr {a b : Int32} (hd : decode mi.2.2.1 pc = .ok (.ishr, 1)) (k : WP mi d post (pc + 1) L (.int (a >>> (b &&& 31)) :: st) M) : WP mi d post pc L (.int b :: .int a :: st) M :=
  fun l D tc σ p e s m args below meth c H locs ls C hL hP hS hl => lv_ishr C.2.1 C.2.2.1 hd  (k l D tc σ p e s m args below meth c H locs ls C hL hP hS hl)
theorem r_iushr {a b : Int32} (hd : decode mi.2.2.1 pc = .ok (.iushr, 1)) (k : WP mi d post (pc + 1) L (.int (a.toUInt32 >>> (b.toUInt32 &&& Int32.toUInt32 31)).toInt32 :: st) M) : WP mi d post pc L (.int b :: .int a :: st) M :=
  fun l D tc σ p e s m args below meth c H locs ls C hL hP hS hl => lv_iushr C.2.1 C.2.2.1 hd rfl (k l D tc σ p e s m args below meth c H locs ls C hL hP hS hl)
theorem r_idiv {a b : Int32} (hd : decode mi.2.2.1 pc = .ok (.idiv, 1)) (h0 : ¬ b = 0) (k : WP mi d post (pc + 1) L (.int (a / b) :: st) M) : WP mi d post pc L (.int b :: .int a :: st) M :=
  fun l D tc σ p e s m args below meth c H locs ls C hL hP hS hl => lv_idiv C.2.1 C.2.2.1 hd h0 (k l D tc σ p e s m args below meth c H locs ls C hL hP hS hl)
theorem r_irem {a b : Int32} (hd : decode mi.2.2.1 pc = .ok (.irem, 1)) (h0 : ¬ b = 0) (k : WP mi d post (pc + 1) L (.int (a - a / b * b) :: st) M) : WP mi d post pc L (.int b :: .int a :: st) M :=
  fun l D tc σ p e s m args below meth c H locs ls C hL hP hS hl => lv_irem C.2.1 C.2.2.1 hd h0 (k l D tc σ p e s m args below meth c H locs ls C hL hP hS hl)
theorem r_i2l {a : Int32} (hd : decode mi.2.2.1 pc = .ok (.i2l, 1)) (k : WP mi d post (pc + 1) L (.long a.toInt64 :: st) M) : WP mi d post pc L (.int a :: st) M :=
  fun l D tc σ p e s m args below meth c H locs ls C hL hP hS hl => lv_i2l C.2.1 C.2.2.1 hd rfl (k l D tc σ p e s m args below meth c H locs ls C hL hP hS hl)
theorem r_i2b {a : Int32} (hd : decode mi.2.2.1 pc = .ok (.i2b, 1)) (k : WP mi d post (pc + 1) L (.int a.toInt8.toInt32 :: st) M) : WP mi d post pc L (.int a :: st) M :=
  fun l D tc σ p e s m args below meth c H locs ls C hL hP hS hl => lv_i2b C.2.1 C.2.2.1 hd rfl (k l D tc σ p e s m args below meth c H locs ls C hL hP hS hl)
theorem r_i2s {a : Int32} (hd : decode mi.2.2.1 pc = .ok (.i2s, 1)) (k : WP mi d post (pc + 1) L (.int a.toInt16.toInt32 :: st) M) : WP mi d post pc L (.int a :: st) M :=
  fun l D tc σ p e s m args below meth c H locs ls C hL hP hS hl => lv_i2s C.2.1 C.2.2.1 hd rfl (k l D tc σ p e s m args below meth c H locs ls C hL hP hS hl)
theorem r_i2c {a : Int32} (hd : decode mi.2.2.1 pc = .ok (.i2c, 1)) (k : WP mi d post (pc + 1) L (.int (a.toUInt32 % 65536).toInt32 :: st) M) : WP mi d post pc L (.int a :: st) M :=
  fun l D tc σ p e s m args below meth c H locs ls C hL hP hS hl => lv_i2c C.2.1 C.2.2.1 hd rfl (k l D tc σ p e s m args below meth c H locs ls C hL hP hS hl)
theorem r_ladd {a b : Int64} (hd : decode mi.2.2.1 pc = .ok (.ladd, 1)) (k : WP mi d post (pc + 1) L (.long (a + b) :: st) M) : WP mi d post pc L (.long b :: .long a :: st) M :=
  fun l D tc σ p e s m args below meth c H locs ls C hL hP hS hl => lv_ladd C.2.1 C.2.2.1 hd  (k l D tc σ p e s m args below meth c H locs ls C hL hP hS hl)
theorem r_lmul {a b : Int64} (hd : decode mi.2.2.1 pc = .ok (.lmul, 1)) (k : WP mi d post (pc + 1) L (.long (a * b) :: st) M) : WP mi d post pc L (.long b :: .long a :: st) M :=
  fun l D tc σ p e s m args below meth c H locs ls C hL hP hS hl => lv_lmul C.2.1 C.2.2.1 hd  (k l D tc σ p e s m args below meth c H locs ls C hL hP hS hl)
theorem r_lcmp {a b : Int64} (hd : decode mi.2.2.1 pc = .ok (.lcmp, 1)) (k : WP mi d post (pc + 1) L (.int (lg_cmp a b) :: st) M) : WP mi d post pc L (.long b :: .long a :: st) M :=
  fun l D tc σ p e s m args below meth c H locs ls C hL hP hS hl => W.lcmp C.2.1 C.2.2.1 hd  (k l D tc σ p e s m args below meth c H locs ls C hL hP hS hl)
theorem r_dup {v : Value} (hd : decode mi.2.2.1 pc = .ok (.dup, 1)) (hv : v.category = 1) (k : WP mi d post (pc + 1) L (v :: v :: st) M) : WP mi d post pc L (v :: st) M :=
  fun l D tc σ p e s m args below meth c H locs ls C hL hP hS hl => lv_dup C.2.1 C.2.2.1 hd ((vr_cat _ _).trans hv) (k l D tc σ p e s m args below meth c H locs ls C hL hP hS hl)
theorem r_dup2 {v w : Value} (hd : decode mi.2.2.1 pc = .ok (.dup2, 1)) (hv : v.category = 1) (hw : w.category = 1) (k : WP mi d post (pc + 1) L (v :: w :: v :: w :: st) M) : WP mi d post pc L (v :: w :: st) M :=
  fun l D tc σ p e s m args below meth c H locs ls C hL hP hS hl => lv_dup2_11 C.2.1 C.2.2.1 hd ((vr_cat _ _).trans hv) ((vr_cat _ _).trans hw) (k l D tc σ p e s m args below meth c H locs ls C hL hP hS hl)
theorem r_pop {v : Value} (hd : decode mi.2.2.1 pc = .ok (.pop, 1)) (hv : v.category = 1) (k : WP mi d post (pc + 1) L (st) M) : WP mi d post pc L (v :: st) M :=
  fun l D tc σ p e s m args below meth c H locs ls C hL hP hS hl => lv_pop C.2.1 C.2.2.1 hd ((vr_cat _ _).trans hv) (k l D tc σ p e s m args below meth c H locs ls C hL hP hS hl)
theorem r_ineg {a : Int32} (hd : decode mi.2.2.1 pc = .ok (.ineg, 1)) (k : WP mi d post (pc + 1) L (.int (-a) :: st) M) : WP mi d post pc L (.int a :: st) M :=
  fun l D tc σ p e s m args below meth c H locs ls C hL hP hS hl => lv_ineg C.2.1 C.2.2.1 hd (k l D tc σ p e s m args below meth c H locs ls C hL hP hS hl)
theorem r_iload_n {q : Fin 4} {x : Int32} (hd : decode mi.2.2.1 pc = .ok (.iload_n q, 1)) (hx : L[(q : Nat)]? = some (.int x)) (k : WP mi d post (pc + 1) L (.int x :: st) M) : WP mi d post pc L st M :=
  fun l D tc σ p e s m args below meth c H locs ls C hL hP hS hl => lv_iload_n C.2.1 C.2.2.1 hd rfl (prs_at hl hx rfl) (k l D tc σ p e s m args below meth c H locs ls C hL hP hS hl)
theorem r_iload {q : Nat} {x : Int32} (hd : decode mi.2.2.1 pc = .ok (.iload q, 2)) (hx : L[q]? = some (.int x)) (k : WP mi d post (pc + 2) L (.int x :: st) M) : WP mi d post pc L st M :=
  fun l D tc σ p e s m args below meth c H locs ls C hL hP hS hl => lv_iload C.2.1 C.2.2.1 hd (prs_at hl hx rfl) (k l D tc σ p e s m args below meth c H locs ls C hL hP hS hl)
theorem r_aload_n {q : Fin 4} {x : Nat} (hd : decode mi.2.2.1 pc = .ok (.aload_n q, 1)) (hx : L[(q : Nat)]? = some (.ref x)) (k : WP mi d post (pc + 1) L (.ref x :: st) M) : WP mi d post pc L st M :=
  fun l D tc σ p e s m args below meth c H locs ls C hL hP hS hl => lv_aload_n C.2.1 C.2.2.1 hd rfl (prs_at hl hx rfl) (k l D tc σ p e s m args below meth c H locs ls C hL hP hS hl)
theorem r_aload {q : Nat} {x : Nat} (hd : decode mi.2.2.1 pc = .ok (.aload q, 2)) (hx : L[q]? = some (.ref x)) (k : WP mi d post (pc + 2) L (.ref x :: st) M) : WP mi d post pc L st M :=
  fun l D tc σ p e s m args below meth c H locs ls C hL hP hS hl => lv_aload C.2.1 C.2.2.1 hd (prs_at hl hx rfl) (k l D tc σ p e s m args below meth c H locs ls C hL hP hS hl)
theorem r_lload_n {q : Fin 4} {x : Int64} (hd : decode mi.2.2.1 pc = .ok (.lload_n q, 1)) (hx : L[(q : Nat)]? = some (.long x)) (k : WP mi d post (pc + 1) L (.long x :: st) M) : WP mi d post pc L st M :=
  fun l D tc σ p e s m args below meth c H locs ls C hL hP hS hl => lv_lload_n C.2.1 C.2.2.1 hd rfl (prs_at hl hx rfl) (k l D tc σ p e s m args below meth c H locs ls C hL hP hS hl)
theorem r_lload {q : Nat} {x : Int64} (hd : decode mi.2.2.1 pc = .ok (.lload q, 2)) (hx : L[q]? = some (.long x)) (k : WP mi d post (pc + 2) L (.long x :: st) M) : WP mi d post pc L st M :=
  fun l D tc σ p e s m args below meth c H locs ls C hL hP hS hl => lv_lload C.2.1 C.2.2.1 hd (prs_at hl hx rfl) (k l D tc σ p e s m args below meth c H locs ls C hL hP hS hl)
theorem r_istore_n {q : Fin 4} {x : Int32} (hd : decode mi.2.2.1 pc = .ok (.istore_n q, 1)) (hq : (q : Nat) < L.length) (hk : lok L q = true) (k : WP mi d post (pc + 1) (L.set q (.int x)) st M) : WP mi d post pc L (.int x :: st) M :=
  fun l D tc σ p e s m args below meth c H locs ls C hL hP hS hl => lv_istore_n C.2.1 C.2.2.1 hd rfl hl (by rw [← hL]; exact hq) rfl (fun ls2 hl2 => k l D tc σ p e s m args below meth c H locs ls2 C (by rw [List.length_set]; exact hL) hP hS (prs_set1 hl2 hk))
theorem r_istore {q : Nat} {x : Int32} (hd : decode mi.2.2.1 pc = .ok (.istore q, 2)) (hq : q < L.length) (hk : lok L q = true) (k : WP mi d post (pc + 2) (L.set q (.int x)) st M) : WP mi d post pc L (.int x :: st) M :=
  fun l D tc σ p e s m args below meth c H locs ls C hL hP hS hl => lv_istore C.2.1 C.2.2.1 hd hl (by rw [← hL]; exact hq) rfl (fun ls2 hl2 => k l D tc σ p e s m args below meth c H locs ls2 C (by rw [List.length_set]; exact hL) hP hS (prs_set1 hl2 hk))
theorem r_lstore_n {q : Fin 4} {x : Int64} (hd : decode mi.2.2.1 pc = .ok (.lstore_n q, 1)) (hq : (q : Nat) + 1 < L.length) (hk : lok L q = true) (k : WP mi d post (pc + 1) ((L.set q (.long x)).set (q + 1) (.retAddr 0)) st M) : WP mi d post pc L (.long x :: st) M :=
  fun l D tc σ p e s m args below meth c H locs ls C hL hP hS hl => lv_lstore_n C.2.1 C.2.2.1 hd rfl hl (by rw [← hL]; exact hq) rfl (fun ls2 hl2 => k l D tc σ p e s m args below meth c H locs ls2 C (by rw [List.length_set, List.length_set]; exact hL) hP hS (prs_set2 hl2 hk))
theorem r_lstore {q : Nat} {x : Int64} (hd : decode mi.2.2.1 pc = .ok (.lstore q, 2)) (hq : q + 1 < L.length) (hk : lok L q = true) (k : WP mi d post (pc + 2) ((L.set q (.long x)).set (q + 1) (.retAddr 0)) st M) : WP mi d post pc L (.long x :: st) M :=
  fun l D tc σ p e s m args below meth c H locs ls C hL hP hS hl => lv_lstore C.2.1 C.2.2.1 hd hl (by rw [← hL]; exact hq) rfl (fun ls2 hl2 => k l D tc σ p e s m args below meth c H locs ls2 C (by rw [List.length_set, List.length_set]; exact hL) hP hS (prs_set2 hl2 hk))
theorem r_iinc {q : Nat} {n : Int} {x : Int32} (hd : decode mi.2.2.1 pc = .ok (.iinc q n, 3)) (hx : L[q]? = some (.int x)) (hk : lok L q = true) (k : WP mi d post (pc + 3) (L.set q (.int (x + Int32.ofInt n))) st M) : WP mi d post pc L st M := by
  intro l D tc σ p e s m args below meth c H locs ls C hL hP hS hl
  have hm : (q, vr σ (.int x)) ∈ prs σ L := prs_mem.mpr ⟨_, hx, rfl, rfl⟩
  obtain ⟨i, hi⟩ := List.getElem?_of_mem hm
  have hq : q < L.length := (List.getElem?_eq_some_iff.mp hx).1
  exact lv_iinc (x := x) C.2.1 C.2.2.1 hd hl hi rfl (by rw [← hL]; exact hq) rfl (fun ls2 hl2 => k l D tc σ p e s m args below meth c H locs ls2 C (by rw [List.length_set]; exact hL) hP hS (prs_set1 hl2 hk))
theorem r_if_eq {x : Int32} {off : Int} {t : Nat} (hd : decode mi.2.2.1 pc = .ok (.ifCond .eq off, 3)) (ht : (pc : Int) + off = (t : Int)) (k1 : x = 0 → WP mi d post t L st M) (k2 : ¬ (x = 0) → WP mi d post (pc + 3) L st M) : WP mi d post pc L (.int x :: st) M :=
  fun l D tc σ p e s m args below meth c H locs ls C hL hP hS hl => lv_if_eq C.2.1 C.2.2.1 hd ht (fun z => k1 z l D tc σ p e s m args below meth c H locs ls C hL hP hS hl) (fun z => k2 z l D tc σ p e s m args below meth c H locs ls C hL hP hS hl)
theorem r_if_ne {x : Int32} {off : Int} {t : Nat} (hd : decode mi.2.2.1 pc = .ok (.ifCond .ne off, 3)) (ht : (pc : Int) + off = (t : Int)) (k1 : ¬ x = 0 → WP mi d post t L st M) (k2 : ¬ (¬ x = 0) → WP mi d post (pc + 3) L st M) : WP mi d post pc L (.int x :: st) M :=
  fun l D tc σ p e s m args below meth c H locs ls C hL hP hS hl => lv_if_ne C.2.1 C.2.2.1 hd ht (fun z => k1 z l D tc σ p e s m args below meth c H locs ls C hL hP hS hl) (fun z => k2 (fun h => h z) l D tc σ p e s m args below meth c H locs ls C hL hP hS hl)
theorem r_if_lt {x : Int32} {off : Int} {t : Nat} (hd : decode mi.2.2.1 pc = .ok (.ifCond .lt off, 3)) (ht : (pc : Int) + off = (t : Int)) (k1 : x < 0 → WP mi d post t L st M) (k2 : ¬ (x < 0) → WP mi d post (pc + 3) L st M) : WP mi d post pc L (.int x :: st) M :=
  fun l D tc σ p e s m args below meth c H locs ls C hL hP hS hl => lv_if_lt C.2.1 C.2.2.1 hd ht (fun z => k1 z l D tc σ p e s m args below meth c H locs ls C hL hP hS hl) (fun z => k2 z l D tc σ p e s m args below meth c H locs ls C hL hP hS hl)
theorem r_if_ge {x : Int32} {off : Int} {t : Nat} (hd : decode mi.2.2.1 pc = .ok (.ifCond .ge off, 3)) (ht : (pc : Int) + off = (t : Int)) (k1 : 0 ≤ x → WP mi d post t L st M) (k2 : ¬ (0 ≤ x) → WP mi d post (pc + 3) L st M) : WP mi d post pc L (.int x :: st) M :=
  fun l D tc σ p e s m args below meth c H locs ls C hL hP hS hl => lv_if_ge C.2.1 C.2.2.1 hd ht (fun z => k1 z l D tc σ p e s m args below meth c H locs ls C hL hP hS hl) (fun z => k2 z l D tc σ p e s m args below meth c H locs ls C hL hP hS hl)
theorem r_if_gt {x : Int32} {off : Int} {t : Nat} (hd : decode mi.2.2.1 pc = .ok (.ifCond .gt off, 3)) (ht : (pc : Int) + off = (t : Int)) (k1 : 0 < x → WP mi d post t L st M) (k2 : ¬ (0 < x) → WP mi d post (pc + 3) L st M) : WP mi d post pc L (.int x :: st) M :=
  fun l D tc σ p e s m args below meth c H locs ls C hL hP hS hl => lv_if_gt C.2.1 C.2.2.1 hd ht (fun z => k1 z l D tc σ p e s m args below meth c H locs ls C hL hP hS hl) (fun z => k2 z l D tc σ p e s m args below meth c H locs ls C hL hP hS hl)
theorem r_if_le {x : Int32} {off : Int} {t : Nat} (hd : decode mi.2.2.1 pc = .ok (.ifCond .le off, 3)) (ht : (pc : Int) + off = (t : Int)) (k1 : x ≤ 0 → WP mi d post t L st M) (k2 : ¬ (x ≤ 0) → WP mi d post (pc + 3) L st M) : WP mi d post pc L (.int x :: st) M :=
  fun l D tc σ p e s m args below meth c H locs ls C hL hP hS hl => lv_if_le C.2.1 C.2.2.1 hd ht (fun z => k1 z l D tc σ p e s m args below meth c H locs ls C hL hP hS hl) (fun z => k2 z l D tc σ p e s m args below meth c H locs ls C hL hP hS hl)
theorem r_ic_eq {x y : Int32} {off : Int} {t : Nat} (hd : decode mi.2.2.1 pc = .ok (.if_icmp .eq off, 3)) (ht : (pc : Int) + off = (t : Int)) (k1 : x = y → WP mi d post t L st M) (k2 : ¬ (x = y) → WP mi d post (pc + 3) L st M) : WP mi d post pc L (.int y :: .int x :: st) M :=
  fun l D tc σ p e s m args below meth c H locs ls C hL hP hS hl => lv_icmp_eq C.2.1 C.2.2.1 hd ht (fun z => k1 z l D tc σ p e s m args below meth c H locs ls C hL hP hS hl) (fun z => k2 z l D tc σ p e s m args below meth c H locs ls C hL hP hS hl)
theorem r_ic_ne {x y : Int32} {off : Int} {t : Nat} (hd : decode mi.2.2.1 pc = .ok (.if_icmp .ne off, 3)) (ht : (pc : Int) + off = (t : Int)) (k1 : ¬ x = y → WP mi d post t L st M) (k2 : ¬ (¬ x = y) → WP mi d post (pc + 3) L st M) : WP mi d post pc L (.int y :: .int x :: st) M :=
  fun l D tc σ p e s m args below meth c H locs ls C hL hP hS hl => lv_icmp_ne C.2.1 C.2.2.1 hd ht (fun z => k1 z l D tc σ p e s m args below meth c H locs ls C hL hP hS hl) (fun z => k2 (fun h => h z) l D tc σ p e s m args below meth c H locs ls C hL hP hS hl)
theorem r_ic_lt {x y : Int32} {off : Int} {t : Nat} (hd : decode mi.2.2.1 pc = .ok (.if_icmp .lt off, 3)) (ht : (pc : Int) + off = (t : Int)) (k1 : x < y → WP mi d post t L st M) (k2 : ¬ (x < y) → WP mi d post (pc + 3) L st M) : WP mi d post pc L (.int y :: .int x :: st) M :=
  fun l D tc σ p e s m args below meth c H locs ls C hL hP hS hl => lv_icmp_lt C.2.1 C.2.2.1 hd ht (fun z => k1 z l D tc σ p e s m args below meth c H locs ls C hL hP hS hl) (fun z => k2 z l D tc σ p e s m args below meth c H locs ls C hL hP hS hl)
theorem r_ic_ge {x y : Int32} {off : Int} {t : Nat} (hd : decode mi.2.2.1 pc = .ok (.if_icmp .ge off, 3)) (ht : (pc : Int) + off = (t : Int)) (k1 : y ≤ x → WP mi d post t L st M) (k2 : ¬ (y ≤ x) → WP mi d post (pc + 3) L st M) : WP mi d post pc L (.int y :: .int x :: st) M :=
  fun l D tc σ p e s m args below meth c H locs ls C hL hP hS hl => lv_icmp_ge C.2.1 C.2.2.1 hd ht (fun z => k1 z l D tc σ p e s m args below meth c H locs ls C hL hP hS hl) (fun z => k2 z l D tc σ p e s m args below meth c H locs ls C hL hP hS hl)
theorem r_ic_gt {x y : Int32} {off : Int} {t : Nat} (hd : decode mi.2.2.1 pc = .ok (.if_icmp .gt off, 3)) (ht : (pc : Int) + off = (t : Int)) (k1 : y < x → WP mi d post t L st M) (k2 : ¬ (y < x) → WP mi d post (pc + 3) L st M) : WP mi d post pc L (.int y :: .int x :: st) M :=
  fun l D tc σ p e s m args below meth c H locs ls C hL hP hS hl => lv_icmp_gt C.2.1 C.2.2.1 hd ht (fun z => k1 z l D tc σ p e s m args below meth c H locs ls C hL hP hS hl) (fun z => k2 z l D tc σ p e s m args below meth c H locs ls C hL hP hS hl)
theorem r_ic_le {x y : Int32} {off : Int} {t : Nat} (hd : decode mi.2.2.1 pc = .ok (.if_icmp .le off, 3)) (ht : (pc : Int) + off = (t : Int)) (k1 : x ≤ y → WP mi d post t L st M) (k2 : ¬ (x ≤ y) → WP mi d post (pc + 3) L st M) : WP mi d post pc L (.int y :: .int x :: st) M :=
  fun l D tc σ p e s m args below meth c H locs ls C hL hP hS hl => lv_icmp_le C.2.1 C.2.2.1 hd ht (fun z => k1 z l D tc σ p e s m args below meth c H locs ls C hL hP hS hl) (fun z => k2 z l D tc σ p e s m args below meth c H locs ls C hL hP hS hl)
theorem r_goto {off : Int} {t : Nat} (hd : decode mi.2.2.1 pc = .ok (.goto off, 3)) (ht : (pc : Int) + off = (t : Int)) (k : WP mi d post t L st M) : WP mi d post pc L st M :=
  fun l D tc σ p e s m args below meth c H locs ls C hL hP hS hl => lv_goto C.2.1 C.2.2.1 hd ht (k l D tc σ p e s m args below meth c H locs ls C hL hP hS hl)
theorem r_tabIn {x : Int32} {df lo hi off : Int} {offs : Array Int} {len t : Nat} (hd : decode mi.2.2.1 pc = .ok (.tableswitch df lo hi offs, len)) (h1 : ¬ x.toInt < lo) (h2 : ¬ hi < x.toInt) (ho : offs[(x.toInt - lo).toNat]? = some off) (ht : (pc : Int) + off = (t : Int)) (k : WP mi d post t L st M) : WP mi d post pc L (.int x :: st) M :=
  fun l D tc σ p e s m args below meth c H locs ls C hL hP hS hl => lv_tableIn C.2.1 C.2.2.1 hd h1 h2 ho ht (k l D tc σ p e s m args below meth c H locs ls C hL hP hS hl)
theorem r_tabOut {x : Int32} {df lo hi : Int} {offs : Array Int} {len t : Nat} (hd : decode mi.2.2.1 pc = .ok (.tableswitch df lo hi offs, len)) (h1 : x.toInt < lo ∨ hi < x.toInt) (ht : (pc : Int) + df = (t : Int)) (k : WP mi d post t L st M) : WP mi d post pc L (.int x :: st) M :=
  fun l D tc σ p e s m args below meth c H locs ls C hL hP hS hl => lv_tableOut C.2.1 C.2.2.1 hd h1 ht (k l D tc σ p e s m args below meth c H locs ls C hL hP hS hl)
theorem r_ldc {i : Nat} {v : Int32} (hd : decode mi.2.2.1 pc = .ok (.ldc i, 2)) (hv : kres mi.1 i = some v) (k : WP mi d post (pc + 2) L (.int v :: st) M) : WP mi d post pc L st M :=
  fun l D tc σ p e s m args below meth c H locs ls C hL hP hS hl => lv_ldc C.2.1 C.2.2.1 C.2.2.2.2.2.1 (C.2.2.2.2.2.2.1 _ (kres_ok hv)) hd (k l D tc σ p e s m args below meth c H locs ls C hL hP hS hl)
theorem r_ldcw {i : Nat} {v : Int32} (hd : decode mi.2.2.1 pc = .ok (.ldc_w i, 3)) (hv : kres mi.1 i = some v) (k : WP mi d post (pc + 3) L (.int v :: st) M) : WP mi d post pc L st M :=
  fun l D tc σ p e s m args below meth c H locs ls C hL hP hS hl => lv_ldcw C.2.1 C.2.2.1 C.2.2.2.2.2.1 (C.2.2.2.2.2.2.1 _ (kres_ok hv)) hd (k l D tc σ p e s m args below meth c H locs ls C hL hP hS hl)
theorem r_ldcS {i j : Nat} (hd : decode mi.2.2.1 pc = .ok (.ldc i, 2)) (hv : sres mi.1 i = some j) (k : WP mi d post (pc + 2) L (.ref (100 + j) :: st) M) : WP mi d post pc L st M :=
  fun l D tc σ p e s m args below meth c H locs ls C hL hP hS hl => va_ldcS C.2.1 C.2.2.1 C.2.2.2.2.2.1 (C.2.2.2.2.2.2.2.2.2.2.2.2.2.2.2.2 _ _ _ hv) hd (k l D tc σ p e s m args below meth c H locs ls C hL hP hS hl)
theorem retQ_i {D : va_G} {tc : Nat × Nat × Nat} {σ : Nat → Nat} {ty : FieldType} {post : Value → Mem → Prop} (h : ty ≠ .long) : retQ D tc σ (some ty) post = va_Qi (S := Mem) (fun r M => post (.int r) M) (fun M t => va_P D vwCl (wsM σ tc M) t.heap) (Am σ) := by
  cases ty <;> first | rfl | exact absurd rfl h
theorem r_ireturn {v : Int32} {ty : FieldType} (hd : decode mi.2.2.1 pc = .ok (.ireturn, 1)) (hr : mi.2.2.2.2 = some ty) (hnl : ty ≠ .long) (hn : narrow ty (.int v) = .int v) (k : post (.int v) M) : WP mi d post pc L [.int v] M := by
  intro l D tc σ p e s m args below meth c H locs ls C hL hP hS hl
  refine W.zret C.2.1 C.2.2.1 (C.2.2.2.1.trans hr) hn (fun t ht hW => ?_) hS.2.2 hd (hlocks := C.2.2.2.2.2.2.2.1)
  rw [hr, retQ_i hnl]
  have hP : va_P D vwCl (wsM σ tc M) t.heap := by rw [ht]; exact hP
  exact ⟨⟨v, M, rfl, k, hP⟩, hS.F ht⟩
theorem r_lreturn {v : Int64} (hd : decode mi.2.2.1 pc = .ok (.lreturn, 1)) (hr : mi.2.2.2.2 = some .long) (k : post (.long v) M) : WP mi d post pc L [.long v] M := by
  intro l D tc σ p e s m args below meth c H locs ls C hL hP hS hl
  refine W.lret C.2.1 C.2.2.1 (C.2.2.2.1.trans hr) (fun t ht hW => ?_) hS.2.2 hd (hlocks := C.2.2.2.2.2.2.2.1)
  rw [hr]
  have hP : va_P D vwCl (wsM σ tc M) t.heap := by rw [ht]; exact hP
  exact ⟨⟨v, M, rfl, k, hP⟩, hS.F ht⟩
theorem r_return (hd : decode mi.2.2.1 pc = .ok (.return_, 1)) (hr : mi.2.2.2.2 = none) (k : post (.int 0) M) : WP mi d post pc L [] M := by
  intro l D tc σ p e s m args below meth c H locs ls C hL hP hS hl
  refine W.vret C.2.1 C.2.2.1 (C.2.2.2.1.trans hr) (fun t ht hW => ?_) hS.2.2 hd (hlocks := C.2.2.2.2.2.2.2.1)
  rw [hr]
  have hP : va_P D vwCl (wsM σ tc M) t.heap := by rw [ht]; exact hP
  exact ⟨⟨M, rfl, k, hP⟩, hS.F ht⟩
end Rules
end
section
/-! CELLS: fields, rows, calls -/
/-- slot k of the object at place p, if it is of class ci -/
def gf (ci k p : Nat) : Option (Option Nat) := if (shO p).1 = 1 ∧ (shO p).2.1 = ci then (shO p).2.2[k]? else none
theorem gf_ok {ci k p : Nat} {x : Option Nat} (h : gf ci k p = some x) : ∃ sl, shO p = (1, ci, sl) ∧ sl[k]? = some x := by
  unfold gf at h
  split at h
  · rename_i q
    exact ⟨(shO p).2.2, by rw [← q.1, ← q.2], h⟩
  · cases h
/-- how long the row of ints at p is -/
def al (p : Nat) : Nat := if (shO p).1 = 0 then (shO p).2.1 else 0
theorem al_ok {p : Nat} (h : 0 < al p) : ∃ o, shO p = (0, al p, o) := by
  unfold al at h ⊢
  split at h
  · rename_i q
    rw [if_pos q]
    exact ⟨(shO p).2.2, by rw [← q]⟩
  · omega
/-- a row of references: its first place, its length -/
def ra (p : Nat) : Option (Nat × Nat) := if p = 35 then some (36, 7) else if p = 51 then some (52, 4) else if p = 68 then some (100, 7) else none
/-- how a field may be written: 0 an int, 1 a boolean, 2 not -/
def pft (ci k : Nat) : Nat := if (fTk ci k).2.2.2 = true then 2 else if (fTk ci k).2.2.1 = "I" then 0 else if (fTk ci k).2.2.1 = "Z" then 1 else 2
/-- the class of the object at p (7: a String) -/
def pcl (p : Nat) : Nat := if (shO p).1 = 1 then (shO p).2.1 else if 100 ≤ p ∧ p < 113 then 7 else 99
def tyC (ci : Nat) : Nat → FieldType := if ci = 0 then tyX0 else if ci = 1 then tyX2 else if ci = 2 then tyX3 else if ci = 3 then tyX4 else if ci = 4 then tyX5 else if ci = 5 then tyX6 else tyX7
theorem cl_ok {ci : Nat} (h : ci < 7) : ∃ C T N, vwCl[ci]? = some (C, T, N) ∧ (∀ k, k < N → parseFieldDescriptor (T k).2.2.1 = some (tyC ci k)) ∧ (∀ a, a < N → ∀ b, b < N → a ≠ b → (T a).2.1 ≠ (T b).2.1) ∧ (∀ w ∈ u_ws C T N, w ∈ gT) ∧ (∀ k, fTk ci k = T k) ∧ (vwCl.getD ci (RX0, TX0, 0)).2.2 = N ∧ (vwCl.getD ci ("java/lang/String", TX0, 0)).1 = C := by
  match ci, h with
  | 0, _ => exact ⟨RX0, TX0, 10, rfl, tyX0_ok, nmX0, by decide +kernel, fun _ => rfl, rfl, rfl⟩
  | 1, _ => exact ⟨RX2, TX2, 4, rfl, tyX2_ok, nmX2, by decide +kernel, fun _ => rfl, rfl, rfl⟩
  | 2, _ => exact ⟨RX3, TX3, 10, rfl, tyX3_ok, nmX3, by decide +kernel, fun _ => rfl, rfl, rfl⟩
  | 3, _ => exact ⟨RX4, TX4, 3, rfl, tyX4_ok, nmX4, by decide +kernel, fun _ => rfl, rfl, rfl⟩
  | 4, _ => exact ⟨RX5, TX5, 5, rfl, tyX5_ok, nmX5, by decide +kernel, fun _ => rfl, rfl, rfl⟩
  | 5, _ => exact ⟨RX6, TX6, 10, rfl, tyX6_ok, nmX6, by decide +kernel, fun _ => rfl, rfl, rfl⟩
  | 6, _ => exact ⟨RX7, TX7, 26, rfl, tyX7_ok, nmX7, by decide +kernel, fun _ => rfl, rfl, rfl⟩
section Rules
variable {mi : MI} {d : Nat} {post : Value → Mem → Prop} {pc : Nat} {L st : List Value} {M : Mem}
def fvO (σ : Nat → Nat) (M : Mem) (p k : Nat) (x : Option Nat) : Value := match x with
  | some q => .ref (σ q)
  | none => .int (M p k)
theorem fld_at {σ : Nat → Nat} {M : Mem} {p k : Nat} {sl : List (Option Nat)} {x : Option Nat} (h : sl[k]? = some x) : ((List.range sl.length).map (fldV σ M p sl))[k]? = some (fvO σ M p k x) := by
  have hk : k < sl.length := (List.getElem?_eq_some_iff.mp h).1
  rw [List.getElem?_map, List.getElem?_range hk, Option.map_some]
  have e : sl.getD k none = x := by rw [List.getD, h]; rfl
  unfold fldV
  rw [e]
  cases x <;> rfl
theorem r_getfield {i ci k p : Nat} {x : Option Nat} (hd : decode mi.2.2.1 pc = .ok (.getfield i, 3)) (hf : fres mi.1 i = some (ci, k)) (hg : gf ci k p = some x) (kk : WP mi d post (pc + 3) L ((match x with | some q => .ref q | none => .int (M p k)) :: st) M) : WP mi d post pc L (.ref p :: st) M := by
  intro l D tc σ P e s m args below meth c H locs ls C hL hP hS hl
  obtain ⟨hw, h7, hkN⟩ := fres_ok hf
  obtain ⟨Cn, T, N, c1, -, -, c4, c5, c6, -⟩ := cl_ok h7
  obtain ⟨sl, hs, hx⟩ := gf_ok hg
  have hp := place_lt hs (by simp)
  have hlink := C.2.2.2.2.2.2.1 _ hw
  unfold fWord at hlink
  rw [c5] at hlink
  dsimp only at hlink hkN
  rw [c6] at hkN
  have kk := kk l D tc σ P e s m args below meth c H locs ls C hL hP hS hl
  refine va_get (D := D) (ci := ci) (C := Cn) (T := T) (N := N) C.2.1 C.2.2.1 C.2.2.2.2.2.2.1 c4 C.2.2.2.2.2.1 C.2.2.2.2.2.2.2.2.1 hP p ((ws_get hp).trans (by rw [cel_O hs])) c1 k hkN hlink (fun _ h => h) (fld_at hx) hd ?_
  cases x <;> exact kk
theorem r_putfield {i ci k p : Nat} {v : Int32} (hd : decode mi.2.2.1 pc = .ok (.putfield i, 3)) (hf : fres mi.1 i = some (ci, k)) (hg : gf ci k p = some none) (hq : pft ci k = 0 ∨ (pft ci k = 1 ∧ (v = 0 ∨ v = 1))) (kk : WP mi d post (pc + 3) L st (mset M p k v)) : WP mi d post pc L (.int v :: .ref p :: st) M := by
  intro l D tc σ P e s m args below meth c H locs ls C hL hP hS hl
  obtain ⟨hw, h7, hkN⟩ := fres_ok hf
  obtain ⟨Cn, T, N, c1, c2, c3, c4, c5, c6, -⟩ := cl_ok h7
  obtain ⟨sl, hs, hx⟩ := gf_ok hg
  have hp := place_lt hs (by simp)
  have hlink := C.2.2.2.2.2.2.1 _ hw
  unfold fWord at hlink
  rw [c5] at hlink
  dsimp only at hlink hkN
  rw [c6] at hkN
  have hfin : (T k).2.2.2 = false := by
    rw [← c5]
    cases hz : (fTk ci k).2.2.2 with
    | false => rfl
    | true =>
      unfold pft at hq
      rw [hz] at hq
      simp at hq
  obtain ⟨ty, e1, e2, e3⟩ : ∃ ty, parseFieldDescriptor (T k).2.2.1 = some ty ∧ narrow ty (.int v) = .int v ∧ fits ty (.int v) = true := by
    unfold pft at hq
    rw [c5, hfin] at hq
    by_cases z1 : (T k).2.2.1 = "I"
    · exact ⟨.int, by rw [z1]; decide +kernel, rfl, rfl⟩
    · by_cases z2 : (T k).2.2.1 = "Z"
      · simp [z1, z2] at hq
        refine ⟨.boolean, by rw [z2]; decide +kernel, ?_, ?_⟩
        · rcases hq with rfl | rfl <;> rfl
        · rcases hq with rfl | rfl <;> rfl
      · simp [z1, z2] at hq
  refine va_put (D := D) (ci := ci) (C := Cn) (T := T) (N := N) C.2.1 C.2.2.1 C.2.2.2.2.2.2.1 c4 (tyC ci) c2 c3 C.2.2.2.2.2.1 C.2.2.2.2.2.2.2.2.1 hP (ws_D C.1) hS p ((ws_get hp).trans (by rw [cel_O hs])) c1 k hkN hlink (fun _ h => h) hfin e1 e2 e3 (by rw [List.length_map, List.length_range]; exact (List.getElem?_eq_some_iff.mp hx).1) hd (fun H1 locs1 hP1 _ hS1 => ?_)
  have hP1 : va_P D vwCl ((wsM σ tc M).set p (σ p, .inr (ci, ((List.range sl.length).map (fldV σ M p sl)).set k (.int v)))) H1 := hP1
  rw [ws_setF hs hx] at hP1
  exact kk l D tc σ P e s m args below meth c H1 locs1 ls C hL hP1 hS1 hl
theorem in_of {i : Int32} {n : Nat} (h : 0 ≤ i.toInt ∧ i.toInt < n) : vp_in i n := vp_in_iff.mpr h
theorem pos_of {i : Int32} {n : Nat} (h : 0 ≤ i.toInt ∧ i.toInt < n) : 0 < n := by omega
theorem r_iaload {p : Nat} {i : Int32} (hd : decode mi.2.2.1 pc = .ok (.iaload, 1)) (hi : 0 ≤ i.toInt ∧ i.toInt < al p) (kk : WP mi d post (pc + 1) L (.int (M p i.toNatClampNeg) :: st) M) : WP mi d post pc L (.int i :: .ref p :: st) M := by
  intro l D tc σ P e s m args below meth c H locs ls C hL hP hS hl
  obtain ⟨o, hs⟩ := al_ok (pos_of hi)
  have hp := place_lt hs (by simp)
  exact va_iald C.2.1 C.2.2.1 C.2.2.2.2.2.2.2.2.1 hP p 0 ((ws_get hp).trans (by rw [cel_A hs])) rfl (in_of hi) hd (kk l D tc σ P e s m args below meth c H locs ls C hL hP hS hl)
theorem r_iastore {p : Nat} {i v : Int32} (hd : decode mi.2.2.1 pc = .ok (.iastore, 1)) (hi : 0 ≤ i.toInt ∧ i.toInt < al p) (kk : WP mi d post (pc + 1) L st (mset M p i.toNatClampNeg v)) : WP mi d post pc L (.int v :: .int i :: .ref p :: st) M := by
  intro l D tc σ P e s m args below meth c H locs ls C hL hP hS hl
  obtain ⟨o, hs⟩ := al_ok (pos_of hi)
  have hp := place_lt hs (by simp)
  refine va_iast C.2.1 C.2.2.1 C.2.2.2.2.2.2.2.2.1 hP (ws_D C.1) hS p 0 ((ws_get hp).trans (by rw [cel_A hs])) rfl (in_of hi) hd (fun H1 locs1 hP1 _ hS1 => ?_)
  rw [ws_setA hs] at hP1
  exact kk l D tc σ P e s m args below meth c H1 locs1 ls C hL hP1 hS1 hl
theorem r_ialoadK {i : Int32} (hd : decode mi.2.2.1 pc = .ok (.iaload, 1)) (hi : 0 ≤ i.toInt ∧ i.toInt < (7 : Nat)) (kk : WP mi d post (pc + 1) L (.int (kab.getD i.toNatClampNeg 0) :: st) M) : WP mi d post pc L (.int i :: .ref 90 :: st) M :=
  fun l D tc σ P e s m args below meth c H locs ls C hL hP hS hl => va_ti C.2.1 C.2.2.1 C.2.2.2.2.2.2.2.2.2.2.2.2.2.1 hS (in_of hi) rfl hd (kk l D tc σ P e s m args below meth c H locs ls C hL hP hS hl)
theorem r_alenK (hd : decode mi.2.2.1 pc = .ok (.arraylength, 1)) (kk : WP mi d post (pc + 1) L (.int 7 :: st) M) : WP mi d post pc L (.ref 90 :: st) M :=
  fun l D tc σ P e s m args below meth c H locs ls C hL hP hS hl => va_tlen C.2.1 C.2.2.1 C.2.2.2.2.2.2.2.2.2.2.2.2.2.1 hS rfl hd (kk l D tc σ P e s m args below meth c H locs ls C hL hP hS hl)
theorem r_alen {p : Nat} (hd : decode mi.2.2.1 pc = .ok (.arraylength, 1)) (ha : 0 < al p) (kk : WP mi d post (pc + 1) L (.int (Int32.ofNat (al p)) :: st) M) : WP mi d post pc L (.ref p :: st) M := by
  intro l D tc σ P e s m args below meth c H locs ls C hL hP hS hl
  obtain ⟨o, hs⟩ := al_ok ha
  have hp := place_lt hs (by simp)
  exact va_alen (x := (al p, .inl (M p))) C.2.1 C.2.2.1 C.2.2.2.2.2.2.2.2.1 hP p 0 ((ws_get hp).trans (by rw [cel_A hs])) (ty := .int) rfl rfl hd (kk l D tc σ P e s m args below meth c H locs ls C hL hP hS hl)
theorem ra_ok {p b n : Nat} (h : ra p = some (b, n)) : ∃ t sl, shO p = (2, t, sl) ∧ sl.length = n ∧ (∀ i, i < n → sl.getD i none = some (b + i)) ∧ p < NP ∧ ((t = 0 → True) ∧ t < 2) := by
  unfold ra at h
  split at h
  · rename_i q; subst q; cases h
    exact ⟨0, _, rfl, rfl, by decide +kernel, by decide, by decide⟩
  · split at h
    · rename_i q; subst q; cases h
      exact ⟨0, _, rfl, rfl, by decide +kernel, by decide, by decide⟩
    · split at h
      · rename_i q; subst q; cases h
        exact ⟨1, _, rfl, rfl, by decide +kernel, by decide, by decide⟩
      · cases h
theorem r_alenR {p b n : Nat} (hd : decode mi.2.2.1 pc = .ok (.arraylength, 1)) (ha : ra p = some (b, n)) (kk : WP mi d post (pc + 1) L (.int (Int32.ofNat n) :: st) M) : WP mi d post pc L (.ref p :: st) M := by
  intro l D tc σ P e s m args below meth c H locs ls C hL hP hS hl
  obtain ⟨t, sl, hs, hn, -, hp, -, ht⟩ := ra_ok ha
  subst hn
  have kk := kk l D tc σ P e s m args below meth c H locs ls C hL hP hS hl
  match t, ht, hs with
  | 0, _, hs => exact va_alen (x := (sl.length, .inr (.inr (.inr (.inr (fun i => (sl.getD i none).map σ)))))) C.2.1 C.2.2.1 C.2.2.2.2.2.2.2.2.1 hP p 1 ((ws_get hp).trans (by rw [cel_R hs]; rfl)) (ty := .array .int) rfl rfl hd kk
  | 1, _, hs => exact va_alen (x := (sl.length, .inr (.inr (.inr (.inr (fun i => (sl.getD i none).map σ)))))) C.2.1 C.2.2.1 C.2.2.2.2.2.2.2.2.1 hP p 2 ((ws_get hp).trans (by rw [cel_R hs]; rfl)) (ty := .object "java/lang/String") rfl rfl hd kk
theorem r_aaload {p b n : Nat} {i : Int32} (hd : decode mi.2.2.1 pc = .ok (.aaload, 1)) (ha : ra p = some (b, n)) (hi : 0 ≤ i.toInt ∧ i.toInt < n) (kk : WP mi d post (pc + 1) L (.ref (b + i.toNatClampNeg) :: st) M) : WP mi d post pc L (.int i :: .ref p :: st) M := by
  intro l D tc σ P e s m args below meth c H locs ls C hL hP hS hl
  obtain ⟨t, sl, hs, hn, hb, hp, -, ht⟩ := ra_ok ha
  have kk := kk l D tc σ P e s m args below meth c H locs ls C hL hP hS hl
  have hin := in_of hi
  have hlt : i.toNatClampNeg < n := Nat.not_le.mp fun q => hin (Or.inr q)
  have hv : va_rf (((sl.getD i.toNatClampNeg none).map σ)) = vr σ (.ref (b + i.toNatClampNeg)) := by
    rw [hb _ hlt]
    rfl
  subst hn
  match t, ht, hs with
  | 0, _, hs =>
    have hc := (ws_get (σ := σ) (tc := tc) (M := M) hp).trans (by rw [cel_R hs])
    refine W.aald (v := vr σ (.ref (b + i.toNatClampNeg))) (ty := .array .int) C.2.1 C.2.2.1 (hP p _ hc) ((C.2.2.2.2.2.2.2.2.1.2 1 (tc.2.1, .array .int) rfl).1 sl.length _) rfl (fun q => by cases q) (by show ¬ (i < 0 ∨ (arrV _ _ _).slots.size ≤ _); rw [arrV_size]; exact hin) (by show (arrV _ _ _).slots[_]? = _; rw [arrV_read _ _ hlt, ← hv]) rfl rfl hd kk
  | 1, _, hs =>
    refine va_aldq C.2.1 C.2.2.1 C.2.2.2.2.2.2.2.2.1 hP p 2 ((ws_get hp).trans (by rw [cel_R hs]; rfl)) (C := "java/lang/String") rfl hin hd ?_
    rw [hv]
    exact kk
theorem r_getstatic (hd : decode mi.2.2.1 pc = .ok (.getstatic gsI.2, 3)) (hc : mi.1 = gsI.1) (kk : WP mi d post (pc + 3) L (.ref 90 :: st) M) : WP mi d post pc L st M := by
  intro l D tc σ P e s m args below meth c H locs ls C hL hP hS hl
  have hown := C.2.2.2.2.2.1
  rw [hc] at hown
  exact va_getsN C.2.1 C.2.2.1 C.2.2.2.2.2.2.2.2.2.2.2.2.1 hS hown (va_Nw.use rfl C.2.2.2.2.2.2.2.2.2.2.2.2.2.2.2.1) (fun _ h => h) hd (kk l D tc σ P e s m args below meth c H locs ls C hL hP hS hl)
end Rules
end
section
/-! CALLS -/
section Rules
variable {mi : MI} {d : Nat} {post : Value → Mem → Prop} {pc : Nat} {L st : List Value} {M : Mem}
theorem sum_cat (σ : Nat → Nat) : ∀ rest : List Value, ((rest.map (vr σ)).map fun v => v.category).sum ≤ 2 * rest.length := by
  intro rest
  induction rest with
  | nil => exact Nat.le_refl 0
  | cons v vs ih =>
    simp only [List.map_cons, List.sum_cons, List.length_cons]
    have : (vr σ v).category ≤ 2 := by
      rcases lv_cat (vr σ v) with h | h <;> omega
    omega
theorem wordsM {s : State} {args : Array Value} {j : Nat} (hj : j < NM) (hts : ∀ w ∈ gT, w.before args s = true) : ∀ w ∈ mws (mI j), ∀ (a' : Array Value) (U : State), s.WarmedH U.vm → w.before a' U = true := by
  intro w hw a' U hW
  obtain ⟨h1, h2⟩ := mws_good hj w hw
  exact word_at hW h2 (hts w h1)
theorem callB_M {s : State} {args : Array Value} {j np i : Nat} {own : String} (hj : j < NM) (hts : ∀ w ∈ gT, w.before args s = true) (hnp : (parseMethodDescriptor (mI j).2.1.desc).map (fun d => d.parameters.length) = some np) (hl : (Cond.methodLink own i (mI j).2.1).before args s = true) :
    CallB (rmM (d + 1)) s args own i (mI j).2.1 (mI j).2.2.1 (mI j).2.2.2.1 (mI j).2.2.2.2 (mws (mI j)) (rmM d) 0 0 np := by
  obtain ⟨h1, h2⟩ := mok hj
  simp only [mArgs, Bool.and_eq_true, decide_eq_true_eq] at h2
  obtain ⟨⟨⟨⟨a1, a2⟩, a3⟩, a4⟩, a5⟩ := h2
  refine ⟨rfl, rfl, ?_, ?_, wordsM hj hts, List.mem_cons_self, hts _ (h1 _ (List.mem_cons_of_mem _ List.mem_cons_self)), hts _ (h1 _ List.mem_cons_self), ⟨a1, a2⟩, ?_, hl⟩
  · show d + 2 + 1 ≤ d + 1 + 2
    omega
  · show 8 + ((mI j).2.2.2.1 + 11) + 64 * (d + 2) ≤ 64 * (d + 1 + 2)
    omega
  · intro sig h
    rw [h] at hnp
    exact (Option.some.inj hnp).symm
theorem lkA {e : (Nat × Nat) × Nat × Nat × Nat × Nat} (h0 : 10 ≤ e.2.2.2.2 ∨ e.2.2.2.2 < 5) (h : lkArgs e = true) : e.2.1 < NM ∧ (parseMethodDescriptor (mI e.2.1).2.1.desc).map (fun d => d.parameters.length) = some (if 10 ≤ e.2.2.2.2 then e.2.2.1 - 1 else e.2.2.1) ∧ (e.2.2.2.2 < 10 ∨ (mI e.2.1).2.1.cls = (vwCl.getD (e.2.2.2.2 - 10) ("java/lang/String", TX0, 0)).1) ∧ ((e.2.2.2.1 = 0) ↔ (mI e.2.1).2.2.2.2 = none) := by
  unfold lkArgs at h
  rw [Bool.or_eq_true] at h
  rcases h with h | h
  · simp only [Bool.and_eq_true, decide_eq_true_eq] at h
    omega
  · simp only [Bool.and_eq_true, decide_eq_true_eq] at h
    obtain ⟨⟨⟨⟨a, b⟩, -⟩, c⟩, d⟩ := h
    exact ⟨a, b, c, d⟩
theorem pre_blind {D : va_G} {tc : Nat × Nat × Nat} {σ : Nat → Nat} {M : Mem} {av : List Value} : FrameBlind (va_Pc av (fun U => va_P D vwCl (wsM σ tc M) U.heap ∧ va_K D vwCl (tysM tc) U ∧ RO σ U U.heap)) := by
  intro a U g mk q
  obtain ⟨q0, qP, qK, qR⟩ := q
  exact ⟨q0, qP, va_K.moved (u := U) (U := U.calling g mk a) (Vm.Alike.refl U.vm) qK, RO.blind qR⟩
/-- behind a call's run -/
theorem r_after {j : Nat} {l : Launch} {D : va_G} {tc : Nat × Nat × Nat} {σ : Nat → Nat} {p : Program} {e : Env} {s : State} {m : MethodId} {args av : Array Value} {below : List Frame} {meth : Method} {c : Code} {H : Heap} {locs : List Loc} {ls : Array Slot} {st0 : List Value} {rest : List Value} {r : Nat}
    (C : CX mi D tc σ p s m args meth c) (hL : L.length = mi.2.2.2.1) (hS : va_S (Am σ) s.heap H locs) (hl : lv_has ls mi.2.2.2.1 (prs σ L)) (hr : r = 0 ↔ (mI j).2.2.2.2 = none)
    (run : va_Run p l e (rmM (d + 1)) s m args below meth c H locs 0 0 0 0 (F0 m pc ls st0) (rest.map (vr σ)) (retQ D tc σ (mI j).2.2.2.2 (fun v M' => WP mi (d + 1) post (pc + 3) L (if r = 0 then rest else v :: rest) M') av) (Am σ)) :
    W p l e (rmM (d + 1)) s m args below meth c H locs 0 0 (MQ below (retQ D tc σ mi.2.2.2.2 post) args s 0 0 (Am σ)) (F0 m pc ls st0) := by
  generalize (mI j).2.2.2.2 = rt at run hr
  cases rt with
  | none =>
    have hr0 := hr.mpr rfl
    subst hr0
    have run : va_Run p l e (rmM (d + 1)) s m args below meth c H locs 0 0 0 0 (F0 m pc ls st0) (rest.map (vr σ)) (va_Qv (S := Mem) (fun M' => WP mi (d + 1) post (pc + 3) L rest M') (fun M t => va_P D vwCl (wsM σ tc M) t.heap) (Am σ) av) (Am σ) := run
    refine va_callv run hS (fun q _ h => h) (fun q h => h) (fun M' t H1 locs1 ht hvm hw hB hz hk hS1 => ?_)
    have hB : va_P D vwCl (wsM σ tc M') t.heap := hB
    rw [ht] at hB
    exact hw l D tc σ p e s m args below meth c H1 locs1 ls C hL hB hS1 hl
  | some ty =>
    have hr0 : ¬ r = 0 := fun q => by have := hr.mp q; cases this
    by_cases hl2 : ty = .long
    · subst hl2
      have run : va_Run p l e (rmM (d + 1)) s m args below meth c H locs 0 0 0 0 (F0 m pc ls st0) (rest.map (vr σ)) (va_Ql (S := Mem) (fun v M' => WP mi (d + 1) post (pc + 3) L (if r = 0 then rest else .long v :: rest) M') (fun M t => va_P D vwCl (wsM σ tc M) t.heap) (Am σ) av) (Am σ) := run
      refine va_calll run hS (fun q _ h => h) (fun q h => h) (fun v M' t H1 locs1 ht hvm hw hB hz hk hS1 => ?_)
      have hB : va_P D vwCl (wsM σ tc M') t.heap := hB
      rw [ht] at hB
      rw [if_neg hr0] at hw
      exact hw l D tc σ p e s m args below meth c H1 locs1 ls C hL hB hS1 hl
    · rw [retQ_i hl2] at run
      refine va_calli run hS (fun q _ h => h) (fun q h => h) (fun v M' t H1 locs1 ht hvm hw hB hz hk hS1 => ?_)
      have hB : va_P D vwCl (wsM σ tc M') t.heap := hB
      rw [ht] at hB
      rw [if_neg hr0] at hw
      exact hw l D tc σ p e s m args below meth c H1 locs1 ls C hL hB hS1 hl
theorem r_virtual {i j n r ci p : Nat} {as rest : List Value} (hd : decode mi.2.2.1 pc = .ok (.invokevirtual i, 3)) (hc : cres mi.1 i = some (j, n, r, 10 + ci)) (hn : as.length + 1 = n) (hp : pcl p = ci) (hr : rest.length ≤ 4)
    (h : CallP d j (.ref p :: as) M (fun v M' => WP mi (d + 1) post (pc + 3) L (if r = 0 then rest else v :: rest) M')) : WP mi (d + 1) post pc L (as.reverse ++ .ref p :: rest) M := by
  intro l D tc σ P e s m args below meth c H locs ls C hL hP hS hl
  obtain ⟨hw, ha⟩ := cres_ok hc
  unfold lkWords at hw
  dsimp only at hw
  rw [if_pos (Nat.le_add_right 10 ci)] at hw
  obtain ⟨hj, hnp, hcls, hrr⟩ := lkA (Or.inl (Nat.le_add_right 10 ci)) ha
  dsimp only at hj hnp hcls hrr
  rw [if_pos (Nat.le_add_right 10 ci)] at hnp
  have hts := C.2.2.2.2.2.2.1
  have hcls : (mI j).2.1.cls = (vwCl.getD ci ("java/lang/String", TX0, 0)).1 := by
    rcases hcls with q | q
    · omega
    · rw [Nat.add_sub_cancel_left] at q
      exact q
  have hrecv : ∃ cellB : Cell, H[σ p]? = some cellB ∧ cellB.vm.isStatics = false ∧ s.vm.findClass (mI j).2.1.cls = some cellB.cls := by
    unfold pcl at hp
    split at hp
    · rename_i hs1
      have h7 : ci < 7 := by
        have : ∀ q, q < NP → (shO q).1 = 1 → (shO q).2.1 < 7 := by decide +kernel
        rw [← hp]
        exact this p (place_lt (x := shO p) rfl (by rw [hs1]; decide)) hs1
      have hs : shO p = (1, ci, (shO p).2.2) := by rw [← hs1, ← hp]
      obtain ⟨Cn, T, N, c1, -, -, -, -, -, c7⟩ := cl_ok h7
      rw [hcls, c7]
      exact va_recv C.2.2.2.2.2.2.2.2.1 hP c1 ((ws_get (place_lt hs (by simp))).trans (by rw [cel_O hs]))
    · split at hp
      · rename_i q
        subst hp
        rw [hcls]
        have hO := (C.2.2.2.2.2.2.2.2.2.1 (p - 100) (by omega)).1
        rw [show 100 + (p - 100) = p by omega] at hO
        exact va_Orecv hO hS
      · subst hp
        rw [hcls]
        have hjc : (mI j).2.1.cls = "java/lang/String" := hcls
        exfalso
        have : ∀ e ∈ lkTab, e.2.2.2.2 ≠ 10 + 99 := by decide +kernel
        obtain ⟨k, hk⟩ := lk_mem hc
        exact this _ (List.mem_of_getElem? hk) rfl
  have hst : (as.reverse ++ .ref p :: rest).map (vr σ) = (as.map (vr σ)).reverse ++ .ref (σ p) :: rest.map (vr σ) := by
    rw [List.map_append, List.map_reverse]
    rfl
  rw [hst]
  refine r_after (j := j) (r := r) (rest := rest) (av := (Value.ref (σ p) :: as.map (vr σ)).toArray) C hL hS hl hrr ?_
  refine va_runV (C := (mI j).2.1.cls) (n := as.length) (nL := mi.2.2.2.1) ⟨C.2.1, C.2.2.1, C.2.2.2.2.1, C.2.2.2.2.2.1, hts⟩ (h l D tc σ C.1) ⟨callB_M hj hts (by rw [hnp, ← hn]; rfl) (hts _ (hw _ List.mem_cons_self)), hts _ (hw _ (List.mem_cons_of_mem _ List.mem_cons_self)), hts _ (hw _ (List.mem_cons_of_mem _ (List.mem_cons_of_mem _ List.mem_cons_self)))⟩ ⟨pre_blind, hrecv, fun U hU hW => ⟨rfl, by rw [hU]; exact hP, va_K.moved hW.alike C.2.2.2.2.2.2.2.2.1, RO.at C.2.2.2.2.2.2.2.2.2 hS hU hW⟩⟩ rfl (by rw [List.length_map]) hl.1 rfl (lv_room (Nat.le_trans (sum_cat σ rest) (by omega))) hd ⟨Nat.le_refl _, Nat.le_refl _⟩
theorem r_static {i j n r md : Nat} {as rest : List Value} (hd : decode mi.2.2.1 pc = .ok (.invokestatic i, 3)) (hc : cres mi.1 i = some (j, n, r, md)) (hmd : md = 1 ∨ md = 2) (hn : as.length = n) (hr : rest.length ≤ 4)
    (h : CallP d j as M (fun v M' => WP mi (d + 1) post (pc + 3) L (if r = 0 then rest else v :: rest) M')) : WP mi (d + 1) post pc L (as.reverse ++ rest) M := by
  intro l D tc σ P e s m args below meth c H locs ls C hL hP hS hl
  obtain ⟨hw, ha⟩ := cres_ok hc
  have hts := C.2.2.2.2.2.2.1
  have hst : (as.reverse ++ rest).map (vr σ) = (as.map (vr σ)).reverse ++ rest.map (vr σ) := by
    rw [List.map_append, List.map_reverse]
  rw [hst]
  unfold lkWords at hw
  have hpre : PreS s H (va_Pc (as.map (vr σ)) (fun U => va_P D vwCl (wsM σ tc M) U.heap ∧ va_K D vwCl (tysM tc) U ∧ RO σ U U.heap)) (as.map (vr σ)) := ⟨pre_blind, fun U hU hW => ⟨rfl, by rw [hU]; exact hP, va_K.moved hW.alike C.2.2.2.2.2.2.2.2.1, RO.at C.2.2.2.2.2.2.2.2.2 hS hU hW⟩⟩
  rcases hmd with rfl | rfl
  · dsimp only at hw
    rw [if_neg (by decide), if_pos rfl] at hw
    obtain ⟨hj, hnp, -, hrr⟩ := lkA (Or.inr (Nat.le_of_ble_eq_true rfl)) ha
    dsimp only at hj hnp hrr
    rw [if_neg (by decide)] at hnp
    refine r_after (j := j) (r := r) (rest := rest) (av := (as.map (vr σ)).toArray) C hL hS hl hrr ?_
    exact va_runS (n := as.length) (nL := mi.2.2.2.1) ⟨C.2.1, C.2.2.1, C.2.2.2.2.1, C.2.2.2.2.2.1, hts⟩ (h l D tc σ C.1) ⟨callB_M hj hts (by rw [hnp, hn]) (hts _ (hw _ List.mem_cons_self)), hts _ (hw _ (List.mem_cons_of_mem _ List.mem_cons_self))⟩ hpre rfl (by rw [List.length_map]) hl.1 rfl (lv_room (Nat.le_trans (sum_cat σ rest) (by omega))) hd ⟨Nat.le_refl _, Nat.le_refl _⟩
  · dsimp only at hw
    rw [if_neg (by decide), if_neg (by decide), if_pos rfl] at hw
    obtain ⟨hj, hnp, -, hrr⟩ := lkA (Or.inr (Nat.le_of_ble_eq_true rfl)) ha
    dsimp only at hj hnp hrr
    rw [if_neg (by decide)] at hnp
    refine r_after (j := j) (r := r) (rest := rest) (av := (as.map (vr σ)).toArray) C hL hS hl hrr ?_
    obtain ⟨h1, h2⟩ := mok hj
    simp only [mArgs, Bool.and_eq_true, decide_eq_true_eq] at h2
    obtain ⟨⟨⟨⟨a1, a2⟩, a3⟩, a4⟩, a5⟩ := h2
    have cn := va_cnB (R := rmM (d + 1)) (args := args) (s := s) (mc := 0) (ms := 0) (rm := rmM d) (own := clsN mi.1) (index := i) (host := RX6) (ws' := gT) as.length hts (mws_good hj) rfl rfl rfl (C.2.2.2.2.2.2.2.2.2.2.2.2.2.2.1 _ (n_all hc)) (hts _ (h1 _ List.mem_cons_self)) ⟨a1, a2, by rw [hnp, hn]⟩ ⟨by show d + 2 + 1 ≤ d + 1 + 2; omega, by show 8 + ((mI j).2.2.2.1 + 11) + 64 * (d + 2) ≤ 64 * (d + 1 + 2); omega⟩
    exact va_runSN (n := as.length) (nL := mi.2.2.2.1) ⟨C.2.1, C.2.2.1, C.2.2.2.2.1, C.2.2.2.2.2.1, hts⟩ (h l D tc σ C.1) ⟨cn, hts _ (hw _ List.mem_cons_self), trivial⟩ hpre rfl (by rw [List.length_map]) hl.1 rfl (lv_room (Nat.le_trans (sum_cat σ rest) (by omega))) hd ⟨Nat.le_refl _, Nat.le_refl _⟩
theorem r_copy {i j n r p q : Nat} {sp dp k : Int32} {rest : List Value} (hd : decode mi.2.2.1 pc = .ok (.invokestatic i, 3)) (hc : cres mi.1 i = some (j, n, r, 5)) (hr : rest.length ≤ 4)
    (h1 : 0 ≤ sp.toInt) (h2 : 0 ≤ dp.toInt) (h3 : 0 ≤ k.toInt) (h4 : sp.toInt + k.toInt ≤ al p) (h5 : dp.toInt + k.toInt ≤ al q) (hp : 0 < al p) (hq : 0 < al q)
    (kk : WP mi d post (pc + 3) L rest (mrow M q (va_cpy (M p) (M q) sp.toNatClampNeg dp.toNatClampNeg k.toNatClampNeg))) : WP mi d post pc L (.int k :: .int dp :: .ref q :: .int sp :: .ref p :: rest) M := by
  intro l D tc σ P e s m args below meth c H locs ls C hL hP hS hl
  obtain ⟨hw, ha⟩ := cres_ok hc
  have hts := C.2.2.2.2.2.2.1
  unfold lkWords at hw
  dsimp only at hw
  rw [if_neg (by decide), if_neg (by decide), if_neg (by decide), if_neg (by decide), if_neg (by decide), if_neg (by decide)] at hw
  obtain ⟨o1, s1⟩ := al_ok hp
  obtain ⟨o2, s2⟩ := al_ok hq
  have pp := place_lt s1 (by simp)
  have pq := place_lt s2 (by simp)
  have cl : ∀ x : Int32, 0 ≤ x.toInt → (x.toNatClampNeg : Int) = x.toInt ∧ ¬ x < 0 := by
    intro x hx
    obtain ⟨y, hy, rfl⟩ := nI_of (x := x) (by rw [Int32.lt_iff_toInt_lt, Int32.toInt_zero]; omega)
    rw [nI_clamp hy, nI_toInt hy]
    exact ⟨rfl, nI_pos hy⟩
  obtain ⟨u1, v1⟩ := cl sp h1
  obtain ⟨u2, v2⟩ := cl dp h2
  obtain ⟨u3, v3⟩ := cl k h3
  refine va_copyi (rest := rest.map (vr σ)) C.2.1 C.2.2.1 (C.2.2.2.2.1.trans hl.1.symm) C.2.2.2.2.2.1 (hts _ (hw _ List.mem_cons_self)) (hts _ (hw _ (List.mem_cons_of_mem _ List.mem_cons_self))) (hts _ (hw _ (List.mem_cons_of_mem _ (List.mem_cons_of_mem _ List.mem_cons_self)))) (hts _ (hw _ (List.mem_cons_of_mem _ (List.mem_cons_of_mem _ (List.mem_cons_of_mem _ List.mem_cons_self))))) C.2.2.2.2.2.2.2.2.1 hP (ws_D C.1) hS p q 0 0 ((ws_get pp).trans (by rw [cel_A s1])) ((ws_get pq).trans (by rw [cel_A s2])) (ty := .int) rfl rfl rfl v1 v2 v3 (by omega) (by omega) (fun _ _ => rfl) (by show 1 ≤ d + 2; omega) ?_ hd (fun H1 locs1 hP1 _ hS1 => ?_)
  · have := sum_cat σ rest
    show _ + (nativeFrameWords "java/lang/System" "arraycopy" 5 + 11) ≤ 64 * (d + 2)
    have e : nativeFrameWords "java/lang/System" "arraycopy" 5 ≤ 50 := by decide +kernel
    omega
  · rw [ws_setA s2] at hP1
    exact kk l D tc σ P e s m args below meth c H1 locs1 ls C hL hP1 hS1 hl
theorem r_mmax {i j n r : Nat} {x y : Int32} {rest : List Value} (hd : decode mi.2.2.1 pc = .ok (.invokestatic i, 3)) (hc : cres mi.1 i = some (j, n, r, 6)) (hr : rest.length ≤ 4) (kk : WP mi d post (pc + 3) L (.int (if x < y then y else x) :: rest) M) : WP mi d post pc L (.int y :: .int x :: rest) M := by
  intro l D tc σ P e s m args below meth c H locs ls C hL hP hS hl
  obtain ⟨hw, ha⟩ := cres_ok hc
  have hts := C.2.2.2.2.2.2.1
  unfold lkWords at hw
  dsimp only at hw
  rw [if_neg (by decide), if_neg (by decide), if_neg (by decide), if_pos rfl] at hw
  have := sum_cat σ rest
  exact va_mmax (rest := rest.map (vr σ)) C.2.1 C.2.2.1 (C.2.2.2.2.1.trans hl.1.symm) C.2.2.2.2.2.1 (hts _ (hw _ List.mem_cons_self)) (hts _ (hw _ (List.mem_cons_of_mem _ List.mem_cons_self))) (hts _ (hw _ (List.mem_cons_of_mem _ (List.mem_cons_of_mem _ List.mem_cons_self)))) (hts _ (hw _ (List.mem_cons_of_mem _ (List.mem_cons_of_mem _ (List.mem_cons_of_mem _ List.mem_cons_self))))) (by show 1 ≤ d + 2; omega) (by show _ + 13 ≤ 64 * (d + 2); omega) (Nat.le_refl _) (Nat.le_refl _) hd (kk l D tc σ P e s m args below meth c H locs ls C hL hP hS hl)
theorem r_mmin {i j n r : Nat} {x y : Int32} {rest : List Value} (hd : decode mi.2.2.1 pc = .ok (.invokestatic i, 3)) (hc : cres mi.1 i = some (j, n, r, 7)) (hr : rest.length ≤ 4) (kk : WP mi d post (pc + 3) L (.int (if y < x then y else x) :: rest) M) : WP mi d post pc L (.int y :: .int x :: rest) M := by
  intro l D tc σ P e s m args below meth c H locs ls C hL hP hS hl
  obtain ⟨hw, ha⟩ := cres_ok hc
  have hts := C.2.2.2.2.2.2.1
  unfold lkWords at hw
  dsimp only at hw
  rw [if_neg (by decide), if_neg (by decide), if_neg (by decide), if_neg (by decide), if_pos rfl] at hw
  have := sum_cat σ rest
  exact va_mmin (rest := rest.map (vr σ)) C.2.1 C.2.2.1 (C.2.2.2.2.1.trans hl.1.symm) C.2.2.2.2.2.1 (hts _ (hw _ List.mem_cons_self)) (hts _ (hw _ (List.mem_cons_of_mem _ List.mem_cons_self))) (hts _ (hw _ (List.mem_cons_of_mem _ (List.mem_cons_of_mem _ List.mem_cons_self)))) (hts _ (hw _ (List.mem_cons_of_mem _ (List.mem_cons_of_mem _ (List.mem_cons_of_mem _ List.mem_cons_self))))) (by show 1 ≤ d + 2; omega) (by show _ + 13 ≤ 64 * (d + 2); omega) (Nat.le_refl _) (Nat.le_refl _) hd (kk l D tc σ P e s m args below meth c H locs ls C hL hP hS hl)
theorem r_mabs {i j n r : Nat} {x : Int32} {rest : List Value} (hd : decode mi.2.2.1 pc = .ok (.invokestatic i, 3)) (hc : cres mi.1 i = some (j, n, r, 8)) (hr : rest.length ≤ 4) (kk : WP mi d post (pc + 3) L (.int (if 0 ≤ x then x else 0 - x) :: rest) M) : WP mi d post pc L (.int x :: rest) M := by
  intro l D tc σ P e s m args below meth c H locs ls C hL hP hS hl
  obtain ⟨hw, ha⟩ := cres_ok hc
  have hts := C.2.2.2.2.2.2.1
  unfold lkWords at hw
  dsimp only at hw
  rw [if_neg (by decide), if_neg (by decide), if_neg (by decide), if_neg (by decide), if_neg (by decide), if_pos rfl] at hw
  have := sum_cat σ rest
  exact va_mabs (rest := rest.map (vr σ)) C.2.1 C.2.2.1 (C.2.2.2.2.1.trans hl.1.symm) C.2.2.2.2.2.1 (hts _ (hw _ List.mem_cons_self)) (hts _ (hw _ (List.mem_cons_of_mem _ List.mem_cons_self))) (hts _ (hw _ (List.mem_cons_of_mem _ (List.mem_cons_of_mem _ List.mem_cons_self)))) (hts _ (hw _ (List.mem_cons_of_mem _ (List.mem_cons_of_mem _ (List.mem_cons_of_mem _ List.mem_cons_self))))) (by show 1 ≤ d + 2; omega) (by show _ + 13 ≤ 64 * (d + 2); omega) (Nat.le_refl _) (Nat.le_refl _) hd (kk l D tc σ P e s m args below meth c H locs ls C hL hP hS hl)
theorem CallP.mono {d j : Nat} {args : List Value} {M : Mem} {P Q : Value → Mem → Prop} (h : CallP d j args M P) (hPQ : ∀ v M', P v M' → Q v M') : CallP d j args M Q := by
  intro l D tc σ hI
  have h0 := h l D tc σ hI
  intro p e ha hc hk s m av below hf happ hP hK
  obtain ⟨k, o, h1, h2, h3, ⟨hQ, hF⟩⟩ := h0 p e ha hc hk s m av below hf happ hP hK
  refine ⟨k, o, h1, h2, h3, ⟨?_, hF⟩⟩
  generalize (mI j).2.2.2.2 = rt at hQ ⊢
  cases rt with
  | none =>
    obtain ⟨⟨u, a1, a2, a3⟩, a4⟩ := hQ
    exact ⟨⟨u, a1, hPQ _ _ a2, a3⟩, a4⟩
  | some ty =>
    by_cases hl2 : ty = .long
    · subst hl2
      obtain ⟨⟨r, u, a1, a2, a3⟩, a4⟩ := hQ
      exact ⟨⟨r, u, a1, hPQ _ _ a2, a3⟩, a4⟩
    · rw [retQ_i hl2] at hQ ⊢
      obtain ⟨⟨r, u, a1, a2, a3⟩, a4⟩ := hQ
      exact ⟨⟨r, u, a1, hPQ _ _ a2, a3⟩, a4⟩
end Rules
end
section
/-! THE STEP AS A FUNCTION: what must hold at an instruction, by the instruction -/
def bT (pc : Nat) (off : Int) : Nat := ((pc : Int) + off).toNat
def vtab (K : Nat → Prop) (pc : Nat) (df : Int) (x : Int32) : Int → List Int → Prop
  | _, [] => 0 ≤ (pc : Int) + df ∧ K (bT pc df)
  | i, o :: os => if x = Int32.ofInt i then 0 ≤ (pc : Int) + o ∧ K (bT pc o) else vtab K pc df x (i + 1) os
def rOK (ret : Option FieldType) (v : Int32) : Prop := match ret with
  | some .int => True
  | some .boolean => v = 0 ∨ v = 1
  | some .byte => v.toInt8.toInt32 = v
  | some .char => narrow .char (.int v) = .int v
  | _ => False
theorem rOK_ok {ret : Option FieldType} {v : Int32} (h : rOK ret v) : ∃ ty, ret = some ty ∧ ty ≠ .long ∧ narrow ty (.int v) = .int v := by
  unfold rOK at h
  split at h
  · exact ⟨_, rfl, by decide, rfl⟩
  · refine ⟨_, rfl, by decide, ?_⟩
    rcases h with rfl | rfl <;> rfl
  · exact ⟨_, rfl, by decide, congrArg Value.int h⟩
  · exact ⟨_, rfl, by decide, h⟩
  · exact h.elim
def vins (oc : Nat) (ret : Option FieldType) (cs : Nat → List Value → Mem → (Value → Mem → Prop) → Prop) (post : Value → Mem → Prop) (K : Nat → List Value → List Value → Mem → Prop) (pc : Nat) (L : List Value) (M : Mem) (i : Instr) (len : Nat) (st : List Value) : Prop :=
  match i with
  | .iconst n => len = 1 ∧ (match st with
    | st => K (pc + 1) L (.int (Int32.ofInt n) :: st) M)
  | .bipush n => len = 2 ∧ (match st with
    | st => K (pc + 2) L (.int (Int8.ofInt n).toInt32 :: st) M)
  | .sipush n => len = 3 ∧ (match st with
    | st => K (pc + 3) L (.int (Int16.ofInt n).toInt32 :: st) M)
  | .lconst n => len = 1 ∧ (match st with
    | st => K (pc + 1) L (.long (Int64.ofNat (n : Nat)) :: st) M)
  | .iadd => len = 1 ∧ (match st with
    | .int b :: .int a :: r => K (pc + 1) L (.int (a + b) :: r) M
    | _ => False)
  | .isub => len = 1 ∧ (match st with
    | .int b :: .int a :: r => K (pc + 1) L (.int (a - b) :: r) M
    | _ => False)
  | .imul => len = 1 ∧ (match st with
    | .int b :: .int a :: r => K (pc + 1) L (.int (a * b) :: r) M
    | _ => False)
  | .iand => len = 1 ∧ (match st with
    | .int b :: .int a :: r => K (pc + 1) L (.int (a &&& b) :: r) M
    | _ => False)
  | .ior => len = 1 ∧ (match st with
    | .int b :: .int a :: r => K (pc + 1) L (.int (a ||| b) :: r) M
    | _ => False)
  | .ixor => len = 1 ∧ (match st with
    | .int b :: .int a :: r => K (pc + 1) L (.int (a ^^^ b) :: r) M
    | _ => False)
  | .ishl => len = 1 ∧ (match st with
    | .int b :: .int a :: r => K (pc + 1) L (.int (a <<< (b &&& 31)) :: r) M
    | _ => False)
  | .ishr => len = 1 ∧ (match st with
    | .int b :: .int a :: r => K (pc + 1) L (.int (a >>> (b &&& 31)) :: r) M
    | _ => False)
  | .iushr => len = 1 ∧ (match st with
    | .int b :: .int a :: r => K (pc + 1) L (.int (a.toUInt32 >>> (b.toUInt32 &&& Int32.toUInt32 31)).toInt32 :: r) M
    | _ => False)
  | .idiv => len = 1 ∧ (match st with
    | .int b :: .int a :: r => ¬ b = 0 ∧ K (pc + 1) L (.int (a / b) :: r) M
    | _ => False)
  | .irem => len = 1 ∧ (match st with
    | .int b :: .int a :: r => ¬ b = 0 ∧ K (pc + 1) L (.int (a - a / b * b) :: r) M
    | _ => False)
  | .ineg => len = 1 ∧ (match st with
    | .int a :: r => K (pc + 1) L (.int (-a) :: r) M
    | _ => False)
  | .i2l => len = 1 ∧ (match st with
    | .int a :: r => K (pc + 1) L (.long a.toInt64 :: r) M
    | _ => False)
  | .i2b => len = 1 ∧ (match st with
    | .int a :: r => K (pc + 1) L (.int a.toInt8.toInt32 :: r) M
    | _ => False)
  | .i2s => len = 1 ∧ (match st with
    | .int a :: r => K (pc + 1) L (.int a.toInt16.toInt32 :: r) M
    | _ => False)
  | .i2c => len = 1 ∧ (match st with
    | .int a :: r => K (pc + 1) L (.int (a.toUInt32 % 65536).toInt32 :: r) M
    | _ => False)
  | .ladd => len = 1 ∧ (match st with
    | .long b :: .long a :: r => K (pc + 1) L (.long (a + b) :: r) M
    | _ => False)
  | .lmul => len = 1 ∧ (match st with
    | .long b :: .long a :: r => K (pc + 1) L (.long (a * b) :: r) M
    | _ => False)
  | .lcmp => len = 1 ∧ (match st with
    | .long b :: .long a :: r => K (pc + 1) L (.int (lg_cmp a b) :: r) M
    | _ => False)
  | .dup => len = 1 ∧ (match st with
    | v :: r => v.category = 1 ∧ K (pc + 1) L (v :: v :: r) M
    | _ => False)
  | .dup2 => len = 1 ∧ (match st with
    | v :: w :: r => v.category = 1 ∧ w.category = 1 ∧ K (pc + 1) L (v :: w :: v :: w :: r) M
    | _ => False)
  | .pop => len = 1 ∧ (match st with
    | v :: r => v.category = 1 ∧ K (pc + 1) L r M
    | _ => False)
  | .iload_n q => len = 1 ∧ (match st with
    | st => match L[(q : Nat)]? with | some (.int x) => K (pc + 1) L (.int x :: st) M | _ => False)
  | .iload q => len = 2 ∧ (match st with
    | st => match L[q]? with | some (.int x) => K (pc + 2) L (.int x :: st) M | _ => False)
  | .aload_n q => len = 1 ∧ (match st with
    | st => match L[(q : Nat)]? with | some (.ref x) => K (pc + 1) L (.ref x :: st) M | _ => False)
  | .aload q => len = 2 ∧ (match st with
    | st => match L[q]? with | some (.ref x) => K (pc + 2) L (.ref x :: st) M | _ => False)
  | .lload_n q => len = 1 ∧ (match st with
    | st => match L[(q : Nat)]? with | some (.long x) => K (pc + 1) L (.long x :: st) M | _ => False)
  | .lload q => len = 2 ∧ (match st with
    | st => match L[q]? with | some (.long x) => K (pc + 2) L (.long x :: st) M | _ => False)
  | .istore_n q => len = 1 ∧ (match st with
    | .int x :: r => (q : Nat) < L.length ∧ lok L q = true ∧ K (pc + 1) (L.set q (.int x)) r M
    | _ => False)
  | .istore q => len = 2 ∧ (match st with
    | .int x :: r => q < L.length ∧ lok L q = true ∧ K (pc + 2) (L.set q (.int x)) r M
    | _ => False)
  | .lstore_n q => len = 1 ∧ (match st with
    | .long x :: r => (q : Nat) + 1 < L.length ∧ lok L q = true ∧ K (pc + 1) ((L.set q (.long x)).set (q + 1) (.retAddr 0)) r M
    | _ => False)
  | .lstore q => len = 2 ∧ (match st with
    | .long x :: r => q + 1 < L.length ∧ lok L q = true ∧ K (pc + 2) ((L.set q (.long x)).set (q + 1) (.retAddr 0)) r M
    | _ => False)
  | .iinc q n => len = 3 ∧ (match st with
    | st => match L[q]? with | some (.int x) => lok L q = true ∧ K (pc + 3) (L.set q (.int (x + Int32.ofInt n))) st M | _ => False)
  | .ifCond .eq off => len = 3 ∧ (match st with
    | .int x :: r => 0 ≤ (pc : Int) + off ∧ if x = 0 then K (bT pc off) L r M else K (pc + 3) L r M
    | _ => False)
  | .ifCond .ne off => len = 3 ∧ (match st with
    | .int x :: r => 0 ≤ (pc : Int) + off ∧ if ¬ x = 0 then K (bT pc off) L r M else K (pc + 3) L r M
    | _ => False)
  | .ifCond .lt off => len = 3 ∧ (match st with
    | .int x :: r => 0 ≤ (pc : Int) + off ∧ if x < 0 then K (bT pc off) L r M else K (pc + 3) L r M
    | _ => False)
  | .ifCond .ge off => len = 3 ∧ (match st with
    | .int x :: r => 0 ≤ (pc : Int) + off ∧ if 0 ≤ x then K (bT pc off) L r M else K (pc + 3) L r M
    | _ => False)
  | .ifCond .gt off => len = 3 ∧ (match st with
    | .int x :: r => 0 ≤ (pc : Int) + off ∧ if 0 < x then K (bT pc off) L r M else K (pc + 3) L r M
    | _ => False)
  | .ifCond .le off => len = 3 ∧ (match st with
    | .int x :: r => 0 ≤ (pc : Int) + off ∧ if x ≤ 0 then K (bT pc off) L r M else K (pc + 3) L r M
    | _ => False)
  | .if_icmp .eq off => len = 3 ∧ (match st with
    | .int y :: .int x :: r => 0 ≤ (pc : Int) + off ∧ if x = y then K (bT pc off) L r M else K (pc + 3) L r M
    | _ => False)
  | .if_icmp .ne off => len = 3 ∧ (match st with
    | .int y :: .int x :: r => 0 ≤ (pc : Int) + off ∧ if ¬ x = y then K (bT pc off) L r M else K (pc + 3) L r M
    | _ => False)
  | .if_icmp .lt off => len = 3 ∧ (match st with
    | .int y :: .int x :: r => 0 ≤ (pc : Int) + off ∧ if x < y then K (bT pc off) L r M else K (pc + 3) L r M
    | _ => False)
  | .if_icmp .ge off => len = 3 ∧ (match st with
    | .int y :: .int x :: r => 0 ≤ (pc : Int) + off ∧ if y ≤ x then K (bT pc off) L r M else K (pc + 3) L r M
    | _ => False)
  | .if_icmp .gt off => len = 3 ∧ (match st with
    | .int y :: .int x :: r => 0 ≤ (pc : Int) + off ∧ if y < x then K (bT pc off) L r M else K (pc + 3) L r M
    | _ => False)
  | .if_icmp .le off => len = 3 ∧ (match st with
    | .int y :: .int x :: r => 0 ≤ (pc : Int) + off ∧ if x ≤ y then K (bT pc off) L r M else K (pc + 3) L r M
    | _ => False)
  | .goto off => len = 3 ∧ (match st with
    | st => 0 ≤ (pc : Int) + off ∧ K (bT pc off) L st M)
  | .ldc i => len = 2 ∧ (match st with
    | st => match kres oc i with | some v => K (pc + 2) L (.int v :: st) M | none => match sres oc i with | some j => K (pc + 2) L (.ref (100 + j) :: st) M | none => False)
  | .ldc_w i => len = 3 ∧ (match st with
    | st => match kres oc i with | some v => K (pc + 3) L (.int v :: st) M | none => False)
  | .getfield i => len = 3 ∧ (match st with
    | .ref p :: r => match fres oc i with | some (ci, k) => (match gf ci k p with | some (some q) => K (pc + 3) L (.ref q :: r) M | some none => K (pc + 3) L (.int (M p k) :: r) M | none => False) | none => False
    | _ => False)
  | .putfield i => len = 3 ∧ (match st with
    | .int v :: .ref p :: r => match fres oc i with | some (ci, k) => gf ci k p = some none ∧ (pft ci k = 0 ∨ (pft ci k = 1 ∧ (v = 0 ∨ v = 1))) ∧ K (pc + 3) L r (mset M p k v) | none => False
    | _ => False)
  | .getstatic i => len = 3 ∧ (match st with
    | st => i = gsI.2 ∧ oc = gsI.1 ∧ K (pc + 3) L (.ref 90 :: st) M)
  | .iaload => len = 1 ∧ (match st with
    | .int i :: .ref p :: r => if p = 90 then (0 ≤ i.toInt ∧ i.toInt < (7 : Nat)) ∧ K (pc + 1) L (.int (kab.getD i.toNatClampNeg 0) :: r) M else (0 ≤ i.toInt ∧ i.toInt < al p) ∧ K (pc + 1) L (.int (M p i.toNatClampNeg) :: r) M
    | _ => False)
  | .iastore => len = 1 ∧ (match st with
    | .int v :: .int i :: .ref p :: r => (0 ≤ i.toInt ∧ i.toInt < al p) ∧ K (pc + 1) L r (mset M p i.toNatClampNeg v)
    | _ => False)
  | .aaload => len = 1 ∧ (match st with
    | .int i :: .ref p :: r => match ra p with | some (b, n) => (0 ≤ i.toInt ∧ i.toInt < n) ∧ K (pc + 1) L (.ref (b + i.toNatClampNeg) :: r) M | none => False
    | _ => False)
  | .arraylength => len = 1 ∧ (match st with
    | .ref p :: r => if p = 90 then K (pc + 1) L (.int 7 :: r) M else match ra p with | some (b, n) => K (pc + 1) L (.int (Int32.ofNat n) :: r) M | none => 0 < al p ∧ K (pc + 1) L (.int (Int32.ofNat (al p)) :: r) M
    | _ => False)
  | .ireturn => len = 1 ∧ (match st with
    | [.int v] => rOK ret v ∧ post (.int v) M
    | _ => False)
  | .lreturn => len = 1 ∧ (match st with
    | [.long v] => ret = some .long ∧ post (.long v) M
    | _ => False)
  | .return_ => len = 1 ∧ (match st with
    | [] => ret = none ∧ post (.int 0) M
    | _ => False)
  | .tableswitch df lo hi offs => (match st with
    | .int x :: r => (-1000 ≤ lo ∧ hi ≤ 1000 ∧ hi = lo + offs.toList.length - 1) ∧ vtab (fun t => K t L r M) pc df x lo offs.toList
    | _ => False)
  | .invokevirtual i => len = 3 ∧ (match cres oc i with
    | some (j, n, r, md) => 10 ≤ md ∧ (st.drop n).length ≤ 4 ∧ (match (st.take n).reverse with
      | .ref p :: as => as.length + 1 = n ∧ pcl p = md - 10 ∧ cs j (.ref p :: as) M (fun v M' => K (pc + 3) L (if r = 0 then st.drop n else v :: st.drop n) M')
      | _ => False)
    | none => False)
  | .invokestatic i => len = 3 ∧ (match cres oc i with
    | some (j, n, r, md) => if md = 5 then (match st with
        | .int k :: .int dp :: .ref q :: .int sp :: .ref p :: rest => (rest.length ≤ 4 ∧ 0 ≤ sp.toInt ∧ 0 ≤ dp.toInt ∧ 0 ≤ k.toInt ∧ sp.toInt + k.toInt ≤ al p ∧ dp.toInt + k.toInt ≤ al q ∧ 0 < al p ∧ 0 < al q) ∧ K (pc + 3) L rest (mrow M q (va_cpy (M p) (M q) sp.toNatClampNeg dp.toNatClampNeg k.toNatClampNeg))
        | _ => False)
      else if md = 6 then (match st with
        | .int y :: .int x :: rest => rest.length ≤ 4 ∧ K (pc + 3) L (.int (if x < y then y else x) :: rest) M
        | _ => False)
      else if md = 7 then (match st with
        | .int y :: .int x :: rest => rest.length ≤ 4 ∧ K (pc + 3) L (.int (if y < x then y else x) :: rest) M
        | _ => False)
      else if md = 8 then (match st with
        | .int x :: rest => rest.length ≤ 4 ∧ K (pc + 3) L (.int (if 0 ≤ x then x else 0 - x) :: rest) M
        | _ => False)
      else (md = 1 ∨ md = 2) ∧ (st.take n).length = n ∧ (st.drop n).length ≤ 4 ∧ cs j (st.take n).reverse M (fun v M' => K (pc + 3) L (if r = 0 then st.drop n else v :: st.drop n) M')
    | none => False)
  | _ => False
def vstp (oc : Nat) (ret : Option FieldType) (cs : Nat → List Value → Mem → (Value → Mem → Prop) → Prop) (post : Value → Mem → Prop) (K : Nat → List Value → List Value → Mem → Prop) (x : Except DecodeError (Instr × Nat)) (pc : Nat) (L st : List Value) (M : Mem) : Prop := match x with
  | .ok (i, len) => vins oc ret cs post K pc L M i len st
  | .error _ => False
theorem bT_ok {pc : Nat} {off : Int} (h : 0 ≤ (pc : Int) + off) : (pc : Int) + off = (bT pc off : Int) := by
  unfold bT
  rw [Int.toNat_of_nonneg h]
theorem ofInt_toInt {i : Int} (h1 : -1000 ≤ i) (h2 : i ≤ 1000) : (Int32.ofInt i).toInt = i := by
  rw [Int32.toInt_ofInt]
  unfold Int32.size
  exact Int.bmod_eq_of_le (by omega) (by omega)
section Sound
variable {mi : MI} {d : Nat} {post : Value → Mem → Prop} {pc : Nat} {L st : List Value} {M : Mem} {cs : Nat → List Value → Mem → (Value → Mem → Prop) → Prop} {K : Nat → List Value → List Value → Mem → Prop}
theorem vtab_sound {df lo hi : Int} {offs : Array Int} {len : Nat} {x : Int32} (hd : decode mi.2.2.1 pc = .ok (.tableswitch df lo hi offs, len)) (h1 : -1000 ≤ lo) (h2 : hi ≤ 1000) (h3 : hi = lo + offs.toList.length - 1)
    (hK : ∀ pc L st M, K pc L st M → WP mi (d + 1) post pc L st M) : ∀ (os : List Int) (k : Nat), offs.toList.drop k = os → (∀ j : Nat, j < k → j < offs.toList.length → ¬ x.toInt = lo + j) → vtab (fun t => K t L st M) pc df x (lo + k) os → WP mi (d + 1) post pc L (.int x :: st) M := by
  intro os
  induction os with
  | nil =>
    intro k hk hne h
    have hlen := List.drop_eq_nil_iff.mp hk
    refine r_tabOut hd ?_ (bT_ok h.1) (hK _ _ _ _ h.2)
    rcases Int.lt_or_le x.toInt lo with q | q
    · exact Or.inl q
    · right
      rcases Int.lt_or_le hi x.toInt with z | z
      · exact z
      · exfalso
        have := hne (x.toInt - lo).toNat (by omega) (by omega)
        omega
  | cons o os ih =>
    intro k hk hne h
    have hlt : k < offs.toList.length := by
      rcases Nat.lt_or_ge k offs.toList.length with q | q
      · exact q
      · rw [List.drop_eq_nil_iff.mpr q] at hk; cases hk
    have hko : offs.toList[k]? = some o := by
      have : (offs.toList.drop k)[0]? = some o := by rw [hk]; rfl
      rw [List.getElem?_drop] at this
      simpa using this
    unfold vtab at h
    split at h
    · rename_i q
      have hx : x.toInt = lo + k := by rw [q]; exact ofInt_toInt (by omega) (by omega)
      refine r_tabIn hd (by omega) (by omega) (off := o) ?_ (bT_ok h.1) (hK _ _ _ _ h.2)
      rw [show (x.toInt - lo).toNat = k by omega, ← Array.getElem?_toList]
      exact hko
    · rename_i q
      refine ih (k + 1) ?_ ?_ (by rw [show lo + ((k + 1 : Nat) : Int) = lo + k + 1 by omega]; exact h)
      · rw [← List.drop_drop, hk]; rfl
      · intro j hj hjl
        rcases Nat.lt_or_ge j k with z | z
        · exact hne j z hjl
        · have : j = k := by omega
          subst this
          intro w
          apply q
          rw [← w, Int32.ofInt_toInt]
theorem vins_sound (hcs : ∀ j args M k, cs j args M k → CallP d j args M k) (hK : ∀ pc L st M, K pc L st M → WP mi (d + 1) post pc L st M) {i : Instr} {len : Nat} (hd : decode mi.2.2.1 pc = .ok (i, len)) (h : vins mi.1 mi.2.2.2.2 cs post K pc L M i len st) : WP mi (d + 1) post pc L st M := by
  cases i
  case iconst n =>
    obtain ⟨rfl, h⟩ := h
    exact r_iconst hd (hK _ _ _ _ h)
  case bipush n =>
    obtain ⟨rfl, h⟩ := h
    exact r_bipush hd (hK _ _ _ _ h)
  case sipush n =>
    obtain ⟨rfl, h⟩ := h
    exact r_sipush hd (hK _ _ _ _ h)
  case lconst n =>
    obtain ⟨rfl, h⟩ := h
    exact r_lconst hd (hK _ _ _ _ h)
  case iadd =>
    obtain ⟨rfl, h⟩ := h
    split at h
    · exact r_iadd hd (hK _ _ _ _ h)
    · exact h.elim
  case isub =>
    obtain ⟨rfl, h⟩ := h
    split at h
    · exact r_isub hd (hK _ _ _ _ h)
    · exact h.elim
  case imul =>
    obtain ⟨rfl, h⟩ := h
    split at h
    · exact r_imul hd (hK _ _ _ _ h)
    · exact h.elim
  case iand =>
    obtain ⟨rfl, h⟩ := h
    split at h
    · exact r_iand hd (hK _ _ _ _ h)
    · exact h.elim
  case ior =>
    obtain ⟨rfl, h⟩ := h
    split at h
    · exact r_ior hd (hK _ _ _ _ h)
    · exact h.elim
  case ixor =>
    obtain ⟨rfl, h⟩ := h
    split at h
    · exact r_ixor hd (hK _ _ _ _ h)
    · exact h.elim
  case ishl =>
    obtain ⟨rfl, h⟩ := h
    split at h
    · exact r_ishl hd (hK _ _ _ _ h)
    · exact h.elim
  case ishr =>
    obtain ⟨rfl, h⟩ := h
    split at h
    · exact r_ishr hd (hK _ _ _ _ h)
    · exact h.elim
  case iushr =>
    obtain ⟨rfl, h⟩ := h
    split at h
    · exact r_iushr hd (hK _ _ _ _ h)
    · exact h.elim
  case ineg =>
    obtain ⟨rfl, h⟩ := h
    split at h
    · exact r_ineg hd (hK _ _ _ _ h)
    · exact h.elim
  case i2l =>
    obtain ⟨rfl, h⟩ := h
    split at h
    · exact r_i2l hd (hK _ _ _ _ h)
    · exact h.elim
  case i2b =>
    obtain ⟨rfl, h⟩ := h
    split at h
    · exact r_i2b hd (hK _ _ _ _ h)
    · exact h.elim
  case i2s =>
    obtain ⟨rfl, h⟩ := h
    split at h
    · exact r_i2s hd (hK _ _ _ _ h)
    · exact h.elim
  case i2c =>
    obtain ⟨rfl, h⟩ := h
    split at h
    · exact r_i2c hd (hK _ _ _ _ h)
    · exact h.elim
  case ladd =>
    obtain ⟨rfl, h⟩ := h
    split at h
    · exact r_ladd hd (hK _ _ _ _ h)
    · exact h.elim
  case lmul =>
    obtain ⟨rfl, h⟩ := h
    split at h
    · exact r_lmul hd (hK _ _ _ _ h)
    · exact h.elim
  case lcmp =>
    obtain ⟨rfl, h⟩ := h
    split at h
    · exact r_lcmp hd (hK _ _ _ _ h)
    · exact h.elim
  case idiv =>
    obtain ⟨rfl, h⟩ := h
    split at h
    · exact r_idiv hd h.1 (hK _ _ _ _ h.2)
    · exact h.elim
  case irem =>
    obtain ⟨rfl, h⟩ := h
    split at h
    · exact r_irem hd h.1 (hK _ _ _ _ h.2)
    · exact h.elim
  case dup =>
    obtain ⟨rfl, h⟩ := h
    split at h
    · exact r_dup hd h.1 (hK _ _ _ _ h.2)
    · exact h.elim
  case pop =>
    obtain ⟨rfl, h⟩ := h
    split at h
    · exact r_pop hd h.1 (hK _ _ _ _ h.2)
    · exact h.elim
  case dup2 =>
    obtain ⟨rfl, h⟩ := h
    split at h
    · exact r_dup2 hd h.1 h.2.1 (hK _ _ _ _ h.2.2)
    · exact h.elim
  case iload_n q =>
    obtain ⟨rfl, h⟩ := h
    split at h
    · rename_i hx
      exact r_iload_n hd hx (hK _ _ _ _ h)
    · exact h.elim
  case iload q =>
    obtain ⟨rfl, h⟩ := h
    split at h
    · rename_i hx
      exact r_iload hd hx (hK _ _ _ _ h)
    · exact h.elim
  case aload_n q =>
    obtain ⟨rfl, h⟩ := h
    split at h
    · rename_i hx
      exact r_aload_n hd hx (hK _ _ _ _ h)
    · exact h.elim
  case aload q =>
    obtain ⟨rfl, h⟩ := h
    split at h
    · rename_i hx
      exact r_aload hd hx (hK _ _ _ _ h)
    · exact h.elim
  case lload_n q =>
    obtain ⟨rfl, h⟩ := h
    split at h
    · rename_i hx
      exact r_lload_n hd hx (hK _ _ _ _ h)
    · exact h.elim
  case lload q =>
    obtain ⟨rfl, h⟩ := h
    split at h
    · rename_i hx
      exact r_lload hd hx (hK _ _ _ _ h)
    · exact h.elim
  case istore_n q =>
    obtain ⟨rfl, h⟩ := h
    split at h
    · exact r_istore_n hd h.1 h.2.1 (hK _ _ _ _ h.2.2)
    · exact h.elim
  case istore q =>
    obtain ⟨rfl, h⟩ := h
    split at h
    · exact r_istore hd h.1 h.2.1 (hK _ _ _ _ h.2.2)
    · exact h.elim
  case lstore_n q =>
    obtain ⟨rfl, h⟩ := h
    split at h
    · exact r_lstore_n hd h.1 h.2.1 (hK _ _ _ _ h.2.2)
    · exact h.elim
  case lstore q =>
    obtain ⟨rfl, h⟩ := h
    split at h
    · exact r_lstore hd h.1 h.2.1 (hK _ _ _ _ h.2.2)
    · exact h.elim
  case iinc q n =>
    obtain ⟨rfl, h⟩ := h
    split at h
    · rename_i hx
      exact r_iinc hd hx h.1 (hK _ _ _ _ h.2)
    · exact h.elim
  case ifCond cnd off =>
    cases cnd
    case eq =>
      obtain ⟨rfl, h⟩ := h
      split at h
      · refine r_if_eq hd (bT_ok h.1) (fun z => ?_) (fun z => ?_)
        · have h2 := h.2
          rw [if_pos z] at h2
          exact hK _ _ _ _ h2
        · have h2 := h.2
          rw [if_neg z] at h2
          exact hK _ _ _ _ h2
      · exact h.elim
    case ne =>
      obtain ⟨rfl, h⟩ := h
      split at h
      · refine r_if_ne hd (bT_ok h.1) (fun z => ?_) (fun z => ?_)
        · have h2 := h.2
          rw [if_pos z] at h2
          exact hK _ _ _ _ h2
        · have h2 := h.2
          rw [if_neg z] at h2
          exact hK _ _ _ _ h2
      · exact h.elim
    case lt =>
      obtain ⟨rfl, h⟩ := h
      split at h
      · refine r_if_lt hd (bT_ok h.1) (fun z => ?_) (fun z => ?_)
        · have h2 := h.2
          rw [if_pos z] at h2
          exact hK _ _ _ _ h2
        · have h2 := h.2
          rw [if_neg z] at h2
          exact hK _ _ _ _ h2
      · exact h.elim
    case ge =>
      obtain ⟨rfl, h⟩ := h
      split at h
      · refine r_if_ge hd (bT_ok h.1) (fun z => ?_) (fun z => ?_)
        · have h2 := h.2
          rw [if_pos z] at h2
          exact hK _ _ _ _ h2
        · have h2 := h.2
          rw [if_neg z] at h2
          exact hK _ _ _ _ h2
      · exact h.elim
    case gt =>
      obtain ⟨rfl, h⟩ := h
      split at h
      · refine r_if_gt hd (bT_ok h.1) (fun z => ?_) (fun z => ?_)
        · have h2 := h.2
          rw [if_pos z] at h2
          exact hK _ _ _ _ h2
        · have h2 := h.2
          rw [if_neg z] at h2
          exact hK _ _ _ _ h2
      · exact h.elim
    case le =>
      obtain ⟨rfl, h⟩ := h
      split at h
      · refine r_if_le hd (bT_ok h.1) (fun z => ?_) (fun z => ?_)
        · have h2 := h.2
          rw [if_pos z] at h2
          exact hK _ _ _ _ h2
        · have h2 := h.2
          rw [if_neg z] at h2
          exact hK _ _ _ _ h2
      · exact h.elim
  case if_icmp cnd off =>
    cases cnd
    case eq =>
      obtain ⟨rfl, h⟩ := h
      split at h
      · refine r_ic_eq hd (bT_ok h.1) (fun z => ?_) (fun z => ?_)
        · have h2 := h.2
          rw [if_pos z] at h2
          exact hK _ _ _ _ h2
        · have h2 := h.2
          rw [if_neg z] at h2
          exact hK _ _ _ _ h2
      · exact h.elim
    case ne =>
      obtain ⟨rfl, h⟩ := h
      split at h
      · refine r_ic_ne hd (bT_ok h.1) (fun z => ?_) (fun z => ?_)
        · have h2 := h.2
          rw [if_pos z] at h2
          exact hK _ _ _ _ h2
        · have h2 := h.2
          rw [if_neg z] at h2
          exact hK _ _ _ _ h2
      · exact h.elim
    case lt =>
      obtain ⟨rfl, h⟩ := h
      split at h
      · refine r_ic_lt hd (bT_ok h.1) (fun z => ?_) (fun z => ?_)
        · have h2 := h.2
          rw [if_pos z] at h2
          exact hK _ _ _ _ h2
        · have h2 := h.2
          rw [if_neg z] at h2
          exact hK _ _ _ _ h2
      · exact h.elim
    case ge =>
      obtain ⟨rfl, h⟩ := h
      split at h
      · refine r_ic_ge hd (bT_ok h.1) (fun z => ?_) (fun z => ?_)
        · have h2 := h.2
          rw [if_pos z] at h2
          exact hK _ _ _ _ h2
        · have h2 := h.2
          rw [if_neg z] at h2
          exact hK _ _ _ _ h2
      · exact h.elim
    case gt =>
      obtain ⟨rfl, h⟩ := h
      split at h
      · refine r_ic_gt hd (bT_ok h.1) (fun z => ?_) (fun z => ?_)
        · have h2 := h.2
          rw [if_pos z] at h2
          exact hK _ _ _ _ h2
        · have h2 := h.2
          rw [if_neg z] at h2
          exact hK _ _ _ _ h2
      · exact h.elim
    case le =>
      obtain ⟨rfl, h⟩ := h
      split at h
      · refine r_ic_le hd (bT_ok h.1) (fun z => ?_) (fun z => ?_)
        · have h2 := h.2
          rw [if_pos z] at h2
          exact hK _ _ _ _ h2
        · have h2 := h.2
          rw [if_neg z] at h2
          exact hK _ _ _ _ h2
      · exact h.elim
  case goto off =>
    obtain ⟨rfl, h⟩ := h
    exact r_goto hd (bT_ok h.1) (hK _ _ _ _ h.2)
  case ldc i =>
    obtain ⟨rfl, h⟩ := h
    split at h
    · rename_i hv
      exact r_ldc hd hv (hK _ _ _ _ h)
    · split at h
      · rename_i hv
        exact r_ldcS hd hv (hK _ _ _ _ h)
      · exact h.elim
  case ldc_w i =>
    obtain ⟨rfl, h⟩ := h
    split at h
    · rename_i hv
      exact r_ldcw hd hv (hK _ _ _ _ h)
    · exact h.elim
  case getfield i =>
    obtain ⟨rfl, h⟩ := h
    split at h
    · split at h
      · rename_i hf
        split at h
        · rename_i hg
          exact r_getfield hd hf hg (hK _ _ _ _ h)
        · rename_i hg
          exact r_getfield hd hf hg (hK _ _ _ _ h)
        · exact h.elim
      · exact h.elim
    · exact h.elim
  case putfield i =>
    obtain ⟨rfl, h⟩ := h
    split at h
    · split at h
      · rename_i hf
        exact r_putfield hd hf h.1 h.2.1 (hK _ _ _ _ h.2.2)
      · exact h.elim
    · exact h.elim
  case getstatic i =>
    obtain ⟨rfl, rfl, h1, h⟩ := h
    exact r_getstatic hd h1 (hK _ _ _ _ h)
  case iaload =>
    obtain ⟨rfl, h⟩ := h
    split at h
    · split at h
      · rename_i hp
        subst hp
        exact r_ialoadK hd h.1 (hK _ _ _ _ h.2)
      · exact r_iaload hd h.1 (hK _ _ _ _ h.2)
    · exact h.elim
  case iastore =>
    obtain ⟨rfl, h⟩ := h
    split at h
    · exact r_iastore hd h.1 (hK _ _ _ _ h.2)
    · exact h.elim
  case aaload =>
    obtain ⟨rfl, h⟩ := h
    split at h
    · split at h
      · rename_i hr
        exact r_aaload hd hr h.1 (hK _ _ _ _ h.2)
      · exact h.elim
    · exact h.elim
  case arraylength =>
    obtain ⟨rfl, h⟩ := h
    split at h
    · split at h
      · rename_i hp
        subst hp
        exact r_alenK hd (hK _ _ _ _ h)
      · split at h
        · rename_i hr
          exact r_alenR hd hr (hK _ _ _ _ h)
        · exact r_alen hd h.1 (hK _ _ _ _ h.2)
    · exact h.elim
  case ireturn =>
    obtain ⟨rfl, h⟩ := h
    split at h
    · obtain ⟨ty, e1, e2, e3⟩ := rOK_ok h.1
      exact r_ireturn hd e1 e2 e3 h.2
    · exact h.elim
  case lreturn =>
    obtain ⟨rfl, h⟩ := h
    split at h
    · exact r_lreturn hd h.1 h.2
    · exact h.elim
  case return_ =>
    obtain ⟨rfl, h⟩ := h
    split at h
    · exact r_return hd h.1 h.2
    · exact h.elim
  case tableswitch df lo hi offs =>
    dsimp only [vins] at h
    split at h
    · obtain ⟨⟨h1, h2, h3⟩, h⟩ := h
      refine vtab_sound hd h1 h2 h3 hK offs.toList 0 rfl (fun j hj => by omega) ?_
      rw [show lo + ((0 : Nat) : Int) = lo by omega]
      exact h
    · exact h.elim
  case invokevirtual i =>
    obtain ⟨rfl, h⟩ := h
    split at h
    · rename_i j n r md hc
      obtain ⟨h10, h4, h⟩ := h
      split at h
      · rename_i p as hst
        obtain ⟨hn, hp, h⟩ := h
        have e1 : st = as.reverse ++ .ref p :: st.drop n := by
          have h5 := List.take_append_drop n st
          have h6 : st.take n = as.reverse ++ [.ref p] := by
            have := congrArg List.reverse hst
            rw [List.reverse_reverse, List.reverse_cons] at this
            exact this
          rw [h6, List.append_assoc] at h5
          exact h5.symm
        have hc2 : cres mi.1 i = some (j, n, r, 10 + (md - 10)) := by
          rw [hc, show 10 + (md - 10) = md by omega]
        have := r_virtual (rest := st.drop n) hd hc2 hn hp h4 (CallP.mono (hcs _ _ _ _ h) (fun v M' q => hK _ _ _ _ q))
        rw [← e1] at this
        exact this
      · exact h.elim
    · exact h.elim
  case invokestatic i =>
    obtain ⟨rfl, h⟩ := h
    split at h
    · rename_i j n r md hc
      split at h
      · rename_i hmd
        subst hmd
        split at h
        · obtain ⟨⟨a1, a2, a3, a4, a5, a6, a7, a8⟩, h⟩ := h
          exact r_copy hd hc a1 a2 a3 a4 a5 a6 a7 a8 (hK _ _ _ _ h)
        · exact h.elim
      split at h
      · rename_i hmd
        subst hmd
        split at h
        · exact r_mmax hd hc h.1 (hK _ _ _ _ h.2)
        · exact h.elim
      split at h
      · rename_i hmd
        subst hmd
        split at h
        · exact r_mmin hd hc h.1 (hK _ _ _ _ h.2)
        · exact h.elim
      split at h
      · rename_i hmd
        subst hmd
        split at h
        · exact r_mabs hd hc h.1 (hK _ _ _ _ h.2)
        · exact h.elim
      · obtain ⟨h1, h2, h4, h⟩ := h
        have e1 : st = (st.take n).reverse.reverse ++ st.drop n := by rw [List.reverse_reverse, List.take_append_drop]
        have := r_static (rest := st.drop n) hd hc h1 (by rw [List.length_reverse]; exact h2) h4 (CallP.mono (hcs _ _ _ _ h) (fun v M' q => hK _ _ _ _ q))
        rw [← e1] at this
        exact this
    · exact h.elim
  all_goals exact h.elim
theorem vstp_sound (hcs : ∀ j args M k, cs j args M k → CallP d j args M k) (hK : ∀ pc L st M, K pc L st M → WP mi (d + 1) post pc L st M) (h : vstp mi.1 mi.2.2.2.2 cs post K (decode mi.2.2.1 pc) pc L st M) : WP mi (d + 1) post pc L st M := by
  unfold vstp at h
  split at h
  · rename_i hd
    exact vins_sound hcs hK hd h
  · exact h.elim
end Sound
/-! MANY STEPS -/
def vc (oc : Nat) (cc : ByteArray) (ret : Option FieldType) (cs : Nat → List Value → Mem → (Value → Mem → Prop) → Prop) (post : Value → Mem → Prop) (cuts : List Nat) (P : Nat → List Value → List Value → Mem → Prop) : Nat → Nat → List Value → List Value → Mem → Prop
  | 0, pc, L, st, M => P pc L st M
  | n + 1, pc, L, st, M => if pc ∈ cuts then P pc L st M else vstp oc ret cs post (vc oc cc ret cs post cuts P n) (decode cc pc) pc L st M
theorem vc_sound {mi : MI} {d : Nat} {post : Value → Mem → Prop} {cs : Nat → List Value → Mem → (Value → Mem → Prop) → Prop} {cuts : List Nat} {P : Nat → List Value → List Value → Mem → Prop} (hcs : ∀ j args M k, cs j args M k → CallP d j args M k) (hP : ∀ pc L st M, P pc L st M → WP mi (d + 1) post pc L st M) :
    ∀ (n pc : Nat) (L st : List Value) (M : Mem), vc mi.1 mi.2.2.1 mi.2.2.2.2 cs post cuts P n pc L st M → WP mi (d + 1) post pc L st M := by
  intro n
  induction n with
  | zero => intro pc L st M h; exact hP _ _ _ _ h
  | succ n ih =>
    intro pc L st M h
    unfold vc at h
    split at h
    · exact hP _ _ _ _ h
    · exact vstp_sound hcs ih h
/-! SUMMARIES: what suffices for a call, as a function of arguments, memory and what shall hold behind it -/
abbrev PF : Type := List Value → Mem → (Value → Mem → Prop) → Prop
def Snd (d j : Nat) (f : PF) : Prop := ∀ args M k, f args M k → CallP d j args M k
def csT (d : Nat) (T : List (Nat × PF)) (j : Nat) (args : List Value) (M : Mem) (k : Value → Mem → Prop) : Prop := match T.lookup j with
  | some f => f args M k
  | none => CallP d j args M k
theorem csT_sound {d : Nat} {T : List (Nat × PF)} (hT : ∀ e ∈ T, Snd d e.1 e.2) : ∀ j args M k, csT d T j args M k → CallP d j args M k := by
  intro j args M k h
  unfold csT at h
  split at h
  · rename_i f hf
    obtain ⟨n, hn⟩ := lk_mem hf
    exact hT _ (List.mem_of_getElem? hn) args M k h
  · exact h
end
section
/-! ROWS FOR simp: one an instruction -/
section Eqs
variable {oc : Nat} {cc : ByteArray} {ret : Option FieldType} {cs : Nat → List Value → Mem → (Value → Mem → Prop) → Prop} {post : Value → Mem → Prop} {K : Nat → List Value → List Value → Mem → Prop} {pc : Nat} {L st r : List Value} {M : Mem} {cuts : List Nat} {P : Nat → List Value → List Value → Mem → Prop}
theorem vc_0 {L st : List Value} : vc oc cc ret cs post cuts P 0 pc L st M = P pc L st M := rfl
theorem vc_s {n : Nat} {L st : List Value} : vc oc cc ret cs post cuts P (n + 1) pc L st M = if pc ∈ cuts then P pc L st M else vstp oc ret cs post (vc oc cc ret cs post cuts P n) (decode cc pc) pc L st M := rfl
theorem v_iconst_m1 : vstp oc ret cs post K (.ok (.iconst (-1), 1)) pc (L) (st) M = (K (pc + 1) L (.int (-1) :: st) M) := propext ⟨fun h => h.2, fun h => ⟨rfl, h⟩⟩
theorem v_iconst_0 : vstp oc ret cs post K (.ok (.iconst 0, 1)) pc (L) (st) M = (K (pc + 1) L (.int 0 :: st) M) := propext ⟨fun h => h.2, fun h => ⟨rfl, h⟩⟩
theorem v_iconst_1 : vstp oc ret cs post K (.ok (.iconst 1, 1)) pc (L) (st) M = (K (pc + 1) L (.int 1 :: st) M) := propext ⟨fun h => h.2, fun h => ⟨rfl, h⟩⟩
theorem v_iconst_2 : vstp oc ret cs post K (.ok (.iconst 2, 1)) pc (L) (st) M = (K (pc + 1) L (.int 2 :: st) M) := propext ⟨fun h => h.2, fun h => ⟨rfl, h⟩⟩
theorem v_iconst_3 : vstp oc ret cs post K (.ok (.iconst 3, 1)) pc (L) (st) M = (K (pc + 1) L (.int 3 :: st) M) := propext ⟨fun h => h.2, fun h => ⟨rfl, h⟩⟩
theorem v_iconst_4 : vstp oc ret cs post K (.ok (.iconst 4, 1)) pc (L) (st) M = (K (pc + 1) L (.int 4 :: st) M) := propext ⟨fun h => h.2, fun h => ⟨rfl, h⟩⟩
theorem v_iconst_5 : vstp oc ret cs post K (.ok (.iconst 5, 1)) pc (L) (st) M = (K (pc + 1) L (.int 5 :: st) M) := propext ⟨fun h => h.2, fun h => ⟨rfl, h⟩⟩
theorem v_bipush_m5 : vstp oc ret cs post K (.ok (.bipush (-5), 2)) pc (L) (st) M = (K (pc + 2) L (.int (-5) :: st) M) := propext ⟨fun h => h.2, fun h => ⟨rfl, h⟩⟩
theorem v_bipush_6 : vstp oc ret cs post K (.ok (.bipush 6, 2)) pc (L) (st) M = (K (pc + 2) L (.int 6 :: st) M) := propext ⟨fun h => h.2, fun h => ⟨rfl, h⟩⟩
theorem v_bipush_7 : vstp oc ret cs post K (.ok (.bipush 7, 2)) pc (L) (st) M = (K (pc + 2) L (.int 7 :: st) M) := propext ⟨fun h => h.2, fun h => ⟨rfl, h⟩⟩
theorem v_bipush_8 : vstp oc ret cs post K (.ok (.bipush 8, 2)) pc (L) (st) M = (K (pc + 2) L (.int 8 :: st) M) := propext ⟨fun h => h.2, fun h => ⟨rfl, h⟩⟩
theorem v_bipush_9 : vstp oc ret cs post K (.ok (.bipush 9, 2)) pc (L) (st) M = (K (pc + 2) L (.int 9 :: st) M) := propext ⟨fun h => h.2, fun h => ⟨rfl, h⟩⟩
theorem v_bipush_10 : vstp oc ret cs post K (.ok (.bipush 10, 2)) pc (L) (st) M = (K (pc + 2) L (.int 10 :: st) M) := propext ⟨fun h => h.2, fun h => ⟨rfl, h⟩⟩
theorem v_bipush_11 : vstp oc ret cs post K (.ok (.bipush 11, 2)) pc (L) (st) M = (K (pc + 2) L (.int 11 :: st) M) := propext ⟨fun h => h.2, fun h => ⟨rfl, h⟩⟩
theorem v_bipush_12 : vstp oc ret cs post K (.ok (.bipush 12, 2)) pc (L) (st) M = (K (pc + 2) L (.int 12 :: st) M) := propext ⟨fun h => h.2, fun h => ⟨rfl, h⟩⟩
theorem v_bipush_13 : vstp oc ret cs post K (.ok (.bipush 13, 2)) pc (L) (st) M = (K (pc + 2) L (.int 13 :: st) M) := propext ⟨fun h => h.2, fun h => ⟨rfl, h⟩⟩
theorem v_bipush_14 : vstp oc ret cs post K (.ok (.bipush 14, 2)) pc (L) (st) M = (K (pc + 2) L (.int 14 :: st) M) := propext ⟨fun h => h.2, fun h => ⟨rfl, h⟩⟩
theorem v_bipush_16 : vstp oc ret cs post K (.ok (.bipush 16, 2)) pc (L) (st) M = (K (pc + 2) L (.int 16 :: st) M) := propext ⟨fun h => h.2, fun h => ⟨rfl, h⟩⟩
theorem v_bipush_20 : vstp oc ret cs post K (.ok (.bipush 20, 2)) pc (L) (st) M = (K (pc + 2) L (.int 20 :: st) M) := propext ⟨fun h => h.2, fun h => ⟨rfl, h⟩⟩
theorem v_bipush_26 : vstp oc ret cs post K (.ok (.bipush 26, 2)) pc (L) (st) M = (K (pc + 2) L (.int 26 :: st) M) := propext ⟨fun h => h.2, fun h => ⟨rfl, h⟩⟩
theorem v_bipush_30 : vstp oc ret cs post K (.ok (.bipush 30, 2)) pc (L) (st) M = (K (pc + 2) L (.int 30 :: st) M) := propext ⟨fun h => h.2, fun h => ⟨rfl, h⟩⟩
theorem v_bipush_32 : vstp oc ret cs post K (.ok (.bipush 32, 2)) pc (L) (st) M = (K (pc + 2) L (.int 32 :: st) M) := propext ⟨fun h => h.2, fun h => ⟨rfl, h⟩⟩
theorem v_bipush_40 : vstp oc ret cs post K (.ok (.bipush 40, 2)) pc (L) (st) M = (K (pc + 2) L (.int 40 :: st) M) := propext ⟨fun h => h.2, fun h => ⟨rfl, h⟩⟩
theorem v_bipush_48 : vstp oc ret cs post K (.ok (.bipush 48, 2)) pc (L) (st) M = (K (pc + 2) L (.int 48 :: st) M) := propext ⟨fun h => h.2, fun h => ⟨rfl, h⟩⟩
theorem v_bipush_50 : vstp oc ret cs post K (.ok (.bipush 50, 2)) pc (L) (st) M = (K (pc + 2) L (.int 50 :: st) M) := propext ⟨fun h => h.2, fun h => ⟨rfl, h⟩⟩
theorem v_bipush_57 : vstp oc ret cs post K (.ok (.bipush 57, 2)) pc (L) (st) M = (K (pc + 2) L (.int 57 :: st) M) := propext ⟨fun h => h.2, fun h => ⟨rfl, h⟩⟩
theorem v_bipush_59 : vstp oc ret cs post K (.ok (.bipush 59, 2)) pc (L) (st) M = (K (pc + 2) L (.int 59 :: st) M) := propext ⟨fun h => h.2, fun h => ⟨rfl, h⟩⟩
theorem v_bipush_60 : vstp oc ret cs post K (.ok (.bipush 60, 2)) pc (L) (st) M = (K (pc + 2) L (.int 60 :: st) M) := propext ⟨fun h => h.2, fun h => ⟨rfl, h⟩⟩
theorem v_bipush_63 : vstp oc ret cs post K (.ok (.bipush 63, 2)) pc (L) (st) M = (K (pc + 2) L (.int 63 :: st) M) := propext ⟨fun h => h.2, fun h => ⟨rfl, h⟩⟩
theorem v_bipush_97 : vstp oc ret cs post K (.ok (.bipush 97, 2)) pc (L) (st) M = (K (pc + 2) L (.int 97 :: st) M) := propext ⟨fun h => h.2, fun h => ⟨rfl, h⟩⟩
theorem v_bipush_99 : vstp oc ret cs post K (.ok (.bipush 99, 2)) pc (L) (st) M = (K (pc + 2) L (.int 99 :: st) M) := propext ⟨fun h => h.2, fun h => ⟨rfl, h⟩⟩
theorem v_bipush_100 : vstp oc ret cs post K (.ok (.bipush 100, 2)) pc (L) (st) M = (K (pc + 2) L (.int 100 :: st) M) := propext ⟨fun h => h.2, fun h => ⟨rfl, h⟩⟩
theorem v_bipush_120 : vstp oc ret cs post K (.ok (.bipush 120, 2)) pc (L) (st) M = (K (pc + 2) L (.int 120 :: st) M) := propext ⟨fun h => h.2, fun h => ⟨rfl, h⟩⟩
theorem v_bipush_121 : vstp oc ret cs post K (.ok (.bipush 121, 2)) pc (L) (st) M = (K (pc + 2) L (.int 121 :: st) M) := propext ⟨fun h => h.2, fun h => ⟨rfl, h⟩⟩
theorem v_bipush_122 : vstp oc ret cs post K (.ok (.bipush 122, 2)) pc (L) (st) M = (K (pc + 2) L (.int 122 :: st) M) := propext ⟨fun h => h.2, fun h => ⟨rfl, h⟩⟩
theorem v_sipush_160 : vstp oc ret cs post K (.ok (.sipush 160, 3)) pc (L) (st) M = (K (pc + 3) L (.int 160 :: st) M) := propext ⟨fun h => h.2, fun h => ⟨rfl, h⟩⟩
theorem v_sipush_255 : vstp oc ret cs post K (.ok (.sipush 255, 3)) pc (L) (st) M = (K (pc + 3) L (.int 255 :: st) M) := propext ⟨fun h => h.2, fun h => ⟨rfl, h⟩⟩
theorem v_sipush_350 : vstp oc ret cs post K (.ok (.sipush 350, 3)) pc (L) (st) M = (K (pc + 3) L (.int 350 :: st) M) := propext ⟨fun h => h.2, fun h => ⟨rfl, h⟩⟩
theorem v_sipush_360 : vstp oc ret cs post K (.ok (.sipush 360, 3)) pc (L) (st) M = (K (pc + 3) L (.int 360 :: st) M) := propext ⟨fun h => h.2, fun h => ⟨rfl, h⟩⟩
theorem v_sipush_1000 : vstp oc ret cs post K (.ok (.sipush 1000, 3)) pc (L) (st) M = (K (pc + 3) L (.int 1000 :: st) M) := propext ⟨fun h => h.2, fun h => ⟨rfl, h⟩⟩
theorem v_sipush_4096 : vstp oc ret cs post K (.ok (.sipush 4096, 3)) pc (L) (st) M = (K (pc + 3) L (.int 4096 :: st) M) := propext ⟨fun h => h.2, fun h => ⟨rfl, h⟩⟩
theorem v_sipush_9999 : vstp oc ret cs post K (.ok (.sipush 9999, 3)) pc (L) (st) M = (K (pc + 3) L (.int 9999 :: st) M) := propext ⟨fun h => h.2, fun h => ⟨rfl, h⟩⟩
theorem v_sipush_12345 : vstp oc ret cs post K (.ok (.sipush 12345, 3)) pc (L) (st) M = (K (pc + 3) L (.int 12345 :: st) M) := propext ⟨fun h => h.2, fun h => ⟨rfl, h⟩⟩
theorem v_lconst_0 : vstp oc ret cs post K (.ok (.lconst 0, 1)) pc (L) (st) M = (K (pc + 1) L (.long 0 :: st) M) := propext ⟨fun h => h.2, fun h => ⟨rfl, h⟩⟩
theorem v_lconst_1 : vstp oc ret cs post K (.ok (.lconst 1, 1)) pc (L) (st) M = (K (pc + 1) L (.long 1 :: st) M) := propext ⟨fun h => h.2, fun h => ⟨rfl, h⟩⟩
theorem v_iadd {a b : Int32} : vstp oc ret cs post K (.ok (.iadd, 1)) pc (L) (.int b :: .int a :: r) M = (K (pc + 1) L (.int (a + b) :: r) M) := propext ⟨fun h => h.2, fun h => ⟨rfl, h⟩⟩
theorem v_isub {a b : Int32} : vstp oc ret cs post K (.ok (.isub, 1)) pc (L) (.int b :: .int a :: r) M = (K (pc + 1) L (.int (a - b) :: r) M) := propext ⟨fun h => h.2, fun h => ⟨rfl, h⟩⟩
theorem v_imul {a b : Int32} : vstp oc ret cs post K (.ok (.imul, 1)) pc (L) (.int b :: .int a :: r) M = (K (pc + 1) L (.int (a * b) :: r) M) := propext ⟨fun h => h.2, fun h => ⟨rfl, h⟩⟩
theorem v_iand {a b : Int32} : vstp oc ret cs post K (.ok (.iand, 1)) pc (L) (.int b :: .int a :: r) M = (K (pc + 1) L (.int (a &&& b) :: r) M) := propext ⟨fun h => h.2, fun h => ⟨rfl, h⟩⟩
theorem v_ior {a b : Int32} : vstp oc ret cs post K (.ok (.ior, 1)) pc (L) (.int b :: .int a :: r) M = (K (pc + 1) L (.int (a ||| b) :: r) M) := propext ⟨fun h => h.2, fun h => ⟨rfl, h⟩⟩
theorem v_ixor {a b : Int32} : vstp oc ret cs post K (.ok (.ixor, 1)) pc (L) (.int b :: .int a :: r) M = (K (pc + 1) L (.int (a ^^^ b) :: r) M) := propext ⟨fun h => h.2, fun h => ⟨rfl, h⟩⟩
theorem v_ishl {a b : Int32} : vstp oc ret cs post K (.ok (.ishl, 1)) pc (L) (.int b :: .int a :: r) M = (K (pc + 1) L (.int (a <<< (b &&& 31)) :: r) M) := propext ⟨fun h => h.2, fun h => ⟨rfl, h⟩⟩
theorem v_ishr {a b : Int32} : vstp oc ret cs post K (.ok (.ishr, 1)) pc (L) (.int b :: .int a :: r) M = (K (pc + 1) L (.int (a >>> (b &&& 31)) :: r) M) := propext ⟨fun h => h.2, fun h => ⟨rfl, h⟩⟩
theorem v_iushr {a b : Int32} : vstp oc ret cs post K (.ok (.iushr, 1)) pc (L) (.int b :: .int a :: r) M = (K (pc + 1) L (.int ((a.toUInt32 >>> (b.toUInt32 &&& Int32.toUInt32 31)).toInt32) :: r) M) := propext ⟨fun h => h.2, fun h => ⟨rfl, h⟩⟩
theorem v_idiv {a b : Int32} : vstp oc ret cs post K (.ok (.idiv, 1)) pc (L) (.int b :: .int a :: r) M = (¬ b = 0 ∧ K (pc + 1) L (.int (a / b) :: r) M) := propext ⟨fun h => h.2, fun h => ⟨rfl, h⟩⟩
theorem v_irem {a b : Int32} : vstp oc ret cs post K (.ok (.irem, 1)) pc (L) (.int b :: .int a :: r) M = (¬ b = 0 ∧ K (pc + 1) L (.int (a - a / b * b) :: r) M) := propext ⟨fun h => h.2, fun h => ⟨rfl, h⟩⟩
theorem v_ineg {a : Int32} : vstp oc ret cs post K (.ok (.ineg, 1)) pc (L) (.int a :: r) M = (K (pc + 1) L (.int (-a) :: r) M) := propext ⟨fun h => h.2, fun h => ⟨rfl, h⟩⟩
theorem v_i2l {a : Int32} : vstp oc ret cs post K (.ok (.i2l, 1)) pc (L) (.int a :: r) M = (K (pc + 1) L (.long a.toInt64 :: r) M) := propext ⟨fun h => h.2, fun h => ⟨rfl, h⟩⟩
theorem v_i2b {a : Int32} : vstp oc ret cs post K (.ok (.i2b, 1)) pc (L) (.int a :: r) M = (K (pc + 1) L (.int a.toInt8.toInt32 :: r) M) := propext ⟨fun h => h.2, fun h => ⟨rfl, h⟩⟩
theorem v_i2s {a : Int32} : vstp oc ret cs post K (.ok (.i2s, 1)) pc (L) (.int a :: r) M = (K (pc + 1) L (.int a.toInt16.toInt32 :: r) M) := propext ⟨fun h => h.2, fun h => ⟨rfl, h⟩⟩
theorem v_i2c {a : Int32} : vstp oc ret cs post K (.ok (.i2c, 1)) pc (L) (.int a :: r) M = (K (pc + 1) L (.int (a.toUInt32 % 65536).toInt32 :: r) M) := propext ⟨fun h => h.2, fun h => ⟨rfl, h⟩⟩
theorem v_ladd {a b : Int64} : vstp oc ret cs post K (.ok (.ladd, 1)) pc (L) (.long b :: .long a :: r) M = (K (pc + 1) L (.long (a + b) :: r) M) := propext ⟨fun h => h.2, fun h => ⟨rfl, h⟩⟩
theorem v_lmul {a b : Int64} : vstp oc ret cs post K (.ok (.lmul, 1)) pc (L) (.long b :: .long a :: r) M = (K (pc + 1) L (.long (a * b) :: r) M) := propext ⟨fun h => h.2, fun h => ⟨rfl, h⟩⟩
theorem v_lcmp {a b : Int64} : vstp oc ret cs post K (.ok (.lcmp, 1)) pc (L) (.long b :: .long a :: r) M = (K (pc + 1) L (.int (lg_cmp a b) :: r) M) := propext ⟨fun h => h.2, fun h => ⟨rfl, h⟩⟩
theorem v_dup {v : Value} : vstp oc ret cs post K (.ok (.dup, 1)) pc (L) (v :: r) M = (v.category = 1 ∧ K (pc + 1) L (v :: v :: r) M) := propext ⟨fun h => h.2, fun h => ⟨rfl, h⟩⟩
theorem v_dup2 {v w : Value} : vstp oc ret cs post K (.ok (.dup2, 1)) pc (L) (v :: w :: r) M = (v.category = 1 ∧ w.category = 1 ∧ K (pc + 1) L (v :: w :: v :: w :: r) M) := propext ⟨fun h => h.2, fun h => ⟨rfl, h⟩⟩
theorem v_pop {v : Value} : vstp oc ret cs post K (.ok (.pop, 1)) pc (L) (v :: r) M = (v.category = 1 ∧ K (pc + 1) L r M) := propext ⟨fun h => h.2, fun h => ⟨rfl, h⟩⟩
theorem v_iload_0 {x : Int32} : vstp oc ret cs post K (.ok (.iload_n 0, 1)) pc (.int x :: L) (st) M = (K (pc + 1) (.int x :: L) (.int x :: st) M) := propext ⟨fun h => h.2, fun h => ⟨rfl, h⟩⟩
theorem v_aload_0 {x : Nat} : vstp oc ret cs post K (.ok (.aload_n 0, 1)) pc (.ref x :: L) (st) M = (K (pc + 1) (.ref x :: L) (.ref x :: st) M) := propext ⟨fun h => h.2, fun h => ⟨rfl, h⟩⟩
theorem v_lload_0 {x : Int64} : vstp oc ret cs post K (.ok (.lload_n 0, 1)) pc (.long x :: L) (st) M = (K (pc + 1) (.long x :: L) (.long x :: st) M) := propext ⟨fun h => h.2, fun h => ⟨rfl, h⟩⟩
theorem v_iload_1 {a0 : Value} {x : Int32} : vstp oc ret cs post K (.ok (.iload_n 1, 1)) pc (a0 :: .int x :: L) (st) M = (K (pc + 1) (a0 :: .int x :: L) (.int x :: st) M) := propext ⟨fun h => h.2, fun h => ⟨rfl, h⟩⟩
theorem v_aload_1 {a0 : Value} {x : Nat} : vstp oc ret cs post K (.ok (.aload_n 1, 1)) pc (a0 :: .ref x :: L) (st) M = (K (pc + 1) (a0 :: .ref x :: L) (.ref x :: st) M) := propext ⟨fun h => h.2, fun h => ⟨rfl, h⟩⟩
theorem v_lload_1 {a0 : Value} {x : Int64} : vstp oc ret cs post K (.ok (.lload_n 1, 1)) pc (a0 :: .long x :: L) (st) M = (K (pc + 1) (a0 :: .long x :: L) (.long x :: st) M) := propext ⟨fun h => h.2, fun h => ⟨rfl, h⟩⟩
theorem v_iload_2 {a0 a1 : Value} {x : Int32} : vstp oc ret cs post K (.ok (.iload_n 2, 1)) pc (a0 :: a1 :: .int x :: L) (st) M = (K (pc + 1) (a0 :: a1 :: .int x :: L) (.int x :: st) M) := propext ⟨fun h => h.2, fun h => ⟨rfl, h⟩⟩
theorem v_aload_2 {a0 a1 : Value} {x : Nat} : vstp oc ret cs post K (.ok (.aload_n 2, 1)) pc (a0 :: a1 :: .ref x :: L) (st) M = (K (pc + 1) (a0 :: a1 :: .ref x :: L) (.ref x :: st) M) := propext ⟨fun h => h.2, fun h => ⟨rfl, h⟩⟩
theorem v_lload_2 {a0 a1 : Value} {x : Int64} : vstp oc ret cs post K (.ok (.lload_n 2, 1)) pc (a0 :: a1 :: .long x :: L) (st) M = (K (pc + 1) (a0 :: a1 :: .long x :: L) (.long x :: st) M) := propext ⟨fun h => h.2, fun h => ⟨rfl, h⟩⟩
theorem v_iload_3 {a0 a1 a2 : Value} {x : Int32} : vstp oc ret cs post K (.ok (.iload_n 3, 1)) pc (a0 :: a1 :: a2 :: .int x :: L) (st) M = (K (pc + 1) (a0 :: a1 :: a2 :: .int x :: L) (.int x :: st) M) := propext ⟨fun h => h.2, fun h => ⟨rfl, h⟩⟩
theorem v_aload_3 {a0 a1 a2 : Value} {x : Nat} : vstp oc ret cs post K (.ok (.aload_n 3, 1)) pc (a0 :: a1 :: a2 :: .ref x :: L) (st) M = (K (pc + 1) (a0 :: a1 :: a2 :: .ref x :: L) (.ref x :: st) M) := propext ⟨fun h => h.2, fun h => ⟨rfl, h⟩⟩
theorem v_lload_3 {a0 a1 a2 : Value} {x : Int64} : vstp oc ret cs post K (.ok (.lload_n 3, 1)) pc (a0 :: a1 :: a2 :: .long x :: L) (st) M = (K (pc + 1) (a0 :: a1 :: a2 :: .long x :: L) (.long x :: st) M) := propext ⟨fun h => h.2, fun h => ⟨rfl, h⟩⟩
theorem v_iload_4 {a0 a1 a2 a3 : Value} {x : Int32} : vstp oc ret cs post K (.ok (.iload 4, 2)) pc (a0 :: a1 :: a2 :: a3 :: .int x :: L) (st) M = (K (pc + 2) (a0 :: a1 :: a2 :: a3 :: .int x :: L) (.int x :: st) M) := propext ⟨fun h => h.2, fun h => ⟨rfl, h⟩⟩
theorem v_aload_4 {a0 a1 a2 a3 : Value} {x : Nat} : vstp oc ret cs post K (.ok (.aload 4, 2)) pc (a0 :: a1 :: a2 :: a3 :: .ref x :: L) (st) M = (K (pc + 2) (a0 :: a1 :: a2 :: a3 :: .ref x :: L) (.ref x :: st) M) := propext ⟨fun h => h.2, fun h => ⟨rfl, h⟩⟩
theorem v_lload_4 {a0 a1 a2 a3 : Value} {x : Int64} : vstp oc ret cs post K (.ok (.lload 4, 2)) pc (a0 :: a1 :: a2 :: a3 :: .long x :: L) (st) M = (K (pc + 2) (a0 :: a1 :: a2 :: a3 :: .long x :: L) (.long x :: st) M) := propext ⟨fun h => h.2, fun h => ⟨rfl, h⟩⟩
theorem v_iload_5 {a0 a1 a2 a3 a4 : Value} {x : Int32} : vstp oc ret cs post K (.ok (.iload 5, 2)) pc (a0 :: a1 :: a2 :: a3 :: a4 :: .int x :: L) (st) M = (K (pc + 2) (a0 :: a1 :: a2 :: a3 :: a4 :: .int x :: L) (.int x :: st) M) := propext ⟨fun h => h.2, fun h => ⟨rfl, h⟩⟩
theorem v_aload_5 {a0 a1 a2 a3 a4 : Value} {x : Nat} : vstp oc ret cs post K (.ok (.aload 5, 2)) pc (a0 :: a1 :: a2 :: a3 :: a4 :: .ref x :: L) (st) M = (K (pc + 2) (a0 :: a1 :: a2 :: a3 :: a4 :: .ref x :: L) (.ref x :: st) M) := propext ⟨fun h => h.2, fun h => ⟨rfl, h⟩⟩
theorem v_lload_5 {a0 a1 a2 a3 a4 : Value} {x : Int64} : vstp oc ret cs post K (.ok (.lload 5, 2)) pc (a0 :: a1 :: a2 :: a3 :: a4 :: .long x :: L) (st) M = (K (pc + 2) (a0 :: a1 :: a2 :: a3 :: a4 :: .long x :: L) (.long x :: st) M) := propext ⟨fun h => h.2, fun h => ⟨rfl, h⟩⟩
theorem v_iload_6 {a0 a1 a2 a3 a4 a5 : Value} {x : Int32} : vstp oc ret cs post K (.ok (.iload 6, 2)) pc (a0 :: a1 :: a2 :: a3 :: a4 :: a5 :: .int x :: L) (st) M = (K (pc + 2) (a0 :: a1 :: a2 :: a3 :: a4 :: a5 :: .int x :: L) (.int x :: st) M) := propext ⟨fun h => h.2, fun h => ⟨rfl, h⟩⟩
theorem v_aload_6 {a0 a1 a2 a3 a4 a5 : Value} {x : Nat} : vstp oc ret cs post K (.ok (.aload 6, 2)) pc (a0 :: a1 :: a2 :: a3 :: a4 :: a5 :: .ref x :: L) (st) M = (K (pc + 2) (a0 :: a1 :: a2 :: a3 :: a4 :: a5 :: .ref x :: L) (.ref x :: st) M) := propext ⟨fun h => h.2, fun h => ⟨rfl, h⟩⟩
theorem v_lload_6 {a0 a1 a2 a3 a4 a5 : Value} {x : Int64} : vstp oc ret cs post K (.ok (.lload 6, 2)) pc (a0 :: a1 :: a2 :: a3 :: a4 :: a5 :: .long x :: L) (st) M = (K (pc + 2) (a0 :: a1 :: a2 :: a3 :: a4 :: a5 :: .long x :: L) (.long x :: st) M) := propext ⟨fun h => h.2, fun h => ⟨rfl, h⟩⟩
theorem v_iload_7 {a0 a1 a2 a3 a4 a5 a6 : Value} {x : Int32} : vstp oc ret cs post K (.ok (.iload 7, 2)) pc (a0 :: a1 :: a2 :: a3 :: a4 :: a5 :: a6 :: .int x :: L) (st) M = (K (pc + 2) (a0 :: a1 :: a2 :: a3 :: a4 :: a5 :: a6 :: .int x :: L) (.int x :: st) M) := propext ⟨fun h => h.2, fun h => ⟨rfl, h⟩⟩
theorem v_iload_8 {a0 a1 a2 a3 a4 a5 a6 a7 : Value} {x : Int32} : vstp oc ret cs post K (.ok (.iload 8, 2)) pc (a0 :: a1 :: a2 :: a3 :: a4 :: a5 :: a6 :: a7 :: .int x :: L) (st) M = (K (pc + 2) (a0 :: a1 :: a2 :: a3 :: a4 :: a5 :: a6 :: a7 :: .int x :: L) (.int x :: st) M) := propext ⟨fun h => h.2, fun h => ⟨rfl, h⟩⟩
theorem v_iload_9 {a0 a1 a2 a3 a4 a5 a6 a7 a8 : Value} {x : Int32} : vstp oc ret cs post K (.ok (.iload 9, 2)) pc (a0 :: a1 :: a2 :: a3 :: a4 :: a5 :: a6 :: a7 :: a8 :: .int x :: L) (st) M = (K (pc + 2) (a0 :: a1 :: a2 :: a3 :: a4 :: a5 :: a6 :: a7 :: a8 :: .int x :: L) (.int x :: st) M) := propext ⟨fun h => h.2, fun h => ⟨rfl, h⟩⟩
theorem v_istore_0 {w : Value} {x : Int32} : vstp oc ret cs post K (.ok (.istore_n 0, 1)) pc (w :: L) (.int x :: r) M = (K (pc + 1) (.int x :: L) r M) := propext ⟨fun h => h.2.2.2, fun h => ⟨rfl, by simp, rfl, h⟩⟩
theorem v_istore_1 {a0 : Value} {w : Value} {x : Int32} : vstp oc ret cs post K (.ok (.istore_n 1, 1)) pc (a0 :: w :: L) (.int x :: r) M = (a0.category = 1 ∧ K (pc + 1) (a0 :: .int x :: L) r M) := propext ⟨fun h => ⟨(beq_iff_eq.mp h.2.2.1), h.2.2.2⟩, fun h => ⟨rfl, by show 1 < _; simp only [List.length_cons]; omega, beq_iff_eq.mpr h.1, h.2⟩⟩
theorem v_istore_2 {a0 a1 : Value} {w : Value} {x : Int32} : vstp oc ret cs post K (.ok (.istore_n 2, 1)) pc (a0 :: a1 :: w :: L) (.int x :: r) M = (a1.category = 1 ∧ K (pc + 1) (a0 :: a1 :: .int x :: L) r M) := propext ⟨fun h => ⟨(beq_iff_eq.mp h.2.2.1), h.2.2.2⟩, fun h => ⟨rfl, by show 2 < _; simp only [List.length_cons]; omega, beq_iff_eq.mpr h.1, h.2⟩⟩
theorem v_istore_3 {a0 a1 a2 : Value} {w : Value} {x : Int32} : vstp oc ret cs post K (.ok (.istore_n 3, 1)) pc (a0 :: a1 :: a2 :: w :: L) (.int x :: r) M = (a2.category = 1 ∧ K (pc + 1) (a0 :: a1 :: a2 :: .int x :: L) r M) := propext ⟨fun h => ⟨(beq_iff_eq.mp h.2.2.1), h.2.2.2⟩, fun h => ⟨rfl, by show 3 < _; simp only [List.length_cons]; omega, beq_iff_eq.mpr h.1, h.2⟩⟩
theorem v_istore_4 {a0 a1 a2 a3 : Value} {w : Value} {x : Int32} : vstp oc ret cs post K (.ok (.istore 4, 2)) pc (a0 :: a1 :: a2 :: a3 :: w :: L) (.int x :: r) M = (a3.category = 1 ∧ K (pc + 2) (a0 :: a1 :: a2 :: a3 :: .int x :: L) r M) := propext ⟨fun h => ⟨(beq_iff_eq.mp h.2.2.1), h.2.2.2⟩, fun h => ⟨rfl, by show 4 < _; simp only [List.length_cons]; omega, beq_iff_eq.mpr h.1, h.2⟩⟩
theorem v_istore_5 {a0 a1 a2 a3 a4 : Value} {w : Value} {x : Int32} : vstp oc ret cs post K (.ok (.istore 5, 2)) pc (a0 :: a1 :: a2 :: a3 :: a4 :: w :: L) (.int x :: r) M = (a4.category = 1 ∧ K (pc + 2) (a0 :: a1 :: a2 :: a3 :: a4 :: .int x :: L) r M) := propext ⟨fun h => ⟨(beq_iff_eq.mp h.2.2.1), h.2.2.2⟩, fun h => ⟨rfl, by show 5 < _; simp only [List.length_cons]; omega, beq_iff_eq.mpr h.1, h.2⟩⟩
theorem v_istore_6 {a0 a1 a2 a3 a4 a5 : Value} {w : Value} {x : Int32} : vstp oc ret cs post K (.ok (.istore 6, 2)) pc (a0 :: a1 :: a2 :: a3 :: a4 :: a5 :: w :: L) (.int x :: r) M = (a5.category = 1 ∧ K (pc + 2) (a0 :: a1 :: a2 :: a3 :: a4 :: a5 :: .int x :: L) r M) := propext ⟨fun h => ⟨(beq_iff_eq.mp h.2.2.1), h.2.2.2⟩, fun h => ⟨rfl, by show 6 < _; simp only [List.length_cons]; omega, beq_iff_eq.mpr h.1, h.2⟩⟩
theorem v_istore_7 {a0 a1 a2 a3 a4 a5 a6 : Value} {w : Value} {x : Int32} : vstp oc ret cs post K (.ok (.istore 7, 2)) pc (a0 :: a1 :: a2 :: a3 :: a4 :: a5 :: a6 :: w :: L) (.int x :: r) M = (a6.category = 1 ∧ K (pc + 2) (a0 :: a1 :: a2 :: a3 :: a4 :: a5 :: a6 :: .int x :: L) r M) := propext ⟨fun h => ⟨(beq_iff_eq.mp h.2.2.1), h.2.2.2⟩, fun h => ⟨rfl, by show 7 < _; simp only [List.length_cons]; omega, beq_iff_eq.mpr h.1, h.2⟩⟩
theorem v_istore_8 {a0 a1 a2 a3 a4 a5 a6 a7 : Value} {w : Value} {x : Int32} : vstp oc ret cs post K (.ok (.istore 8, 2)) pc (a0 :: a1 :: a2 :: a3 :: a4 :: a5 :: a6 :: a7 :: w :: L) (.int x :: r) M = (a7.category = 1 ∧ K (pc + 2) (a0 :: a1 :: a2 :: a3 :: a4 :: a5 :: a6 :: a7 :: .int x :: L) r M) := propext ⟨fun h => ⟨(beq_iff_eq.mp h.2.2.1), h.2.2.2⟩, fun h => ⟨rfl, by show 8 < _; simp only [List.length_cons]; omega, beq_iff_eq.mpr h.1, h.2⟩⟩
theorem v_istore_9 {a0 a1 a2 a3 a4 a5 a6 a7 a8 : Value} {w : Value} {x : Int32} : vstp oc ret cs post K (.ok (.istore 9, 2)) pc (a0 :: a1 :: a2 :: a3 :: a4 :: a5 :: a6 :: a7 :: a8 :: w :: L) (.int x :: r) M = (a8.category = 1 ∧ K (pc + 2) (a0 :: a1 :: a2 :: a3 :: a4 :: a5 :: a6 :: a7 :: a8 :: .int x :: L) r M) := propext ⟨fun h => ⟨(beq_iff_eq.mp h.2.2.1), h.2.2.2⟩, fun h => ⟨rfl, by show 9 < _; simp only [List.length_cons]; omega, beq_iff_eq.mpr h.1, h.2⟩⟩
theorem v_lstore_0 {w w2 : Value} {x : Int64} : vstp oc ret cs post K (.ok (.lstore_n 0, 1)) pc (w :: w2 :: L) (.long x :: r) M = (K (pc + 1) (.long x :: .retAddr 0 :: L) r M) := propext ⟨fun h => h.2.2.2, fun h => ⟨rfl, by simp, rfl, h⟩⟩
theorem v_lstore_1 {a0 : Value} {w w2 : Value} {x : Int64} : vstp oc ret cs post K (.ok (.lstore_n 1, 1)) pc (a0 :: w :: w2 :: L) (.long x :: r) M = (a0.category = 1 ∧ K (pc + 1) (a0 :: .long x :: .retAddr 0 :: L) r M) := propext ⟨fun h => ⟨(beq_iff_eq.mp h.2.2.1), h.2.2.2⟩, fun h => ⟨rfl, by show 1 + 1 < _; simp only [List.length_cons]; omega, beq_iff_eq.mpr h.1, h.2⟩⟩
theorem v_lstore_2 {a0 a1 : Value} {w w2 : Value} {x : Int64} : vstp oc ret cs post K (.ok (.lstore_n 2, 1)) pc (a0 :: a1 :: w :: w2 :: L) (.long x :: r) M = (a1.category = 1 ∧ K (pc + 1) (a0 :: a1 :: .long x :: .retAddr 0 :: L) r M) := propext ⟨fun h => ⟨(beq_iff_eq.mp h.2.2.1), h.2.2.2⟩, fun h => ⟨rfl, by show 2 + 1 < _; simp only [List.length_cons]; omega, beq_iff_eq.mpr h.1, h.2⟩⟩
theorem v_lstore_3 {a0 a1 a2 : Value} {w w2 : Value} {x : Int64} : vstp oc ret cs post K (.ok (.lstore_n 3, 1)) pc (a0 :: a1 :: a2 :: w :: w2 :: L) (.long x :: r) M = (a2.category = 1 ∧ K (pc + 1) (a0 :: a1 :: a2 :: .long x :: .retAddr 0 :: L) r M) := propext ⟨fun h => ⟨(beq_iff_eq.mp h.2.2.1), h.2.2.2⟩, fun h => ⟨rfl, by show 3 + 1 < _; simp only [List.length_cons]; omega, beq_iff_eq.mpr h.1, h.2⟩⟩
theorem v_lstore_4 {a0 a1 a2 a3 : Value} {w w2 : Value} {x : Int64} : vstp oc ret cs post K (.ok (.lstore 4, 2)) pc (a0 :: a1 :: a2 :: a3 :: w :: w2 :: L) (.long x :: r) M = (a3.category = 1 ∧ K (pc + 2) (a0 :: a1 :: a2 :: a3 :: .long x :: .retAddr 0 :: L) r M) := propext ⟨fun h => ⟨(beq_iff_eq.mp h.2.2.1), h.2.2.2⟩, fun h => ⟨rfl, by show 4 + 1 < _; simp only [List.length_cons]; omega, beq_iff_eq.mpr h.1, h.2⟩⟩
theorem v_lstore_5 {a0 a1 a2 a3 a4 : Value} {w w2 : Value} {x : Int64} : vstp oc ret cs post K (.ok (.lstore 5, 2)) pc (a0 :: a1 :: a2 :: a3 :: a4 :: w :: w2 :: L) (.long x :: r) M = (a4.category = 1 ∧ K (pc + 2) (a0 :: a1 :: a2 :: a3 :: a4 :: .long x :: .retAddr 0 :: L) r M) := propext ⟨fun h => ⟨(beq_iff_eq.mp h.2.2.1), h.2.2.2⟩, fun h => ⟨rfl, by show 5 + 1 < _; simp only [List.length_cons]; omega, beq_iff_eq.mpr h.1, h.2⟩⟩
theorem v_lstore_6 {a0 a1 a2 a3 a4 a5 : Value} {w w2 : Value} {x : Int64} : vstp oc ret cs post K (.ok (.lstore 6, 2)) pc (a0 :: a1 :: a2 :: a3 :: a4 :: a5 :: w :: w2 :: L) (.long x :: r) M = (a5.category = 1 ∧ K (pc + 2) (a0 :: a1 :: a2 :: a3 :: a4 :: a5 :: .long x :: .retAddr 0 :: L) r M) := propext ⟨fun h => ⟨(beq_iff_eq.mp h.2.2.1), h.2.2.2⟩, fun h => ⟨rfl, by show 6 + 1 < _; simp only [List.length_cons]; omega, beq_iff_eq.mpr h.1, h.2⟩⟩
theorem v_iinc_0 {n : Int} {x : Int32} : vstp oc ret cs post K (.ok (.iinc 0 n, 3)) pc (.int x :: L) st M = (K (pc + 3) (.int (x + Int32.ofInt n) :: L) st M) := propext ⟨fun h => h.2.2, fun h => ⟨rfl, rfl, h⟩⟩
theorem v_iinc_1 {a0 : Value} {n : Int} {x : Int32} : vstp oc ret cs post K (.ok (.iinc 1 n, 3)) pc (a0 :: .int x :: L) st M = (a0.category = 1 ∧ K (pc + 3) (a0 :: .int (x + Int32.ofInt n) :: L) st M) := propext ⟨fun h => ⟨(beq_iff_eq.mp h.2.1), h.2.2⟩, fun h => ⟨rfl, beq_iff_eq.mpr h.1, h.2⟩⟩
theorem v_iinc_2 {a0 a1 : Value} {n : Int} {x : Int32} : vstp oc ret cs post K (.ok (.iinc 2 n, 3)) pc (a0 :: a1 :: .int x :: L) st M = (a1.category = 1 ∧ K (pc + 3) (a0 :: a1 :: .int (x + Int32.ofInt n) :: L) st M) := propext ⟨fun h => ⟨(beq_iff_eq.mp h.2.1), h.2.2⟩, fun h => ⟨rfl, beq_iff_eq.mpr h.1, h.2⟩⟩
theorem v_iinc_3 {a0 a1 a2 : Value} {n : Int} {x : Int32} : vstp oc ret cs post K (.ok (.iinc 3 n, 3)) pc (a0 :: a1 :: a2 :: .int x :: L) st M = (a2.category = 1 ∧ K (pc + 3) (a0 :: a1 :: a2 :: .int (x + Int32.ofInt n) :: L) st M) := propext ⟨fun h => ⟨(beq_iff_eq.mp h.2.1), h.2.2⟩, fun h => ⟨rfl, beq_iff_eq.mpr h.1, h.2⟩⟩
theorem v_iinc_4 {a0 a1 a2 a3 : Value} {n : Int} {x : Int32} : vstp oc ret cs post K (.ok (.iinc 4 n, 3)) pc (a0 :: a1 :: a2 :: a3 :: .int x :: L) st M = (a3.category = 1 ∧ K (pc + 3) (a0 :: a1 :: a2 :: a3 :: .int (x + Int32.ofInt n) :: L) st M) := propext ⟨fun h => ⟨(beq_iff_eq.mp h.2.1), h.2.2⟩, fun h => ⟨rfl, beq_iff_eq.mpr h.1, h.2⟩⟩
theorem v_iinc_5 {a0 a1 a2 a3 a4 : Value} {n : Int} {x : Int32} : vstp oc ret cs post K (.ok (.iinc 5 n, 3)) pc (a0 :: a1 :: a2 :: a3 :: a4 :: .int x :: L) st M = (a4.category = 1 ∧ K (pc + 3) (a0 :: a1 :: a2 :: a3 :: a4 :: .int (x + Int32.ofInt n) :: L) st M) := propext ⟨fun h => ⟨(beq_iff_eq.mp h.2.1), h.2.2⟩, fun h => ⟨rfl, beq_iff_eq.mpr h.1, h.2⟩⟩
theorem v_iinc_6 {a0 a1 a2 a3 a4 a5 : Value} {n : Int} {x : Int32} : vstp oc ret cs post K (.ok (.iinc 6 n, 3)) pc (a0 :: a1 :: a2 :: a3 :: a4 :: a5 :: .int x :: L) st M = (a5.category = 1 ∧ K (pc + 3) (a0 :: a1 :: a2 :: a3 :: a4 :: a5 :: .int (x + Int32.ofInt n) :: L) st M) := propext ⟨fun h => ⟨(beq_iff_eq.mp h.2.1), h.2.2⟩, fun h => ⟨rfl, beq_iff_eq.mpr h.1, h.2⟩⟩
theorem v_iinc_7 {a0 a1 a2 a3 a4 a5 a6 : Value} {n : Int} {x : Int32} : vstp oc ret cs post K (.ok (.iinc 7 n, 3)) pc (a0 :: a1 :: a2 :: a3 :: a4 :: a5 :: a6 :: .int x :: L) st M = (a6.category = 1 ∧ K (pc + 3) (a0 :: a1 :: a2 :: a3 :: a4 :: a5 :: a6 :: .int (x + Int32.ofInt n) :: L) st M) := propext ⟨fun h => ⟨(beq_iff_eq.mp h.2.1), h.2.2⟩, fun h => ⟨rfl, beq_iff_eq.mpr h.1, h.2⟩⟩
theorem v_iinc_8 {a0 a1 a2 a3 a4 a5 a6 a7 : Value} {n : Int} {x : Int32} : vstp oc ret cs post K (.ok (.iinc 8 n, 3)) pc (a0 :: a1 :: a2 :: a3 :: a4 :: a5 :: a6 :: a7 :: .int x :: L) st M = (a7.category = 1 ∧ K (pc + 3) (a0 :: a1 :: a2 :: a3 :: a4 :: a5 :: a6 :: a7 :: .int (x + Int32.ofInt n) :: L) st M) := propext ⟨fun h => ⟨(beq_iff_eq.mp h.2.1), h.2.2⟩, fun h => ⟨rfl, beq_iff_eq.mpr h.1, h.2⟩⟩
theorem v_iinc_9 {a0 a1 a2 a3 a4 a5 a6 a7 a8 : Value} {n : Int} {x : Int32} : vstp oc ret cs post K (.ok (.iinc 9 n, 3)) pc (a0 :: a1 :: a2 :: a3 :: a4 :: a5 :: a6 :: a7 :: a8 :: .int x :: L) st M = (a8.category = 1 ∧ K (pc + 3) (a0 :: a1 :: a2 :: a3 :: a4 :: a5 :: a6 :: a7 :: a8 :: .int (x + Int32.ofInt n) :: L) st M) := propext ⟨fun h => ⟨(beq_iff_eq.mp h.2.1), h.2.2⟩, fun h => ⟨rfl, beq_iff_eq.mpr h.1, h.2⟩⟩
theorem v_if_eq {x : Int32} {off : Int} : vstp oc ret cs post K (.ok (.ifCond .eq off, 3)) pc (L) (.int x :: r) M = (0 ≤ (pc : Int) + off ∧ if x = 0 then K (bT pc off) L r M else K (pc + 3) L r M) := propext ⟨fun h => h.2, fun h => ⟨rfl, h⟩⟩
theorem v_if_ne {x : Int32} {off : Int} : vstp oc ret cs post K (.ok (.ifCond .ne off, 3)) pc (L) (.int x :: r) M = (0 ≤ (pc : Int) + off ∧ if ¬ x = 0 then K (bT pc off) L r M else K (pc + 3) L r M) := propext ⟨fun h => h.2, fun h => ⟨rfl, h⟩⟩
theorem v_if_lt {x : Int32} {off : Int} : vstp oc ret cs post K (.ok (.ifCond .lt off, 3)) pc (L) (.int x :: r) M = (0 ≤ (pc : Int) + off ∧ if x < 0 then K (bT pc off) L r M else K (pc + 3) L r M) := propext ⟨fun h => h.2, fun h => ⟨rfl, h⟩⟩
theorem v_if_ge {x : Int32} {off : Int} : vstp oc ret cs post K (.ok (.ifCond .ge off, 3)) pc (L) (.int x :: r) M = (0 ≤ (pc : Int) + off ∧ if 0 ≤ x then K (bT pc off) L r M else K (pc + 3) L r M) := propext ⟨fun h => h.2, fun h => ⟨rfl, h⟩⟩
theorem v_if_gt {x : Int32} {off : Int} : vstp oc ret cs post K (.ok (.ifCond .gt off, 3)) pc (L) (.int x :: r) M = (0 ≤ (pc : Int) + off ∧ if 0 < x then K (bT pc off) L r M else K (pc + 3) L r M) := propext ⟨fun h => h.2, fun h => ⟨rfl, h⟩⟩
theorem v_if_le {x : Int32} {off : Int} : vstp oc ret cs post K (.ok (.ifCond .le off, 3)) pc (L) (.int x :: r) M = (0 ≤ (pc : Int) + off ∧ if x ≤ 0 then K (bT pc off) L r M else K (pc + 3) L r M) := propext ⟨fun h => h.2, fun h => ⟨rfl, h⟩⟩
theorem v_ic_eq {x y : Int32} {off : Int} : vstp oc ret cs post K (.ok (.if_icmp .eq off, 3)) pc (L) (.int y :: .int x :: r) M = (0 ≤ (pc : Int) + off ∧ if x = y then K (bT pc off) L r M else K (pc + 3) L r M) := propext ⟨fun h => h.2, fun h => ⟨rfl, h⟩⟩
theorem v_ic_ne {x y : Int32} {off : Int} : vstp oc ret cs post K (.ok (.if_icmp .ne off, 3)) pc (L) (.int y :: .int x :: r) M = (0 ≤ (pc : Int) + off ∧ if ¬ x = y then K (bT pc off) L r M else K (pc + 3) L r M) := propext ⟨fun h => h.2, fun h => ⟨rfl, h⟩⟩
theorem v_ic_lt {x y : Int32} {off : Int} : vstp oc ret cs post K (.ok (.if_icmp .lt off, 3)) pc (L) (.int y :: .int x :: r) M = (0 ≤ (pc : Int) + off ∧ if x < y then K (bT pc off) L r M else K (pc + 3) L r M) := propext ⟨fun h => h.2, fun h => ⟨rfl, h⟩⟩
theorem v_ic_ge {x y : Int32} {off : Int} : vstp oc ret cs post K (.ok (.if_icmp .ge off, 3)) pc (L) (.int y :: .int x :: r) M = (0 ≤ (pc : Int) + off ∧ if y ≤ x then K (bT pc off) L r M else K (pc + 3) L r M) := propext ⟨fun h => h.2, fun h => ⟨rfl, h⟩⟩
theorem v_ic_gt {x y : Int32} {off : Int} : vstp oc ret cs post K (.ok (.if_icmp .gt off, 3)) pc (L) (.int y :: .int x :: r) M = (0 ≤ (pc : Int) + off ∧ if y < x then K (bT pc off) L r M else K (pc + 3) L r M) := propext ⟨fun h => h.2, fun h => ⟨rfl, h⟩⟩
theorem v_ic_le {x y : Int32} {off : Int} : vstp oc ret cs post K (.ok (.if_icmp .le off, 3)) pc (L) (.int y :: .int x :: r) M = (0 ≤ (pc : Int) + off ∧ if x ≤ y then K (bT pc off) L r M else K (pc + 3) L r M) := propext ⟨fun h => h.2, fun h => ⟨rfl, h⟩⟩
theorem v_goto {off : Int} : vstp oc ret cs post K (.ok (.goto off, 3)) pc (L) (st) M = (0 ≤ (pc : Int) + off ∧ K (bT pc off) L st M) := propext ⟨fun h => h.2, fun h => ⟨rfl, h⟩⟩
def vld (x : Option Int32) (y : Option Nat) (K : Nat → List Value → List Value → Mem → Prop) (pc : Nat) (L st : List Value) (M : Mem) : Prop := match x with
  | some v => K pc L (.int v :: st) M
  | none => match y with
    | some j => K pc L (.ref (100 + j) :: st) M
    | none => False
theorem v_ldc {i : Nat} : vstp oc ret cs post K (.ok (.ldc i, 2)) pc (L) (st) M = (vld (kres oc i) (sres oc i) K (pc + 2) L st M) := propext ⟨fun h => h.2, fun h => ⟨rfl, h⟩⟩
theorem v_ldcw {i : Nat} : vstp oc ret cs post K (.ok (.ldc_w i, 3)) pc L st M = vld (kres oc i) none K (pc + 3) L st M := propext ⟨fun h => h.2, fun h => ⟨rfl, h⟩⟩
theorem vld_i {v : Int32} {y : Option Nat} : vld (some v) y K pc L st M = K pc L (.int v :: st) M := rfl
theorem vld_s {j : Nat} : vld none (some j) K pc L st M = K pc L (.ref (100 + j) :: st) M := rfl
def vgf (x : Option (Nat × Nat)) (K : Nat → List Value → List Value → Mem → Prop) (pc : Nat) (L : List Value) (p : Nat) (r : List Value) (M : Mem) : Prop := match x with
  | some (ci, k) => (match gf ci k p with
    | some (some q) => K (pc + 3) L (.ref q :: r) M
    | some none => K (pc + 3) L (.int (M p k) :: r) M
    | none => False)
  | none => False
def vgf2 (x : Option (Option Nat)) (k : Nat) (K : Nat → List Value → List Value → Mem → Prop) (pc : Nat) (L : List Value) (p : Nat) (r : List Value) (M : Mem) : Prop := match x with
  | some (some q) => K (pc + 3) L (.ref q :: r) M
  | some none => K (pc + 3) L (.int (M p k) :: r) M
  | none => False
theorem vgf_s {ci k p : Nat} : vgf (some (ci, k)) K pc L p r M = vgf2 (gf ci k p) k K pc L p r M := rfl
theorem vgf_r {k p q : Nat} : vgf2 (some (some q)) k K pc L p r M = K (pc + 3) L (.ref q :: r) M := rfl
theorem vgf_i {k p : Nat} : vgf2 (some none) k K pc L p r M = K (pc + 3) L (.int (M p k) :: r) M := rfl
def vpf (x : Option (Nat × Nat)) (v : Int32) (K : Nat → List Value → List Value → Mem → Prop) (pc : Nat) (L : List Value) (p : Nat) (r : List Value) (M : Mem) : Prop := match x with
  | some (ci, k) => gf ci k p = some none ∧ (pft ci k = 0 ∨ (pft ci k = 1 ∧ (v = 0 ∨ v = 1))) ∧ K (pc + 3) L r (mset M p k v)
  | none => False
theorem vpf_s {ci k p : Nat} {v : Int32} : vpf (some (ci, k)) v K pc L p r M = (gf ci k p = some none ∧ (pft ci k = 0 ∨ (pft ci k = 1 ∧ (v = 0 ∨ v = 1))) ∧ K (pc + 3) L r (mset M p k v)) := rfl
theorem v_getfield {i p : Nat} : vstp oc ret cs post K (.ok (.getfield i, 3)) pc (L) (.ref p :: r) M = (vgf (fres oc i) K pc L p r M) := propext ⟨fun h => h.2, fun h => ⟨rfl, h⟩⟩
theorem v_putfield {i p : Nat} {v : Int32} : vstp oc ret cs post K (.ok (.putfield i, 3)) pc (L) (.int v :: .ref p :: r) M = (vpf (fres oc i) v K pc L p r M) := propext ⟨fun h => h.2, fun h => ⟨rfl, h⟩⟩
theorem v_getstatic {i : Nat} : vstp oc ret cs post K (.ok (.getstatic i, 3)) pc (L) (st) M = (i = gsI.2 ∧ oc = gsI.1 ∧ K (pc + 3) L (.ref 90 :: st) M) := propext ⟨fun h => h.2, fun h => ⟨rfl, h⟩⟩
theorem v_iaload {i : Int32} {p : Nat} : vstp oc ret cs post K (.ok (.iaload, 1)) pc (L) (.int i :: .ref p :: r) M = (if p = 90 then (0 ≤ i.toInt ∧ i.toInt < (7 : Nat)) ∧ K (pc + 1) L (.int (kab.getD i.toNatClampNeg 0) :: r) M else (0 ≤ i.toInt ∧ i.toInt < al p) ∧ K (pc + 1) L (.int (M p i.toNatClampNeg) :: r) M) := propext ⟨fun h => h.2, fun h => ⟨rfl, h⟩⟩
theorem v_iastore {i v : Int32} {p : Nat} : vstp oc ret cs post K (.ok (.iastore, 1)) pc (L) (.int v :: .int i :: .ref p :: r) M = ((0 ≤ i.toInt ∧ i.toInt < al p) ∧ K (pc + 1) L r (mset M p i.toNatClampNeg v)) := propext ⟨fun h => h.2, fun h => ⟨rfl, h⟩⟩
def vaa (x : Option (Nat × Nat)) (i : Int32) (K : Nat → List Value → List Value → Mem → Prop) (pc : Nat) (L r : List Value) (M : Mem) : Prop := match x with
  | some (b, n) => (0 ≤ i.toInt ∧ i.toInt < n) ∧ K (pc + 1) L (.ref (b + i.toNatClampNeg) :: r) M
  | none => False
theorem vaa_s {b n : Nat} {i : Int32} : vaa (some (b, n)) i K pc L r M = ((0 ≤ i.toInt ∧ i.toInt < n) ∧ K (pc + 1) L (.ref (b + i.toNatClampNeg) :: r) M) := rfl
def vln (x : Option (Nat × Nat)) (p : Nat) (K : Nat → List Value → List Value → Mem → Prop) (pc : Nat) (L r : List Value) (M : Mem) : Prop := match x with
  | some (_, n) => K (pc + 1) L (.int (Int32.ofNat n) :: r) M
  | none => 0 < al p ∧ K (pc + 1) L (.int (Int32.ofNat (al p)) :: r) M
theorem vln_s {b n p : Nat} : vln (some (b, n)) p K pc L r M = K (pc + 1) L (.int (Int32.ofNat n) :: r) M := rfl
theorem vln_n {p : Nat} : vln none p K pc L r M = (0 < al p ∧ K (pc + 1) L (.int (Int32.ofNat (al p)) :: r) M) := rfl
theorem v_aaload {i : Int32} {p : Nat} : vstp oc ret cs post K (.ok (.aaload, 1)) pc (L) (.int i :: .ref p :: r) M = (vaa (ra p) i K pc L r M) := propext ⟨fun h => h.2, fun h => ⟨rfl, h⟩⟩
theorem v_arraylength {p : Nat} : vstp oc ret cs post K (.ok (.arraylength, 1)) pc (L) (.ref p :: r) M = (if p = 90 then K (pc + 1) L (.int 7 :: r) M else vln (ra p) p K pc L r M) := propext ⟨fun h => h.2, fun h => ⟨rfl, h⟩⟩
theorem v_ireturn {v : Int32} : vstp oc ret cs post K (.ok (.ireturn, 1)) pc (L) ([.int v]) M = (rOK ret v ∧ post (.int v) M) := propext ⟨fun h => h.2, fun h => ⟨rfl, h⟩⟩
theorem v_lreturn {v : Int64} : vstp oc ret cs post K (.ok (.lreturn, 1)) pc (L) ([.long v]) M = (ret = some .long ∧ post (.long v) M) := propext ⟨fun h => h.2, fun h => ⟨rfl, h⟩⟩
theorem v_return : vstp oc ret cs post K (.ok (.return_, 1)) pc (L) ([]) M = (ret = none ∧ post (.int 0) M) := propext ⟨fun h => h.2, fun h => ⟨rfl, h⟩⟩
theorem rOK_i {v : Int32} : rOK (some .int) v = True := rfl
theorem rOK_z {v : Int32} : rOK (some .boolean) v = (v = 0 ∨ v = 1) := rfl
theorem v_table {x : Int32} {df lo hi : Int} {offs : Array Int} {len : Nat} : vstp oc ret cs post K (.ok (.tableswitch df lo hi offs, len)) pc L (.int x :: r) M = ((-1000 ≤ lo ∧ hi ≤ 1000 ∧ hi = lo + offs.toList.length - 1) ∧ vtab (fun t => K t L r M) pc df x lo offs.toList) := rfl
theorem vtab_n {K : Nat → Prop} {pc : Nat} {df i : Int} {x : Int32} : vtab K pc df x i [] = (0 ≤ (pc : Int) + df ∧ K (bT pc df)) := rfl
theorem vtab_c {K : Nat → Prop} {pc : Nat} {df i o : Int} {os : List Int} {x : Int32} : vtab K pc df x i (o :: os) = if x = Int32.ofInt i then 0 ≤ (pc : Int) + o ∧ K (bT pc o) else vtab K pc df x (i + 1) os := rfl
def rr (r : Nat) (v : Value) (st : List Value) : List Value := if r = 0 then st else v :: st
theorem rr_0 {v : Value} {st : List Value} : rr 0 v st = st := rfl
theorem rr_1 {v : Value} {st : List Value} : rr 1 v st = v :: st := rfl
def vcV (x : Option (Nat × Nat × Nat × Nat)) (cs : Nat → List Value → Mem → (Value → Mem → Prop) → Prop) (K : Nat → List Value → List Value → Mem → Prop) (pc : Nat) (L st : List Value) (M : Mem) : Prop := match x with
  | some (j, n, r, md) => 10 ≤ md ∧ (st.drop n).length ≤ 4 ∧ (match (st.take n).reverse with
      | .ref p :: as => as.length + 1 = n ∧ pcl p = md - 10 ∧ cs j (.ref p :: as) M (fun v M' => K (pc + 3) L (if r = 0 then st.drop n else v :: st.drop n) M')
      | _ => False)
  | none => False
def vcS (x : Option (Nat × Nat × Nat × Nat)) (cs : Nat → List Value → Mem → (Value → Mem → Prop) → Prop) (K : Nat → List Value → List Value → Mem → Prop) (pc : Nat) (L st : List Value) (M : Mem) : Prop := match x with
    | some (j, n, r, md) => if md = 5 then (match st with
        | .int k :: .int dp :: .ref q :: .int sp :: .ref p :: rest => (rest.length ≤ 4 ∧ 0 ≤ sp.toInt ∧ 0 ≤ dp.toInt ∧ 0 ≤ k.toInt ∧ sp.toInt + k.toInt ≤ al p ∧ dp.toInt + k.toInt ≤ al q ∧ 0 < al p ∧ 0 < al q) ∧ K (pc + 3) L rest (mrow M q (va_cpy (M p) (M q) sp.toNatClampNeg dp.toNatClampNeg k.toNatClampNeg))
        | _ => False)
      else if md = 6 then (match st with
        | .int y :: .int x :: rest => rest.length ≤ 4 ∧ K (pc + 3) L (.int (if x < y then y else x) :: rest) M
        | _ => False)
      else if md = 7 then (match st with
        | .int y :: .int x :: rest => rest.length ≤ 4 ∧ K (pc + 3) L (.int (if y < x then y else x) :: rest) M
        | _ => False)
      else if md = 8 then (match st with
        | .int x :: rest => rest.length ≤ 4 ∧ K (pc + 3) L (.int (if 0 ≤ x then x else 0 - x) :: rest) M
        | _ => False)
      else (md = 1 ∨ md = 2) ∧ (st.take n).length = n ∧ (st.drop n).length ≤ 4 ∧ cs j (st.take n).reverse M (fun v M' => K (pc + 3) L (if r = 0 then st.drop n else v :: st.drop n) M')
    | none => False
theorem v_invv {i : Nat} : vstp oc ret cs post K (.ok (.invokevirtual i, 3)) pc (L) (st) M = (vcV (cres oc i) cs K pc L st M) := propext ⟨fun h => h.2, fun h => ⟨rfl, h⟩⟩
theorem v_invs {i : Nat} : vstp oc ret cs post K (.ok (.invokestatic i, 3)) pc (L) (st) M = (vcS (cres oc i) cs K pc L st M) := propext ⟨fun h => h.2, fun h => ⟨rfl, h⟩⟩
theorem vcV_1 {j r p ci : Nat} {rest : List Value} : vcV (some (j, 1, r, 10 + ci)) cs K pc L (.ref p :: rest) M = (rest.length ≤ 4 ∧ pcl p = ci ∧ cs j [.ref p] M (fun v M' => K (pc + 3) L (rr r v rest) M')) := by
  show (10 ≤ 10 + ci ∧ rest.length ≤ 4 ∧ (1 = 1 ∧ pcl p = 10 + ci - 10 ∧ cs j [.ref p] M (fun v M' => K (pc + 3) L (rr r v rest) M'))) = _
  simp [Nat.add_sub_cancel_left]
theorem vcV_1_0 {j r p : Nat} {rest : List Value} : vcV (some (j, 1, r, 10)) cs K pc L (.ref p :: rest) M = (rest.length ≤ 4 ∧ pcl p = 0 ∧ cs j [.ref p] M (fun v M' => K (pc + 3) L (rr r v rest) M')) := vcV_1 (ci := 0)
theorem vcV_1_1 {j r p : Nat} {rest : List Value} : vcV (some (j, 1, r, 11)) cs K pc L (.ref p :: rest) M = (rest.length ≤ 4 ∧ pcl p = 1 ∧ cs j [.ref p] M (fun v M' => K (pc + 3) L (rr r v rest) M')) := vcV_1 (ci := 1)
theorem vcV_1_2 {j r p : Nat} {rest : List Value} : vcV (some (j, 1, r, 12)) cs K pc L (.ref p :: rest) M = (rest.length ≤ 4 ∧ pcl p = 2 ∧ cs j [.ref p] M (fun v M' => K (pc + 3) L (rr r v rest) M')) := vcV_1 (ci := 2)
theorem vcV_1_3 {j r p : Nat} {rest : List Value} : vcV (some (j, 1, r, 13)) cs K pc L (.ref p :: rest) M = (rest.length ≤ 4 ∧ pcl p = 3 ∧ cs j [.ref p] M (fun v M' => K (pc + 3) L (rr r v rest) M')) := vcV_1 (ci := 3)
theorem vcV_1_4 {j r p : Nat} {rest : List Value} : vcV (some (j, 1, r, 14)) cs K pc L (.ref p :: rest) M = (rest.length ≤ 4 ∧ pcl p = 4 ∧ cs j [.ref p] M (fun v M' => K (pc + 3) L (rr r v rest) M')) := vcV_1 (ci := 4)
theorem vcV_1_5 {j r p : Nat} {rest : List Value} : vcV (some (j, 1, r, 15)) cs K pc L (.ref p :: rest) M = (rest.length ≤ 4 ∧ pcl p = 5 ∧ cs j [.ref p] M (fun v M' => K (pc + 3) L (rr r v rest) M')) := vcV_1 (ci := 5)
theorem vcV_1_6 {j r p : Nat} {rest : List Value} : vcV (some (j, 1, r, 16)) cs K pc L (.ref p :: rest) M = (rest.length ≤ 4 ∧ pcl p = 6 ∧ cs j [.ref p] M (fun v M' => K (pc + 3) L (rr r v rest) M')) := vcV_1 (ci := 6)
theorem vcV_1_7 {j r p : Nat} {rest : List Value} : vcV (some (j, 1, r, 17)) cs K pc L (.ref p :: rest) M = (rest.length ≤ 4 ∧ pcl p = 7 ∧ cs j [.ref p] M (fun v M' => K (pc + 3) L (rr r v rest) M')) := vcV_1 (ci := 7)
theorem vcV_2 {j r p ci : Nat} {b1 : Value} {rest : List Value} : vcV (some (j, 2, r, 10 + ci)) cs K pc L (b1 :: .ref p :: rest) M = (rest.length ≤ 4 ∧ pcl p = ci ∧ cs j [.ref p, b1] M (fun v M' => K (pc + 3) L (rr r v rest) M')) := by
  show (10 ≤ 10 + ci ∧ rest.length ≤ 4 ∧ (2 = 2 ∧ pcl p = 10 + ci - 10 ∧ cs j [.ref p, b1] M (fun v M' => K (pc + 3) L (rr r v rest) M'))) = _
  simp [Nat.add_sub_cancel_left]
theorem vcV_2_0 {j r p : Nat} {b1 : Value} {rest : List Value} : vcV (some (j, 2, r, 10)) cs K pc L (b1 :: .ref p :: rest) M = (rest.length ≤ 4 ∧ pcl p = 0 ∧ cs j [.ref p, b1] M (fun v M' => K (pc + 3) L (rr r v rest) M')) := vcV_2 (ci := 0)
theorem vcV_2_1 {j r p : Nat} {b1 : Value} {rest : List Value} : vcV (some (j, 2, r, 11)) cs K pc L (b1 :: .ref p :: rest) M = (rest.length ≤ 4 ∧ pcl p = 1 ∧ cs j [.ref p, b1] M (fun v M' => K (pc + 3) L (rr r v rest) M')) := vcV_2 (ci := 1)
theorem vcV_2_2 {j r p : Nat} {b1 : Value} {rest : List Value} : vcV (some (j, 2, r, 12)) cs K pc L (b1 :: .ref p :: rest) M = (rest.length ≤ 4 ∧ pcl p = 2 ∧ cs j [.ref p, b1] M (fun v M' => K (pc + 3) L (rr r v rest) M')) := vcV_2 (ci := 2)
theorem vcV_2_3 {j r p : Nat} {b1 : Value} {rest : List Value} : vcV (some (j, 2, r, 13)) cs K pc L (b1 :: .ref p :: rest) M = (rest.length ≤ 4 ∧ pcl p = 3 ∧ cs j [.ref p, b1] M (fun v M' => K (pc + 3) L (rr r v rest) M')) := vcV_2 (ci := 3)
theorem vcV_2_4 {j r p : Nat} {b1 : Value} {rest : List Value} : vcV (some (j, 2, r, 14)) cs K pc L (b1 :: .ref p :: rest) M = (rest.length ≤ 4 ∧ pcl p = 4 ∧ cs j [.ref p, b1] M (fun v M' => K (pc + 3) L (rr r v rest) M')) := vcV_2 (ci := 4)
theorem vcV_2_5 {j r p : Nat} {b1 : Value} {rest : List Value} : vcV (some (j, 2, r, 15)) cs K pc L (b1 :: .ref p :: rest) M = (rest.length ≤ 4 ∧ pcl p = 5 ∧ cs j [.ref p, b1] M (fun v M' => K (pc + 3) L (rr r v rest) M')) := vcV_2 (ci := 5)
theorem vcV_2_6 {j r p : Nat} {b1 : Value} {rest : List Value} : vcV (some (j, 2, r, 16)) cs K pc L (b1 :: .ref p :: rest) M = (rest.length ≤ 4 ∧ pcl p = 6 ∧ cs j [.ref p, b1] M (fun v M' => K (pc + 3) L (rr r v rest) M')) := vcV_2 (ci := 6)
theorem vcV_2_7 {j r p : Nat} {b1 : Value} {rest : List Value} : vcV (some (j, 2, r, 17)) cs K pc L (b1 :: .ref p :: rest) M = (rest.length ≤ 4 ∧ pcl p = 7 ∧ cs j [.ref p, b1] M (fun v M' => K (pc + 3) L (rr r v rest) M')) := vcV_2 (ci := 7)
theorem vcV_3 {j r p ci : Nat} {b1 b2 : Value} {rest : List Value} : vcV (some (j, 3, r, 10 + ci)) cs K pc L (b2 :: b1 :: .ref p :: rest) M = (rest.length ≤ 4 ∧ pcl p = ci ∧ cs j [.ref p, b1, b2] M (fun v M' => K (pc + 3) L (rr r v rest) M')) := by
  show (10 ≤ 10 + ci ∧ rest.length ≤ 4 ∧ (3 = 3 ∧ pcl p = 10 + ci - 10 ∧ cs j [.ref p, b1, b2] M (fun v M' => K (pc + 3) L (rr r v rest) M'))) = _
  simp [Nat.add_sub_cancel_left]
theorem vcV_3_0 {j r p : Nat} {b1 b2 : Value} {rest : List Value} : vcV (some (j, 3, r, 10)) cs K pc L (b2 :: b1 :: .ref p :: rest) M = (rest.length ≤ 4 ∧ pcl p = 0 ∧ cs j [.ref p, b1, b2] M (fun v M' => K (pc + 3) L (rr r v rest) M')) := vcV_3 (ci := 0)
theorem vcV_3_1 {j r p : Nat} {b1 b2 : Value} {rest : List Value} : vcV (some (j, 3, r, 11)) cs K pc L (b2 :: b1 :: .ref p :: rest) M = (rest.length ≤ 4 ∧ pcl p = 1 ∧ cs j [.ref p, b1, b2] M (fun v M' => K (pc + 3) L (rr r v rest) M')) := vcV_3 (ci := 1)
theorem vcV_3_2 {j r p : Nat} {b1 b2 : Value} {rest : List Value} : vcV (some (j, 3, r, 12)) cs K pc L (b2 :: b1 :: .ref p :: rest) M = (rest.length ≤ 4 ∧ pcl p = 2 ∧ cs j [.ref p, b1, b2] M (fun v M' => K (pc + 3) L (rr r v rest) M')) := vcV_3 (ci := 2)
theorem vcV_3_3 {j r p : Nat} {b1 b2 : Value} {rest : List Value} : vcV (some (j, 3, r, 13)) cs K pc L (b2 :: b1 :: .ref p :: rest) M = (rest.length ≤ 4 ∧ pcl p = 3 ∧ cs j [.ref p, b1, b2] M (fun v M' => K (pc + 3) L (rr r v rest) M')) := vcV_3 (ci := 3)
theorem vcV_3_4 {j r p : Nat} {b1 b2 : Value} {rest : List Value} : vcV (some (j, 3, r, 14)) cs K pc L (b2 :: b1 :: .ref p :: rest) M = (rest.length ≤ 4 ∧ pcl p = 4 ∧ cs j [.ref p, b1, b2] M (fun v M' => K (pc + 3) L (rr r v rest) M')) := vcV_3 (ci := 4)
theorem vcV_3_5 {j r p : Nat} {b1 b2 : Value} {rest : List Value} : vcV (some (j, 3, r, 15)) cs K pc L (b2 :: b1 :: .ref p :: rest) M = (rest.length ≤ 4 ∧ pcl p = 5 ∧ cs j [.ref p, b1, b2] M (fun v M' => K (pc + 3) L (rr r v rest) M')) := vcV_3 (ci := 5)
theorem vcV_3_6 {j r p : Nat} {b1 b2 : Value} {rest : List Value} : vcV (some (j, 3, r, 16)) cs K pc L (b2 :: b1 :: .ref p :: rest) M = (rest.length ≤ 4 ∧ pcl p = 6 ∧ cs j [.ref p, b1, b2] M (fun v M' => K (pc + 3) L (rr r v rest) M')) := vcV_3 (ci := 6)
theorem vcV_3_7 {j r p : Nat} {b1 b2 : Value} {rest : List Value} : vcV (some (j, 3, r, 17)) cs K pc L (b2 :: b1 :: .ref p :: rest) M = (rest.length ≤ 4 ∧ pcl p = 7 ∧ cs j [.ref p, b1, b2] M (fun v M' => K (pc + 3) L (rr r v rest) M')) := vcV_3 (ci := 7)
theorem vcV_4 {j r p ci : Nat} {b1 b2 b3 : Value} {rest : List Value} : vcV (some (j, 4, r, 10 + ci)) cs K pc L (b3 :: b2 :: b1 :: .ref p :: rest) M = (rest.length ≤ 4 ∧ pcl p = ci ∧ cs j [.ref p, b1, b2, b3] M (fun v M' => K (pc + 3) L (rr r v rest) M')) := by
  show (10 ≤ 10 + ci ∧ rest.length ≤ 4 ∧ (4 = 4 ∧ pcl p = 10 + ci - 10 ∧ cs j [.ref p, b1, b2, b3] M (fun v M' => K (pc + 3) L (rr r v rest) M'))) = _
  simp [Nat.add_sub_cancel_left]
theorem vcV_4_0 {j r p : Nat} {b1 b2 b3 : Value} {rest : List Value} : vcV (some (j, 4, r, 10)) cs K pc L (b3 :: b2 :: b1 :: .ref p :: rest) M = (rest.length ≤ 4 ∧ pcl p = 0 ∧ cs j [.ref p, b1, b2, b3] M (fun v M' => K (pc + 3) L (rr r v rest) M')) := vcV_4 (ci := 0)
theorem vcV_4_1 {j r p : Nat} {b1 b2 b3 : Value} {rest : List Value} : vcV (some (j, 4, r, 11)) cs K pc L (b3 :: b2 :: b1 :: .ref p :: rest) M = (rest.length ≤ 4 ∧ pcl p = 1 ∧ cs j [.ref p, b1, b2, b3] M (fun v M' => K (pc + 3) L (rr r v rest) M')) := vcV_4 (ci := 1)
theorem vcV_4_2 {j r p : Nat} {b1 b2 b3 : Value} {rest : List Value} : vcV (some (j, 4, r, 12)) cs K pc L (b3 :: b2 :: b1 :: .ref p :: rest) M = (rest.length ≤ 4 ∧ pcl p = 2 ∧ cs j [.ref p, b1, b2, b3] M (fun v M' => K (pc + 3) L (rr r v rest) M')) := vcV_4 (ci := 2)
theorem vcV_4_3 {j r p : Nat} {b1 b2 b3 : Value} {rest : List Value} : vcV (some (j, 4, r, 13)) cs K pc L (b3 :: b2 :: b1 :: .ref p :: rest) M = (rest.length ≤ 4 ∧ pcl p = 3 ∧ cs j [.ref p, b1, b2, b3] M (fun v M' => K (pc + 3) L (rr r v rest) M')) := vcV_4 (ci := 3)
theorem vcV_4_4 {j r p : Nat} {b1 b2 b3 : Value} {rest : List Value} : vcV (some (j, 4, r, 14)) cs K pc L (b3 :: b2 :: b1 :: .ref p :: rest) M = (rest.length ≤ 4 ∧ pcl p = 4 ∧ cs j [.ref p, b1, b2, b3] M (fun v M' => K (pc + 3) L (rr r v rest) M')) := vcV_4 (ci := 4)
theorem vcV_4_5 {j r p : Nat} {b1 b2 b3 : Value} {rest : List Value} : vcV (some (j, 4, r, 15)) cs K pc L (b3 :: b2 :: b1 :: .ref p :: rest) M = (rest.length ≤ 4 ∧ pcl p = 5 ∧ cs j [.ref p, b1, b2, b3] M (fun v M' => K (pc + 3) L (rr r v rest) M')) := vcV_4 (ci := 5)
theorem vcV_4_6 {j r p : Nat} {b1 b2 b3 : Value} {rest : List Value} : vcV (some (j, 4, r, 16)) cs K pc L (b3 :: b2 :: b1 :: .ref p :: rest) M = (rest.length ≤ 4 ∧ pcl p = 6 ∧ cs j [.ref p, b1, b2, b3] M (fun v M' => K (pc + 3) L (rr r v rest) M')) := vcV_4 (ci := 6)
theorem vcV_4_7 {j r p : Nat} {b1 b2 b3 : Value} {rest : List Value} : vcV (some (j, 4, r, 17)) cs K pc L (b3 :: b2 :: b1 :: .ref p :: rest) M = (rest.length ≤ 4 ∧ pcl p = 7 ∧ cs j [.ref p, b1, b2, b3] M (fun v M' => K (pc + 3) L (rr r v rest) M')) := vcV_4 (ci := 7)
theorem vcV_5 {j r p ci : Nat} {b1 b2 b3 b4 : Value} {rest : List Value} : vcV (some (j, 5, r, 10 + ci)) cs K pc L (b4 :: b3 :: b2 :: b1 :: .ref p :: rest) M = (rest.length ≤ 4 ∧ pcl p = ci ∧ cs j [.ref p, b1, b2, b3, b4] M (fun v M' => K (pc + 3) L (rr r v rest) M')) := by
  show (10 ≤ 10 + ci ∧ rest.length ≤ 4 ∧ (5 = 5 ∧ pcl p = 10 + ci - 10 ∧ cs j [.ref p, b1, b2, b3, b4] M (fun v M' => K (pc + 3) L (rr r v rest) M'))) = _
  simp [Nat.add_sub_cancel_left]
theorem vcV_5_0 {j r p : Nat} {b1 b2 b3 b4 : Value} {rest : List Value} : vcV (some (j, 5, r, 10)) cs K pc L (b4 :: b3 :: b2 :: b1 :: .ref p :: rest) M = (rest.length ≤ 4 ∧ pcl p = 0 ∧ cs j [.ref p, b1, b2, b3, b4] M (fun v M' => K (pc + 3) L (rr r v rest) M')) := vcV_5 (ci := 0)
theorem vcV_5_1 {j r p : Nat} {b1 b2 b3 b4 : Value} {rest : List Value} : vcV (some (j, 5, r, 11)) cs K pc L (b4 :: b3 :: b2 :: b1 :: .ref p :: rest) M = (rest.length ≤ 4 ∧ pcl p = 1 ∧ cs j [.ref p, b1, b2, b3, b4] M (fun v M' => K (pc + 3) L (rr r v rest) M')) := vcV_5 (ci := 1)
theorem vcV_5_2 {j r p : Nat} {b1 b2 b3 b4 : Value} {rest : List Value} : vcV (some (j, 5, r, 12)) cs K pc L (b4 :: b3 :: b2 :: b1 :: .ref p :: rest) M = (rest.length ≤ 4 ∧ pcl p = 2 ∧ cs j [.ref p, b1, b2, b3, b4] M (fun v M' => K (pc + 3) L (rr r v rest) M')) := vcV_5 (ci := 2)
theorem vcV_5_3 {j r p : Nat} {b1 b2 b3 b4 : Value} {rest : List Value} : vcV (some (j, 5, r, 13)) cs K pc L (b4 :: b3 :: b2 :: b1 :: .ref p :: rest) M = (rest.length ≤ 4 ∧ pcl p = 3 ∧ cs j [.ref p, b1, b2, b3, b4] M (fun v M' => K (pc + 3) L (rr r v rest) M')) := vcV_5 (ci := 3)
theorem vcV_5_4 {j r p : Nat} {b1 b2 b3 b4 : Value} {rest : List Value} : vcV (some (j, 5, r, 14)) cs K pc L (b4 :: b3 :: b2 :: b1 :: .ref p :: rest) M = (rest.length ≤ 4 ∧ pcl p = 4 ∧ cs j [.ref p, b1, b2, b3, b4] M (fun v M' => K (pc + 3) L (rr r v rest) M')) := vcV_5 (ci := 4)
theorem vcV_5_5 {j r p : Nat} {b1 b2 b3 b4 : Value} {rest : List Value} : vcV (some (j, 5, r, 15)) cs K pc L (b4 :: b3 :: b2 :: b1 :: .ref p :: rest) M = (rest.length ≤ 4 ∧ pcl p = 5 ∧ cs j [.ref p, b1, b2, b3, b4] M (fun v M' => K (pc + 3) L (rr r v rest) M')) := vcV_5 (ci := 5)
theorem vcV_5_6 {j r p : Nat} {b1 b2 b3 b4 : Value} {rest : List Value} : vcV (some (j, 5, r, 16)) cs K pc L (b4 :: b3 :: b2 :: b1 :: .ref p :: rest) M = (rest.length ≤ 4 ∧ pcl p = 6 ∧ cs j [.ref p, b1, b2, b3, b4] M (fun v M' => K (pc + 3) L (rr r v rest) M')) := vcV_5 (ci := 6)
theorem vcV_5_7 {j r p : Nat} {b1 b2 b3 b4 : Value} {rest : List Value} : vcV (some (j, 5, r, 17)) cs K pc L (b4 :: b3 :: b2 :: b1 :: .ref p :: rest) M = (rest.length ≤ 4 ∧ pcl p = 7 ∧ cs j [.ref p, b1, b2, b3, b4] M (fun v M' => K (pc + 3) L (rr r v rest) M')) := vcV_5 (ci := 7)
theorem vcV_6 {j r p ci : Nat} {b1 b2 b3 b4 b5 : Value} {rest : List Value} : vcV (some (j, 6, r, 10 + ci)) cs K pc L (b5 :: b4 :: b3 :: b2 :: b1 :: .ref p :: rest) M = (rest.length ≤ 4 ∧ pcl p = ci ∧ cs j [.ref p, b1, b2, b3, b4, b5] M (fun v M' => K (pc + 3) L (rr r v rest) M')) := by
  show (10 ≤ 10 + ci ∧ rest.length ≤ 4 ∧ (6 = 6 ∧ pcl p = 10 + ci - 10 ∧ cs j [.ref p, b1, b2, b3, b4, b5] M (fun v M' => K (pc + 3) L (rr r v rest) M'))) = _
  simp [Nat.add_sub_cancel_left]
theorem vcV_6_0 {j r p : Nat} {b1 b2 b3 b4 b5 : Value} {rest : List Value} : vcV (some (j, 6, r, 10)) cs K pc L (b5 :: b4 :: b3 :: b2 :: b1 :: .ref p :: rest) M = (rest.length ≤ 4 ∧ pcl p = 0 ∧ cs j [.ref p, b1, b2, b3, b4, b5] M (fun v M' => K (pc + 3) L (rr r v rest) M')) := vcV_6 (ci := 0)
theorem vcV_6_1 {j r p : Nat} {b1 b2 b3 b4 b5 : Value} {rest : List Value} : vcV (some (j, 6, r, 11)) cs K pc L (b5 :: b4 :: b3 :: b2 :: b1 :: .ref p :: rest) M = (rest.length ≤ 4 ∧ pcl p = 1 ∧ cs j [.ref p, b1, b2, b3, b4, b5] M (fun v M' => K (pc + 3) L (rr r v rest) M')) := vcV_6 (ci := 1)
theorem vcV_6_2 {j r p : Nat} {b1 b2 b3 b4 b5 : Value} {rest : List Value} : vcV (some (j, 6, r, 12)) cs K pc L (b5 :: b4 :: b3 :: b2 :: b1 :: .ref p :: rest) M = (rest.length ≤ 4 ∧ pcl p = 2 ∧ cs j [.ref p, b1, b2, b3, b4, b5] M (fun v M' => K (pc + 3) L (rr r v rest) M')) := vcV_6 (ci := 2)
theorem vcV_6_3 {j r p : Nat} {b1 b2 b3 b4 b5 : Value} {rest : List Value} : vcV (some (j, 6, r, 13)) cs K pc L (b5 :: b4 :: b3 :: b2 :: b1 :: .ref p :: rest) M = (rest.length ≤ 4 ∧ pcl p = 3 ∧ cs j [.ref p, b1, b2, b3, b4, b5] M (fun v M' => K (pc + 3) L (rr r v rest) M')) := vcV_6 (ci := 3)
theorem vcV_6_4 {j r p : Nat} {b1 b2 b3 b4 b5 : Value} {rest : List Value} : vcV (some (j, 6, r, 14)) cs K pc L (b5 :: b4 :: b3 :: b2 :: b1 :: .ref p :: rest) M = (rest.length ≤ 4 ∧ pcl p = 4 ∧ cs j [.ref p, b1, b2, b3, b4, b5] M (fun v M' => K (pc + 3) L (rr r v rest) M')) := vcV_6 (ci := 4)
theorem vcV_6_5 {j r p : Nat} {b1 b2 b3 b4 b5 : Value} {rest : List Value} : vcV (some (j, 6, r, 15)) cs K pc L (b5 :: b4 :: b3 :: b2 :: b1 :: .ref p :: rest) M = (rest.length ≤ 4 ∧ pcl p = 5 ∧ cs j [.ref p, b1, b2, b3, b4, b5] M (fun v M' => K (pc + 3) L (rr r v rest) M')) := vcV_6 (ci := 5)
theorem vcV_6_6 {j r p : Nat} {b1 b2 b3 b4 b5 : Value} {rest : List Value} : vcV (some (j, 6, r, 16)) cs K pc L (b5 :: b4 :: b3 :: b2 :: b1 :: .ref p :: rest) M = (rest.length ≤ 4 ∧ pcl p = 6 ∧ cs j [.ref p, b1, b2, b3, b4, b5] M (fun v M' => K (pc + 3) L (rr r v rest) M')) := vcV_6 (ci := 6)
theorem vcV_6_7 {j r p : Nat} {b1 b2 b3 b4 b5 : Value} {rest : List Value} : vcV (some (j, 6, r, 17)) cs K pc L (b5 :: b4 :: b3 :: b2 :: b1 :: .ref p :: rest) M = (rest.length ≤ 4 ∧ pcl p = 7 ∧ cs j [.ref p, b1, b2, b3, b4, b5] M (fun v M' => K (pc + 3) L (rr r v rest) M')) := vcV_6 (ci := 7)
theorem vcS_0_1 {j r : Nat} {rest : List Value} : vcS (some (j, 0, r, 1)) cs K pc L (rest) M = (rest.length ≤ 4 ∧ cs j [] M (fun v M' => K (pc + 3) L (rr r v rest) M')) := by
  show ((1 = 1 ∨ 1 = 2) ∧ (0 = 0) ∧ rest.length ≤ 4 ∧ cs j [] M (fun v M' => K (pc + 3) L (rr r v rest) M')) = _
  simp
theorem vcS_0_2 {j r : Nat} {rest : List Value} : vcS (some (j, 0, r, 2)) cs K pc L (rest) M = (rest.length ≤ 4 ∧ cs j [] M (fun v M' => K (pc + 3) L (rr r v rest) M')) := by
  show ((2 = 1 ∨ 2 = 2) ∧ (0 = 0) ∧ rest.length ≤ 4 ∧ cs j [] M (fun v M' => K (pc + 3) L (rr r v rest) M')) = _
  simp
theorem vcS_1_1 {j r : Nat} {b1 : Value} {rest : List Value} : vcS (some (j, 1, r, 1)) cs K pc L (b1 :: rest) M = (rest.length ≤ 4 ∧ cs j [b1] M (fun v M' => K (pc + 3) L (rr r v rest) M')) := by
  show ((1 = 1 ∨ 1 = 2) ∧ (1 = 1) ∧ rest.length ≤ 4 ∧ cs j [b1] M (fun v M' => K (pc + 3) L (rr r v rest) M')) = _
  simp
theorem vcS_1_2 {j r : Nat} {b1 : Value} {rest : List Value} : vcS (some (j, 1, r, 2)) cs K pc L (b1 :: rest) M = (rest.length ≤ 4 ∧ cs j [b1] M (fun v M' => K (pc + 3) L (rr r v rest) M')) := by
  show ((2 = 1 ∨ 2 = 2) ∧ (1 = 1) ∧ rest.length ≤ 4 ∧ cs j [b1] M (fun v M' => K (pc + 3) L (rr r v rest) M')) = _
  simp
theorem vcS_2_1 {j r : Nat} {b1 b2 : Value} {rest : List Value} : vcS (some (j, 2, r, 1)) cs K pc L (b2 :: b1 :: rest) M = (rest.length ≤ 4 ∧ cs j [b1, b2] M (fun v M' => K (pc + 3) L (rr r v rest) M')) := by
  show ((1 = 1 ∨ 1 = 2) ∧ (2 = 2) ∧ rest.length ≤ 4 ∧ cs j [b1, b2] M (fun v M' => K (pc + 3) L (rr r v rest) M')) = _
  simp
theorem vcS_2_2 {j r : Nat} {b1 b2 : Value} {rest : List Value} : vcS (some (j, 2, r, 2)) cs K pc L (b2 :: b1 :: rest) M = (rest.length ≤ 4 ∧ cs j [b1, b2] M (fun v M' => K (pc + 3) L (rr r v rest) M')) := by
  show ((2 = 1 ∨ 2 = 2) ∧ (2 = 2) ∧ rest.length ≤ 4 ∧ cs j [b1, b2] M (fun v M' => K (pc + 3) L (rr r v rest) M')) = _
  simp
theorem vcS_3_1 {j r : Nat} {b1 b2 b3 : Value} {rest : List Value} : vcS (some (j, 3, r, 1)) cs K pc L (b3 :: b2 :: b1 :: rest) M = (rest.length ≤ 4 ∧ cs j [b1, b2, b3] M (fun v M' => K (pc + 3) L (rr r v rest) M')) := by
  show ((1 = 1 ∨ 1 = 2) ∧ (3 = 3) ∧ rest.length ≤ 4 ∧ cs j [b1, b2, b3] M (fun v M' => K (pc + 3) L (rr r v rest) M')) = _
  simp
theorem vcS_3_2 {j r : Nat} {b1 b2 b3 : Value} {rest : List Value} : vcS (some (j, 3, r, 2)) cs K pc L (b3 :: b2 :: b1 :: rest) M = (rest.length ≤ 4 ∧ cs j [b1, b2, b3] M (fun v M' => K (pc + 3) L (rr r v rest) M')) := by
  show ((2 = 1 ∨ 2 = 2) ∧ (3 = 3) ∧ rest.length ≤ 4 ∧ cs j [b1, b2, b3] M (fun v M' => K (pc + 3) L (rr r v rest) M')) = _
  simp
theorem vcS_4_1 {j r : Nat} {b1 b2 b3 b4 : Value} {rest : List Value} : vcS (some (j, 4, r, 1)) cs K pc L (b4 :: b3 :: b2 :: b1 :: rest) M = (rest.length ≤ 4 ∧ cs j [b1, b2, b3, b4] M (fun v M' => K (pc + 3) L (rr r v rest) M')) := by
  show ((1 = 1 ∨ 1 = 2) ∧ (4 = 4) ∧ rest.length ≤ 4 ∧ cs j [b1, b2, b3, b4] M (fun v M' => K (pc + 3) L (rr r v rest) M')) = _
  simp
theorem vcS_4_2 {j r : Nat} {b1 b2 b3 b4 : Value} {rest : List Value} : vcS (some (j, 4, r, 2)) cs K pc L (b4 :: b3 :: b2 :: b1 :: rest) M = (rest.length ≤ 4 ∧ cs j [b1, b2, b3, b4] M (fun v M' => K (pc + 3) L (rr r v rest) M')) := by
  show ((2 = 1 ∨ 2 = 2) ∧ (4 = 4) ∧ rest.length ≤ 4 ∧ cs j [b1, b2, b3, b4] M (fun v M' => K (pc + 3) L (rr r v rest) M')) = _
  simp
theorem vcS_5_1 {j r : Nat} {b1 b2 b3 b4 b5 : Value} {rest : List Value} : vcS (some (j, 5, r, 1)) cs K pc L (b5 :: b4 :: b3 :: b2 :: b1 :: rest) M = (rest.length ≤ 4 ∧ cs j [b1, b2, b3, b4, b5] M (fun v M' => K (pc + 3) L (rr r v rest) M')) := by
  show ((1 = 1 ∨ 1 = 2) ∧ (5 = 5) ∧ rest.length ≤ 4 ∧ cs j [b1, b2, b3, b4, b5] M (fun v M' => K (pc + 3) L (rr r v rest) M')) = _
  simp
theorem vcS_5_2 {j r : Nat} {b1 b2 b3 b4 b5 : Value} {rest : List Value} : vcS (some (j, 5, r, 2)) cs K pc L (b5 :: b4 :: b3 :: b2 :: b1 :: rest) M = (rest.length ≤ 4 ∧ cs j [b1, b2, b3, b4, b5] M (fun v M' => K (pc + 3) L (rr r v rest) M')) := by
  show ((2 = 1 ∨ 2 = 2) ∧ (5 = 5) ∧ rest.length ≤ 4 ∧ cs j [b1, b2, b3, b4, b5] M (fun v M' => K (pc + 3) L (rr r v rest) M')) = _
  simp
theorem vcS_cp {j n r p q : Nat} {sp dp k : Int32} {rest : List Value} : vcS (some (j, n, r, 5)) cs K pc L (.int k :: .int dp :: .ref q :: .int sp :: .ref p :: rest) M = ((rest.length ≤ 4 ∧ 0 ≤ sp.toInt ∧ 0 ≤ dp.toInt ∧ 0 ≤ k.toInt ∧ sp.toInt + k.toInt ≤ al p ∧ dp.toInt + k.toInt ≤ al q ∧ 0 < al p ∧ 0 < al q) ∧ K (pc + 3) L rest (mrow M q (va_cpy (M p) (M q) sp.toNatClampNeg dp.toNatClampNeg k.toNatClampNeg))) := rfl
theorem vcS_max {j n r : Nat} {x y : Int32} {rest : List Value} : vcS (some (j, n, r, 6)) cs K pc L (.int y :: .int x :: rest) M = (rest.length ≤ 4 ∧ K (pc + 3) L (.int (if x < y then y else x) :: rest) M) := rfl
theorem vcS_min {j n r : Nat} {x y : Int32} {rest : List Value} : vcS (some (j, n, r, 7)) cs K pc L (.int y :: .int x :: rest) M = (rest.length ≤ 4 ∧ K (pc + 3) L (.int (if y < x then y else x) :: rest) M) := rfl
theorem vcS_abs {j n r : Nat} {x : Int32} {rest : List Value} : vcS (some (j, n, r, 8)) cs K pc L (.int x :: rest) M = (rest.length ≤ 4 ∧ K (pc + 3) L (.int (if 0 ≤ x then x else 0 - x) :: rest) M) := rfl
end Eqs
theorem csT_h {d j : Nat} {f : PF} {T : List (Nat × PF)} {args : List Value} {M : Mem} {k : Value → Mem → Prop} : csT d ((j, f) :: T) j args M k = f args M k := by
  unfold csT
  simp
theorem csT_t {d i j : Nat} {f : PF} {T : List (Nat × PF)} {args : List Value} {M : Mem} {k : Value → Mem → Prop} (h : (j == i) = false) : csT d ((i, f) :: T) j args M k = csT d T j args M k := by
  unfold csT
  rw [List.lookup_cons, h]
theorem csT_n {d j : Nat} {args : List Value} {M : Mem} {k : Value → Mem → Prop} : csT d [] j args M k = CallP d j args M k := rfl
theorem cat_i {x : Int32} : (Value.int x).category = 1 := rfl
theorem cat_l {x : Int64} : (Value.long x).category = 2 := rfl
theorem cat_r {x : Nat} : (Value.ref x).category = 1 := rfl
theorem cat_u {x : Nat} : (Value.retAddr x).category = 1 := rfl
/-- a truth as an int -/
def bI (c : Prop) [Decidable c] : Int32 := if c then 1 else 0
theorem bI_0 {c : Prop} [Decidable c] : (bI c = 0) = ¬ c := by
  unfold bI
  by_cases h : c <;> simp [h]
theorem bI_1 {c : Prop} [Decidable c] : (bI c = 1) = c := by
  unfold bI
  by_cases h : c <;> simp [h]
theorem bI_z {c : Prop} [Decidable c] : (bI c = 0 ∨ bI c = 1) = True := by
  unfold bI
  by_cases h : c <;> simp [h]
theorem bI_t {c : Prop} [Decidable c] (h : c) : bI c = 1 := if_pos h
theorem bI_f {c : Prop} [Decidable c] (h : ¬ c) : bI c = 0 := if_neg h
theorem mrow_s {M : Mem} {p : Nat} {f : Nat → Int32} : mrow M p f p = f := if_pos rfl
theorem mrow_n {M : Mem} {p q : Nat} {f : Nat → Int32} (h : (q == p) = false) : mrow M p f q = M q := if_neg (by simpa using h)
theorem mset_s {M : Mem} {p i : Nat} {v : Int32} : mset M p i v p = upd (M p) i v := if_pos rfl
theorem mset_n {M : Mem} {p q i : Nat} {v : Int32} (h : (q == p) = false) : mset M p i v q = M q := if_neg (by simpa using h)
theorem upd_s {f : Nat → Int32} {k : Nat} {x : Int32} : upd f k x k = x := if_pos rfl
theorem upd_n {f : Nat → Int32} {k j : Nat} {x : Int32} (h : (j == k) = false) : upd f k x j = f j := if_neg (by simpa using h)
theorem pcl_0 : pcl 0 = 5 := by decide +kernel
theorem gf_5_0_0 : gf 5 0 0 = some (some 1) := by decide +kernel
theorem gf_5_1_0 : gf 5 1 0 = some (some 8) := by decide +kernel
theorem gf_5_2_0 : gf 5 2 0 = some (some 15) := by decide +kernel
theorem gf_5_3_0 : gf 5 3 0 = some (some 22) := by decide +kernel
theorem gf_5_4_0 : gf 5 4 0 = some (some 24) := by decide +kernel
theorem gf_5_5_0 : gf 5 5 0 = some (some 25) := by decide +kernel
theorem gf_5_6_0 : gf 5 6 0 = some (some 44) := by decide +kernel
theorem gf_5_7_0 : gf 5 7 0 = some (some 50) := by decide +kernel
theorem gf_5_8_0 : gf 5 8 0 = some (some 58) := by decide +kernel
theorem gf_5_9_0 : gf 5 9 0 = some none := by decide +kernel
theorem pcl_1 : pcl 1 = 0 := by decide +kernel
theorem gf_0_0_1 : gf 0 0 1 = some (some 2) := by decide +kernel
theorem gf_0_1_1 : gf 0 1 1 = some (some 3) := by decide +kernel
theorem gf_0_2_1 : gf 0 2 1 = some (some 4) := by decide +kernel
theorem gf_0_3_1 : gf 0 3 1 = some (some 5) := by decide +kernel
theorem gf_0_4_1 : gf 0 4 1 = some (some 6) := by decide +kernel
theorem gf_0_5_1 : gf 0 5 1 = some (some 7) := by decide +kernel
theorem gf_0_6_1 : gf 0 6 1 = some none := by decide +kernel
theorem gf_0_7_1 : gf 0 7 1 = some none := by decide +kernel
theorem gf_0_8_1 : gf 0 8 1 = some none := by decide +kernel
theorem gf_0_9_1 : gf 0 9 1 = some none := by decide +kernel
theorem al_2 : al 2 = 12 := by decide +kernel
theorem al_3 : al 3 = 6 := by decide +kernel
theorem al_4 : al 4 = 6 := by decide +kernel
theorem al_5 : al 5 = 6 := by decide +kernel
theorem al_6 : al 6 = 6 := by decide +kernel
theorem al_7 : al 7 = 10 := by decide +kernel
theorem pcl_8 : pcl 8 = 0 := by decide +kernel
theorem gf_0_0_8 : gf 0 0 8 = some (some 9) := by decide +kernel
theorem gf_0_1_8 : gf 0 1 8 = some (some 10) := by decide +kernel
theorem gf_0_2_8 : gf 0 2 8 = some (some 11) := by decide +kernel
theorem gf_0_3_8 : gf 0 3 8 = some (some 12) := by decide +kernel
theorem gf_0_4_8 : gf 0 4 8 = some (some 13) := by decide +kernel
theorem gf_0_5_8 : gf 0 5 8 = some (some 14) := by decide +kernel
theorem gf_0_6_8 : gf 0 6 8 = some none := by decide +kernel
theorem gf_0_7_8 : gf 0 7 8 = some none := by decide +kernel
theorem gf_0_8_8 : gf 0 8 8 = some none := by decide +kernel
theorem gf_0_9_8 : gf 0 9 8 = some none := by decide +kernel
theorem al_9 : al 9 = 12 := by decide +kernel
theorem al_10 : al 10 = 6 := by decide +kernel
theorem al_11 : al 11 = 6 := by decide +kernel
theorem al_12 : al 12 = 6 := by decide +kernel
theorem al_13 : al 13 = 6 := by decide +kernel
theorem al_14 : al 14 = 10 := by decide +kernel
theorem pcl_15 : pcl 15 = 0 := by decide +kernel
theorem gf_0_0_15 : gf 0 0 15 = some (some 16) := by decide +kernel
theorem gf_0_1_15 : gf 0 1 15 = some (some 17) := by decide +kernel
theorem gf_0_2_15 : gf 0 2 15 = some (some 18) := by decide +kernel
theorem gf_0_3_15 : gf 0 3 15 = some (some 19) := by decide +kernel
theorem gf_0_4_15 : gf 0 4 15 = some (some 20) := by decide +kernel
theorem gf_0_5_15 : gf 0 5 15 = some (some 21) := by decide +kernel
theorem gf_0_6_15 : gf 0 6 15 = some none := by decide +kernel
theorem gf_0_7_15 : gf 0 7 15 = some none := by decide +kernel
theorem gf_0_8_15 : gf 0 8 15 = some none := by decide +kernel
theorem gf_0_9_15 : gf 0 9 15 = some none := by decide +kernel
theorem al_16 : al 16 = 12 := by decide +kernel
theorem al_17 : al 17 = 6 := by decide +kernel
theorem al_18 : al 18 = 6 := by decide +kernel
theorem al_19 : al 19 = 6 := by decide +kernel
theorem al_20 : al 20 = 6 := by decide +kernel
theorem al_21 : al 21 = 10 := by decide +kernel
theorem pcl_22 : pcl 22 = 4 := by decide +kernel
theorem gf_4_0_22 : gf 4 0 22 = some (some 23) := by decide +kernel
theorem gf_4_1_22 : gf 4 1 22 = some none := by decide +kernel
theorem gf_4_2_22 : gf 4 2 22 = some none := by decide +kernel
theorem gf_4_3_22 : gf 4 3 22 = some none := by decide +kernel
theorem gf_4_4_22 : gf 4 4 22 = some none := by decide +kernel
theorem al_23 : al 23 = 12 := by decide +kernel
theorem al_24 : al 24 = 12 := by decide +kernel
theorem pcl_25 : pcl 25 = 1 := by decide +kernel
theorem gf_1_0_25 : gf 1 0 25 = some (some 26) := by decide +kernel
theorem gf_1_1_25 : gf 1 1 25 = some (some 33) := by decide +kernel
theorem gf_1_2_25 : gf 1 2 25 = some (some 35) := by decide +kernel
theorem gf_1_3_25 : gf 1 3 25 = some (some 43) := by decide +kernel
theorem pcl_26 : pcl 26 = 0 := by decide +kernel
theorem gf_0_0_26 : gf 0 0 26 = some (some 27) := by decide +kernel
theorem gf_0_1_26 : gf 0 1 26 = some (some 28) := by decide +kernel
theorem gf_0_2_26 : gf 0 2 26 = some (some 29) := by decide +kernel
theorem gf_0_3_26 : gf 0 3 26 = some (some 30) := by decide +kernel
theorem gf_0_4_26 : gf 0 4 26 = some (some 31) := by decide +kernel
theorem gf_0_5_26 : gf 0 5 26 = some (some 32) := by decide +kernel
theorem gf_0_6_26 : gf 0 6 26 = some none := by decide +kernel
theorem gf_0_7_26 : gf 0 7 26 = some none := by decide +kernel
theorem gf_0_8_26 : gf 0 8 26 = some none := by decide +kernel
theorem gf_0_9_26 : gf 0 9 26 = some none := by decide +kernel
theorem al_27 : al 27 = 12 := by decide +kernel
theorem al_28 : al 28 = 6 := by decide +kernel
theorem al_29 : al 29 = 6 := by decide +kernel
theorem al_30 : al 30 = 6 := by decide +kernel
theorem al_31 : al 31 = 6 := by decide +kernel
theorem al_32 : al 32 = 10 := by decide +kernel
theorem pcl_33 : pcl 33 = 4 := by decide +kernel
theorem gf_4_0_33 : gf 4 0 33 = some (some 34) := by decide +kernel
theorem gf_4_1_33 : gf 4 1 33 = some none := by decide +kernel
theorem gf_4_2_33 : gf 4 2 33 = some none := by decide +kernel
theorem gf_4_3_33 : gf 4 3 33 = some none := by decide +kernel
theorem gf_4_4_33 : gf 4 4 33 = some none := by decide +kernel
theorem al_34 : al 34 = 12 := by decide +kernel
theorem al_36 : al 36 = 12 := by decide +kernel
theorem al_37 : al 37 = 12 := by decide +kernel
theorem al_38 : al 38 = 12 := by decide +kernel
theorem al_39 : al 39 = 12 := by decide +kernel
theorem al_40 : al 40 = 12 := by decide +kernel
theorem al_41 : al 41 = 12 := by decide +kernel
theorem al_42 : al 42 = 12 := by decide +kernel
theorem al_43 : al 43 = 6 := by decide +kernel
theorem pcl_44 : pcl 44 = 2 := by decide +kernel
theorem gf_2_0_44 : gf 2 0 44 = some (some 45) := by decide +kernel
theorem gf_2_1_44 : gf 2 1 44 = some none := by decide +kernel
theorem gf_2_2_44 : gf 2 2 44 = some (some 46) := by decide +kernel
theorem gf_2_3_44 : gf 2 3 44 = some (some 47) := by decide +kernel
theorem gf_2_4_44 : gf 2 4 44 = some (some 48) := by decide +kernel
theorem gf_2_5_44 : gf 2 5 44 = some (some 49) := by decide +kernel
theorem gf_2_6_44 : gf 2 6 44 = some none := by decide +kernel
theorem gf_2_7_44 : gf 2 7 44 = some none := by decide +kernel
theorem gf_2_8_44 : gf 2 8 44 = some none := by decide +kernel
theorem gf_2_9_44 : gf 2 9 44 = some none := by decide +kernel
theorem al_45 : al 45 = 120 := by decide +kernel
theorem al_46 : al 46 = 121 := by decide +kernel
theorem al_47 : al 47 = 121 := by decide +kernel
theorem al_48 : al 48 = 121 := by decide +kernel
theorem al_49 : al 49 = 121 := by decide +kernel
theorem pcl_50 : pcl 50 = 3 := by decide +kernel
theorem gf_3_0_50 : gf 3 0 50 = some (some 51) := by decide +kernel
theorem gf_3_1_50 : gf 3 1 50 = some (some 56) := by decide +kernel
theorem gf_3_2_50 : gf 3 2 50 = some (some 57) := by decide +kernel
theorem al_52 : al 52 = 40 := by decide +kernel
theorem al_53 : al 53 = 40 := by decide +kernel
theorem al_54 : al 54 = 40 := by decide +kernel
theorem al_55 : al 55 = 40 := by decide +kernel
theorem al_56 : al 56 = 4 := by decide +kernel
theorem al_57 : al 57 = 4 := by decide +kernel
theorem al_58 : al 58 = 7 := by decide +kernel
theorem pcl_59 : pcl 59 = 6 := by decide +kernel
theorem gf_6_0_59 : gf 6 0 59 = some (some 60) := by decide +kernel
theorem gf_6_1_59 : gf 6 1 59 = some (some 61) := by decide +kernel
theorem gf_6_2_59 : gf 6 2 59 = some (some 62) := by decide +kernel
theorem gf_6_3_59 : gf 6 3 59 = some none := by decide +kernel
theorem gf_6_4_59 : gf 6 4 59 = some (some 63) := by decide +kernel
theorem gf_6_5_59 : gf 6 5 59 = some (some 64) := by decide +kernel
theorem gf_6_6_59 : gf 6 6 59 = some (some 65) := by decide +kernel
theorem gf_6_7_59 : gf 6 7 59 = some (some 66) := by decide +kernel
theorem gf_6_8_59 : gf 6 8 59 = some none := by decide +kernel
theorem gf_6_9_59 : gf 6 9 59 = some none := by decide +kernel
theorem gf_6_10_59 : gf 6 10 59 = some none := by decide +kernel
theorem gf_6_11_59 : gf 6 11 59 = some (some 67) := by decide +kernel
theorem gf_6_12_59 : gf 6 12 59 = some none := by decide +kernel
theorem gf_6_13_59 : gf 6 13 59 = some none := by decide +kernel
theorem gf_6_14_59 : gf 6 14 59 = some none := by decide +kernel
theorem gf_6_15_59 : gf 6 15 59 = some none := by decide +kernel
theorem gf_6_16_59 : gf 6 16 59 = some none := by decide +kernel
theorem gf_6_17_59 : gf 6 17 59 = some none := by decide +kernel
theorem gf_6_18_59 : gf 6 18 59 = some (some 68) := by decide +kernel
theorem gf_6_19_59 : gf 6 19 59 = some (some 69) := by decide +kernel
theorem gf_6_20_59 : gf 6 20 59 = some none := by decide +kernel
theorem gf_6_21_59 : gf 6 21 59 = some none := by decide +kernel
theorem gf_6_22_59 : gf 6 22 59 = some (some 70) := by decide +kernel
theorem gf_6_23_59 : gf 6 23 59 = some (some 71) := by decide +kernel
theorem gf_6_24_59 : gf 6 24 59 = some (some 72) := by decide +kernel
theorem gf_6_25_59 : gf 6 25 59 = some (some 73) := by decide +kernel
theorem al_60 : al 60 = 50 := by decide +kernel
theorem al_61 : al 61 = 50 := by decide +kernel
theorem al_62 : al 62 = 50 := by decide +kernel
theorem al_63 : al 63 = 8 := by decide +kernel
theorem al_64 : al 64 = 350 := by decide +kernel
theorem al_65 : al 65 = 6 := by decide +kernel
theorem al_66 : al 66 = 6 := by decide +kernel
theorem al_67 : al 67 = 120 := by decide +kernel
theorem al_69 : al 69 = 360 := by decide +kernel
theorem al_70 : al 70 = 4 := by decide +kernel
theorem al_71 : al 71 = 4 := by decide +kernel
theorem al_72 : al 72 = 160 := by decide +kernel
theorem al_73 : al 73 = 40 := by decide +kernel
theorem pcl_100 : pcl 100 = 7 := by decide +kernel
theorem pcl_101 : pcl 101 = 7 := by decide +kernel
theorem pcl_102 : pcl 102 = 7 := by decide +kernel
theorem pcl_103 : pcl 103 = 7 := by decide +kernel
theorem pcl_104 : pcl 104 = 7 := by decide +kernel
theorem pcl_105 : pcl 105 = 7 := by decide +kernel
theorem pcl_106 : pcl 106 = 7 := by decide +kernel
theorem pcl_107 : pcl 107 = 7 := by decide +kernel
theorem pcl_108 : pcl 108 = 7 := by decide +kernel
theorem pcl_109 : pcl 109 = 7 := by decide +kernel
theorem pcl_110 : pcl 110 = 7 := by decide +kernel
theorem pcl_111 : pcl 111 = 7 := by decide +kernel
theorem pcl_112 : pcl 112 = 7 := by decide +kernel
theorem pft_5_9 : pft 5 9 = 1 := by decide +kernel
theorem pft_0_6 : pft 0 6 = 0 := by decide +kernel
theorem pft_0_7 : pft 0 7 = 0 := by decide +kernel
theorem pft_0_8 : pft 0 8 = 0 := by decide +kernel
theorem pft_0_9 : pft 0 9 = 0 := by decide +kernel
theorem pft_4_1 : pft 4 1 = 0 := by decide +kernel
theorem pft_4_2 : pft 4 2 = 0 := by decide +kernel
theorem pft_4_3 : pft 4 3 = 0 := by decide +kernel
theorem pft_4_4 : pft 4 4 = 0 := by decide +kernel
theorem pft_2_1 : pft 2 1 = 0 := by decide +kernel
theorem pft_2_6 : pft 2 6 = 0 := by decide +kernel
theorem pft_2_7 : pft 2 7 = 0 := by decide +kernel
theorem pft_2_8 : pft 2 8 = 0 := by decide +kernel
theorem pft_2_9 : pft 2 9 = 0 := by decide +kernel
theorem pft_6_3 : pft 6 3 = 1 := by decide +kernel
theorem pft_6_8 : pft 6 8 = 0 := by decide +kernel
theorem pft_6_9 : pft 6 9 = 0 := by decide +kernel
theorem pft_6_10 : pft 6 10 = 0 := by decide +kernel
theorem pft_6_12 : pft 6 12 = 0 := by decide +kernel
theorem pft_6_13 : pft 6 13 = 0 := by decide +kernel
theorem pft_6_14 : pft 6 14 = 0 := by decide +kernel
theorem pft_6_15 : pft 6 15 = 0 := by decide +kernel
theorem pft_6_16 : pft 6 16 = 0 := by decide +kernel
theorem pft_6_17 : pft 6 17 = 1 := by decide +kernel
theorem pft_6_20 : pft 6 20 = 0 := by decide +kernel
theorem pft_6_21 : pft 6 21 = 0 := by decide +kernel
theorem ra_35 : ra 35 = some (36, 7) := rfl
theorem ra_51 : ra 51 = some (52, 4) := rfl
theorem ra_68 : ra 68 = some (100, 7) := rfl
theorem gs_1 : gsI.1 = 1 := rfl
theorem gs_2 : gsI.2 = 18 := rfl
theorem mI_0 : mI 0 = (0, yX0_init, cX0_init, 2, none) := rfl
theorem mI_1 : mI 1 = (0, yX0_become, cX0_become, 2, none) := rfl
theorem mI_2 : mI 2 = (0, yX0_has, cX0_has, 2, (some .boolean)) := rfl
theorem mI_3 : mI 3 = (0, yX0_hasAll, cX0_hasAll, 2, (some .boolean)) := rfl
theorem mI_4 : mI 4 = (0, yX0_isFull, cX0_isFull, 1, (some .boolean)) := rfl
theorem mI_5 : mI 5 = (0, yX0_add, cX0_add, 4, (some .int)) := rfl
theorem mI_6 : mI 6 = (0, yX0_bears, cX0_bears, 2, (some .int)) := rfl
theorem mI_7 : mI 7 = (0, yX0_unfit, cX0_unfit, 5, (some .int)) := rfl
theorem mI_8 : mI 8 = (0, yX0_draw, cX0_draw, 1, (some .int)) := rfl
theorem mI_9 : mI 9 = (0, yX0_heldSpots, cX0_heldSpots, 3, (some .int)) := rfl
theorem mI_10 : mI 10 = (1, yX1_bears, cX1_bears, 3, (some .int)) := rfl
theorem mI_11 : mI 11 = (1, yX1_sway, cX1_sway, 4, (some .int)) := rfl
theorem mI_12 : mI 12 = (1, yX1_footprint, cX1_footprint, 3, (some .int)) := rfl
theorem mI_13 : mI 13 = (1, yX1_isUnder, cX1_isUnder, 4, (some .boolean)) := rfl
theorem mI_14 : mI 14 = (2, yX2_init, cX2_init, 1, none) := rfl
theorem mI_15 : mI 15 = (2, yX2_findOrder, cX2_findOrder, 3, (some .boolean)) := rfl
theorem mI_16 : mI 16 = (2, yX2_countOrders, cX2_countOrders, 3, (some .int)) := rfl
theorem mI_17 : mI 17 = (2, yX2_countFalls, cX2_countFalls, 3, (some .int)) := rfl
theorem mI_18 : mI 18 = (2, yX2_findGreatest, cX2_findGreatest, 2, (some .int)) := rfl
theorem mI_19 : mI 19 = (2, yX2_placed, cX2_placed, 2, (some .int)) := rfl
theorem mI_20 : mI 20 = (2, yX2_begin, cX2_begin, 2, none) := rfl
theorem mI_21 : mI 21 = (2, yX2_crosses, cX2_crosses, 3, (some .boolean)) := rfl
theorem mI_22 : mI 22 = (2, yX2_findFirst, cX2_findFirst, 4, (some .boolean)) := rfl
theorem mI_23 : mI 23 = (2, yX2_countSafe, cX2_countSafe, 5, (some .int)) := rfl
theorem mI_24 : mI 24 = (2, yX2_fewestFalls, cX2_fewestFalls, 6, (some .int)) := rfl
theorem mI_25 : mI 25 = (2, yX2_greatest, cX2_greatest, 7, (some .int)) := rfl
theorem mI_26 : mI 26 = (2, yX2_greater, cX2_greater, 3, (some .int)) := rfl
theorem mI_27 : mI 27 = (3, yX3_init, cX3_init, 1, none) := rfl
theorem mI_28 : mI 28 = (3, yX3_put, cX3_put, 2, none) := rfl
theorem mI_29 : mI 29 = (3, yX3_read, cX3_read, 3, (some .int)) := rfl
theorem mI_30 : mI 30 = (3, yX3_place, cX3_place, 1, (some .int)) := rfl
theorem mI_31 : mI 31 = (3, yX3_look, cX3_look, 3, none) := rfl
theorem mI_32 : mI 32 = (3, yX3_readItem, cX3_readItem, 2, (some .boolean)) := rfl
theorem mI_33 : mI 33 = (3, yX3_readWalker, cX3_readWalker, 5, (some .boolean)) := rfl
theorem mI_34 : mI 34 = (3, yX3_readPlank, cX3_readPlank, 3, (some .boolean)) := rfl
theorem mI_35 : mI 35 = (3, yX3_readNew, cX3_readNew, 2, (some .boolean)) := rfl
theorem mI_36 : mI 36 = (3, yX3_isWord, cX3_isWord, 2, (some .boolean)) := rfl
theorem mI_37 : mI 37 = (3, yX3_isNumber, cX3_isNumber, 2, (some .boolean)) := rfl
theorem mI_38 : mI 38 = (3, yX3_split, cX3_split, 5, none) := rfl
theorem mI_39 : mI 39 = (3, yX3_sortOf, cX3_sortOf, 1, (some .int)) := rfl
theorem mI_40 : mI 40 = (3, yX3_begin, cX3_begin, 3, none) := rfl
theorem mI_41 : mI 41 = (3, yX3_grow, cX3_grow, 3, none) := rfl
theorem mI_42 : mI 42 = (3, yX3_nameWords, cX3_nameWords, 2, none) := rfl
theorem mI_43 : mI 43 = (3, yX3_wordNumber, cX3_wordNumber, 3, (some .int)) := rfl
theorem mI_44 : mI 44 = (3, yX3_spells, cX3_spells, 5, (some .boolean)) := rfl
theorem mI_45 : mI 45 = (4, yX4_init, cX4_init, 1, none) := rfl
theorem mI_46 : mI 46 = (4, yX4_finding, cX4_finding, 2, (some .int)) := rfl
theorem mI_47 : mI 47 = (4, yX4_renew, cX4_renew, 5, none) := rfl
theorem mI_48 : mI 48 = (4, yX4_put, cX4_put, 4, none) := rfl
theorem mI_49 : mI 49 = (4, yX4_hasPart, cX4_hasPart, 4, (some .boolean)) := rfl
theorem mI_50 : mI 50 = (4, yX4_tells, cX4_tells, 4, (some .boolean)) := rfl
theorem mI_51 : mI 51 = (5, yX5_init, cX5_init, 1, none) := rfl
theorem mI_52 : mI 52 = (5, yX5_become, cX5_become, 3, none) := rfl
theorem mI_53 : mI 53 = (5, yX5_layRow, cX5_layRow, 3, none) := rfl
theorem mI_54 : mI 54 = (5, yX5_go, cX5_go, 6, (some .int)) := rfl
theorem mI_55 : mI 55 = (6, yX6_init, cX6_init, 1, none) := rfl
theorem mI_56 : mI 56 = (6, yX6_plank, cX6_plank, 4, (some .int)) := rfl
theorem mI_57 : mI 57 = (6, yX6_keeps, cX6_keeps, 2, (some .int)) := rfl
theorem mI_58 : mI 58 = (6, yX6_walker, cX6_walker, 3, (some .int)) := rfl
theorem mI_59 : mI 59 = (6, yX6_of, cX6_of, 3, (some .int)) := rfl
theorem mI_60 : mI 60 = (6, yX6_change, cX6_change, 4, (some .int)) := rfl
theorem mI_61 : mI 61 = (6, yX6_night, cX6_night, 3, (some .int)) := rfl
theorem mI_62 : mI 62 = (6, yX6_cross, cX6_cross, 2, (some .int)) := rfl
theorem mI_63 : mI 63 = (6, yX6_crowd, cX6_crowd, 4, (some .int)) := rfl
theorem mI_64 : mI 64 = (6, yX6_now, cX6_now, 2, (some .int)) := rfl
theorem mI_65 : mI 65 = (6, yX6_would, cX6_would, 2, (some .int)) := rfl
theorem mI_66 : mI 66 = (6, yX6_becomes, cX6_becomes, 2, (some .int)) := rfl
theorem mI_67 : mI 67 = (6, yX6_leaves, cX6_leaves, 3, (some .int)) := rfl
theorem mI_68 : mI 68 = (6, yX6_after, cX6_after, 3, (some .int)) := rfl
theorem mI_69 : mI 69 = (6, yX6_often, cX6_often, 3, (some .int)) := rfl
theorem mI_70 : mI 70 = (6, yX6_balanceFor, cX6_balanceFor, 3, (some .int)) := rfl
theorem mI_71 : mI 71 = (6, yX6_gaits, cX6_gaits, 4, (some .int)) := rfl
theorem mI_72 : mI 72 = (6, yX6_gaitFor, cX6_gaitFor, 3, (some .int)) := rfl
theorem mI_73 : mI 73 = (6, yX6_kindsFor, cX6_kindsFor, 4, (some .int)) := rfl
theorem mI_74 : mI 74 = (6, yX6_order, cX6_order, 3, (some .int)) := rfl
theorem mI_75 : mI 75 = (6, yX6_orders, cX6_orders, 2, (some .int)) := rfl
theorem mI_76 : mI 76 = (6, yX6_fewest, cX6_fewest, 2, (some .int)) := rfl
theorem mI_77 : mI 77 = (6, yX6_most, cX6_most, 1, (some .int)) := rfl
theorem mI_78 : mI 78 = (6, yX6_lay, cX6_lay, 4, (some .int)) := rfl
theorem mI_79 : mI 79 = (6, yX6_best, cX6_best, 6, (some .int)) := rfl
theorem mI_80 : mI 80 = (6, yX6_unlike, cX6_unlike, 3, (some .int)) := rfl
theorem mI_81 : mI 81 = (6, yX6_taken, cX6_taken, 6, (some .int)) := rfl
theorem mI_82 : mI 82 = (6, yX6_fits, cX6_fits, 6, (some .int)) := rfl
theorem mI_83 : mI 83 = (6, yX6_gait, cX6_gait, 5, (some .int)) := rfl
theorem mI_84 : mI 84 = (6, yX6_who, cX6_who, 5, (some .int)) := rfl
theorem mI_85 : mI 85 = (6, yX6_strangers, cX6_strangers, 5, (some .int)) := rfl
theorem mI_86 : mI 86 = (6, yX6_odds, cX6_odds, 6, (some .long)) := rfl
theorem mI_87 : mI 87 = (6, yX6_seed, cX6_seed, 3, (some .int)) := rfl
theorem mI_88 : mI 88 = (6, yX6_feed, cX6_feed, 4, (some .int)) := rfl
theorem mI_89 : mI 89 = (6, yX6_wipe, cX6_wipe, 2, (some .int)) := rfl
theorem mI_90 : mI 90 = (6, yX6_text, cX6_text, 2, (some .int)) := rfl
theorem mI_91 : mI 91 = (6, yX6_hold, cX6_hold, 3, (some .int)) := rfl
theorem mI_92 : mI 92 = (6, yX6_as, cX6_as, 4, (some .int)) := rfl
theorem mI_93 : mI 93 = (6, yX6_sheet, cX6_sheet, 4, (some .int)) := rfl
theorem mI_94 : mI 94 = (6, yX6_write, cX6_write, 5, (some .int)) := rfl
theorem mI_95 : mI 95 = (6, yX6_copy, cX6_copy, 6, (some .int)) := rfl
theorem mI_96 : mI 96 = (6, yX6_load, cX6_load, 4, (some .int)) := rfl
theorem mI_97 : mI 97 = (6, yX6_judge, cX6_judge, 6, (some .int)) := rfl
theorem mI_98 : mI 98 = (6, yX6_image, cX6_image, 1, (some .int)) := rfl
theorem mI_99 : mI 99 = (6, yX6_undo, cX6_undo, 1, (some .int)) := rfl
theorem mI_100 : mI 100 = (6, yX6_tear, cX6_tear, 2, (some .int)) := rfl
theorem mI_101 : mI 101 = (6, yX6_count, cX6_count, 2, (some .int)) := rfl
theorem mI_102 : mI 102 = (6, yX6_status, cX6_status, 2, (some .int)) := rfl
theorem mI_103 : mI 103 = (6, yX6_tell, cX6_tell, 3, (some .int)) := rfl
theorem mI_104 : mI 104 = (6, yX6_isPlank, cX6_isPlank, 1, (some .boolean)) := rfl
theorem mI_105 : mI 105 = (6, yX6_isGait, cX6_isGait, 1, (some .boolean)) := rfl
theorem mI_106 : mI 106 = (6, yX6_isKind, cX6_isKind, 1, (some .boolean)) := rfl
theorem mI_107 : mI 107 = (6, yX6_isSpot, cX6_isSpot, 1, (some .boolean)) := rfl
theorem mI_108 : mI 108 = (6, yX6_isSheet, cX6_isSheet, 1, (some .boolean)) := rfl
theorem mI_109 : mI 109 = (6, yX6_isIn, cX6_isIn, 2, (some .boolean)) := rfl
theorem mI_110 : mI 110 = (6, yX6_held, cX6_held, 1, (some .int)) := rfl
theorem mI_111 : mI 111 = (6, yX6_sum, cX6_sum, 4, (some .int)) := rfl
theorem mI_112 : mI 112 = (6, yX6_replace, cX6_replace, 4, (some .int)) := rfl
theorem mI_113 : mI 113 = (6, yX6_reallyCross, cX6_reallyCross, 3, (some .int)) := rfl
theorem mI_114 : mI 114 = (6, yX6_fallers, cX6_fallers, 3, (some .int)) := rfl
theorem mI_115 : mI 115 = (6, yX6_prepare, cX6_prepare, 2, none) := rfl
theorem mI_116 : mI 116 = (6, yX6_tryWalk, cX6_tryWalk, 2, (some .int)) := rfl
theorem mI_117 : mI 117 = (6, yX6_tryGait, cX6_tryGait, 3, (some .int)) := rfl
theorem mI_118 : mI 118 = (6, yX6_crossesLaid, cX6_crossesLaid, 4, (some .boolean)) := rfl
theorem mI_119 : mI 119 = (6, yX6_layMore, cX6_layMore, 7, (some .int)) := rfl
theorem mI_120 : mI 120 = (6, yX6_difference, cX6_difference, 5, (some .int)) := rfl
theorem mI_121 : mI 121 = (6, yX6_swayFinding, cX6_swayFinding, 4, (some .int)) := rfl
theorem mI_122 : mI 122 = (6, yX6_commonDivisor, cX6_commonDivisor, 6, (some .int)) := rfl
theorem mI_123 : mI 123 = (6, yX6_power, cX6_power, 6, (some .long)) := rfl
theorem mI_124 : mI 124 = (7, yX7_init, cX7_init, 2, none) := rfl
theorem mI_125 : mI 125 = (7, yX7_finding, cX7_finding, 2, (some .int)) := rfl
theorem mI_126 : mI 126 = (7, yX7_within, cX7_within, 3, (some .boolean)) := rfl
theorem mI_127 : mI 127 = (7, yX7_become, cX7_become, 4, (some .int)) := rfl
theorem mI_128 : mI 128 = (7, yX7_copyRow, cX7_copyRow, 3, none) := rfl
theorem mI_129 : mI 129 = (7, yX7_putBack, cX7_putBack, 2, (some .int)) := rfl
theorem mI_130 : mI 130 = (7, yX7_orNone, cX7_orNone, 2, (some .int)) := rfl
theorem mI_131 : mI 131 = (7, yX7_has, cX7_has, 2, (some .boolean)) := rfl
theorem mI_132 : mI 132 = (7, yX7_bits, cX7_bits, 3, (some .int)) := rfl
theorem mI_133 : mI 133 = (7, yX7_held, cX7_held, 1, (some .int)) := rfl
theorem mI_134 : mI 134 = (7, yX7_isPlank, cX7_isPlank, 1, (some .boolean)) := rfl
theorem mI_135 : mI 135 = (7, yX7_isGait, cX7_isGait, 1, (some .boolean)) := rfl
theorem mI_136 : mI 136 = (7, yX7_isWalker, cX7_isWalker, 2, (some .boolean)) := rfl
theorem mI_137 : mI 137 = (7, yX7_isKind, cX7_isKind, 1, (some .boolean)) := rfl
theorem mI_138 : mI 138 = (7, yX7_place, cX7_place, 2, (some .int)) := rfl
theorem mI_139 : mI 139 = (7, yX7_walkerIs, cX7_walkerIs, 3, (some .int)) := rfl
theorem mI_140 : mI 140 = (7, yX7_plank, cX7_plank, 3, (some .int)) := rfl
theorem mI_141 : mI 141 = (7, yX7_keeps, cX7_keeps, 2, (some .int)) := rfl
theorem mI_142 : mI 142 = (7, yX7_comes, cX7_comes, 5, (some .int)) := rfl
theorem mI_143 : mI 143 = (7, yX7_walker, cX7_walker, 3, (some .int)) := rfl
theorem mI_144 : mI 144 = (7, yX7_bears, cX7_bears, 4, (some .int)) := rfl
theorem mI_145 : mI 145 = (7, yX7_doesFall, cX7_doesFall, 3, (some .boolean)) := rfl
theorem mI_146 : mI 146 = (7, yX7_fallsOn, cX7_fallsOn, 4, (some .int)) := rfl
theorem mI_147 : mI 147 = (7, yX7_of, cX7_of, 3, (some .int)) := rfl
theorem mI_148 : mI 148 = (7, yX7_mayBe, cX7_mayBe, 2, (some .boolean)) := rfl
theorem mI_149 : mI 149 = (7, yX7_change, cX7_change, 4, (some .int)) := rfl
theorem mI_150 : mI 150 = (7, yX7_night, cX7_night, 2, (some .int)) := rfl
theorem mI_151 : mI 151 = (7, yX7_changedBy, cX7_changedBy, 4, (some .int)) := rfl
theorem mI_152 : mI 152 = (7, yX7_keptOf, cX7_keptOf, 3, (some .int)) := rfl
theorem mI_153 : mI 153 = (7, yX7_crosses, cX7_crosses, 7, (some .int)) := rfl
theorem mI_154 : mI 154 = (7, yX7_cross, cX7_cross, 2, (some .int)) := rfl
theorem mI_155 : mI 155 = (7, yX7_isSet, cX7_isSet, 2, (some .boolean)) := rfl
theorem mI_156 : mI 156 = (7, yX7_crowd, cX7_crowd, 4, (some .int)) := rfl
theorem mI_157 : mI 157 = (7, yX7_sumOf, cX7_sumOf, 4, (some .int)) := rfl
theorem mI_158 : mI 158 = (7, yX7_keptAll, cX7_keptAll, 3, (some .int)) := rfl
theorem mI_159 : mI 159 = (7, yX7_wouldCross, cX7_wouldCross, 2, (some .int)) := rfl
theorem mI_160 : mI 160 = (7, yX7_wouldFall, cX7_wouldFall, 3, (some .int)) := rfl
theorem mI_161 : mI 161 = (7, yX7_now, cX7_now, 2, (some .int)) := rfl
theorem mI_162 : mI 162 = (7, yX7_would, cX7_would, 2, (some .int)) := rfl
theorem mI_163 : mI 163 = (7, yX7_behind, cX7_behind, 4, (some .int)) := rfl
theorem mI_164 : mI 164 = (7, yX7_becomes, cX7_becomes, 2, (some .int)) := rfl
theorem mI_165 : mI 165 = (7, yX7_leaves, cX7_leaves, 3, (some .int)) := rfl
theorem mI_166 : mI 166 = (7, yX7_areTwo, cX7_areTwo, 3, (some .boolean)) := rfl
theorem mI_167 : mI 167 = (7, yX7_after, cX7_after, 4, (some .int)) := rfl
theorem mI_168 : mI 168 = (7, yX7_often, cX7_often, 3, (some .int)) := rfl
theorem mI_169 : mI 169 = (7, yX7_crossing, cX7_crossing, 7, (some .int)) := rfl
theorem mI_170 : mI 170 = (7, yX7_leastCrossing, cX7_leastCrossing, 7, (some .int)) := rfl
theorem mI_171 : mI 171 = (7, yX7_balanceFor, cX7_balanceFor, 2, (some .int)) := rfl
theorem mI_172 : mI 172 = (7, yX7_gaits, cX7_gaits, 2, (some .int)) := rfl
theorem mI_173 : mI 173 = (7, yX7_gaitFor, cX7_gaitFor, 2, (some .int)) := rfl
theorem mI_174 : mI 174 = (7, yX7_kindsFor, cX7_kindsFor, 5, (some .int)) := rfl
theorem mI_175 : mI 175 = (7, yX7_lay0, cX7_lay0, 3, none) := rfl
theorem mI_176 : mI 176 = (7, yX7_layBack, cX7_layBack, 3, none) := rfl
theorem mI_177 : mI 177 = (7, yX7_goThrough, cX7_goThrough, 7, none) := rfl
theorem mI_178 : mI 178 = (7, yX7_findOrders, cX7_findOrders, 3, none) := rfl
theorem mI_179 : mI 179 = (7, yX7_order, cX7_order, 3, (some .int)) := rfl
theorem mI_180 : mI 180 = (7, yX7_orders, cX7_orders, 2, (some .int)) := rfl
theorem mI_181 : mI 181 = (7, yX7_fewest, cX7_fewest, 2, (some .int)) := rfl
theorem mI_182 : mI 182 = (7, yX7_most, cX7_most, 3, (some .int)) := rfl
theorem mI_183 : mI 183 = (7, yX7_layNew, cX7_layNew, 3, none) := rfl
theorem mI_184 : mI 184 = (7, yX7_lay, cX7_lay, 4, (some .int)) := rfl
theorem mI_185 : mI 185 = (7, yX7_best, cX7_best, 6, (some .int)) := rfl
theorem mI_186 : mI 186 = (7, yX7_unlikeOf, cX7_unlikeOf, 5, (some .int)) := rfl
theorem mI_187 : mI 187 = (7, yX7_unlike, cX7_unlike, 3, (some .int)) := rfl
theorem mI_188 : mI 188 = (7, yX7_taken, cX7_taken, 6, (some .int)) := rfl
theorem mI_189 : mI 189 = (7, yX7_lacks, cX7_lacks, 2, (some .int)) := rfl
theorem mI_190 : mI 190 = (7, yX7_lacksFor, cX7_lacksFor, 3, (some .int)) := rfl
theorem mI_191 : mI 191 = (7, yX7_swaysSo, cX7_swaysSo, 7, (some .boolean)) := rfl
theorem mI_192 : mI 192 = (7, yX7_fitting, cX7_fitting, 8, (some .int)) := rfl
theorem mI_193 : mI 193 = (7, yX7_fits, cX7_fits, 4, (some .int)) := rfl
theorem mI_194 : mI 194 = (7, yX7_gait, cX7_gait, 3, (some .int)) := rfl
theorem mI_195 : mI 195 = (7, yX7_who, cX7_who, 4, (some .int)) := rfl
theorem mI_196 : mI 196 = (7, yX7_drawn, cX7_drawn, 1, (some .int)) := rfl
theorem mI_197 : mI 197 = (7, yX7_strangers, cX7_strangers, 4, (some .int)) := rfl
theorem mI_198 : mI 198 = (7, yX7_odds, cX7_odds, 10, (some .long)) := rfl
theorem mI_199 : mI 199 = (7, yX7_seed, cX7_seed, 2, (some .int)) := rfl
theorem mI_200 : mI 200 = (7, yX7_feed, cX7_feed, 4, (some .int)) := rfl
theorem mI_201 : mI 201 = (7, yX7_wipe, cX7_wipe, 2, (some .int)) := rfl
theorem mI_202 : mI 202 = (7, yX7_byteAt, cX7_byteAt, 2, (some .int)) := rfl
theorem mI_203 : mI 203 = (7, yX7_next, cX7_next, 2, none) := rfl
theorem mI_204 : mI 204 = (7, yX7_isWord, cX7_isWord, 4, (some .boolean)) := rfl
theorem mI_205 : mI 205 = (7, yX7_must, cX7_must, 2, none) := rfl
theorem mI_206 : mI 206 = (7, yX7_number, cX7_number, 4, (some .int)) := rfl
theorem mI_207 : mI 207 = (7, yX7_addItem, cX7_addItem, 5, none) := rfl
theorem mI_208 : mI 208 = (7, yX7_kindTold, cX7_kindTold, 3, (some .int)) := rfl
theorem mI_209 : mI 209 = (7, yX7_afterWord, cX7_afterWord, 3, (some .int)) := rfl
theorem mI_210 : mI 210 = (7, yX7_readItem, cX7_readItem, 3, none) := rfl
theorem mI_211 : mI 211 = (7, yX7_isToldSo, cX7_isToldSo, 4, (some .int)) := rfl
theorem mI_212 : mI 212 = (7, yX7_text, cX7_text, 3, (some .int)) := rfl
theorem mI_213 : mI 213 = (7, yX7_isSpot, cX7_isSpot, 1, (some .boolean)) := rfl
theorem mI_214 : mI 214 = (7, yX7_hold, cX7_hold, 3, (some .int)) := rfl
theorem mI_215 : mI 215 = (7, yX7_as, cX7_as, 4, (some .int)) := rfl
theorem mI_216 : mI 216 = (7, yX7_isSheet, cX7_isSheet, 1, (some .boolean)) := rfl
theorem mI_217 : mI 217 = (7, yX7_cutTo, cX7_cutTo, 2, (some .int)) := rfl
theorem mI_218 : mI 218 = (7, yX7_sheet, cX7_sheet, 5, (some .int)) := rfl
theorem mI_219 : mI 219 = (7, yX7_write, cX7_write, 4, (some .int)) := rfl
theorem mI_220 : mI 220 = (7, yX7_copy, cX7_copy, 7, (some .int)) := rfl
theorem mI_221 : mI 221 = (7, yX7_above, cX7_above, 1, (some .int)) := rfl
theorem mI_222 : mI 222 = (7, yX7_isUnder, cX7_isUnder, 3, (some .boolean)) := rfl
theorem mI_223 : mI 223 = (7, yX7_load, cX7_load, 3, (some .int)) := rfl
theorem mI_224 : mI 224 = (7, yX7_judge, cX7_judge, 6, (some .int)) := rfl
theorem mI_225 : mI 225 = (7, yX7_image, cX7_image, 1, (some .int)) := rfl
theorem mI_226 : mI 226 = (7, yX7_undo, cX7_undo, 1, (some .int)) := rfl
theorem mI_227 : mI 227 = (7, yX7_tear, cX7_tear, 2, (some .int)) := rfl
theorem mI_228 : mI 228 = (7, yX7_count, cX7_count, 4, (some .int)) := rfl
theorem mI_229 : mI 229 = (7, yX7_status, cX7_status, 2, (some .int)) := rfl
theorem mI_230 : mI 230 = (16, yJ6_bitCount_0f7a4, cJ6_bitCount_0f7a4, 1, (some .int)) := rfl
theorem mI_231 : mI 231 = (10, yJ0_length_8abf5, cJ0_length_8abf5, 1, (some .int)) := rfl
theorem mI_232 : mI 232 = (10, yJ0_charAt_5068e, cJ0_charAt_5068e, 2, (some .char)) := rfl
theorem mI_233 : mI 233 = (10, yJ0_coder_7d493, cJ0_coder_7d493, 1, (some .byte)) := rfl
theorem mI_234 : mI 234 = (10, yJ0_isLatin1_aae02, cJ0_isLatin1_aae02, 1, (some .boolean)) := rfl
theorem mI_235 : mI 235 = (10, yJ0_checkIndex_df160, cJ0_checkIndex_df160, 2, none) := rfl
theorem mI_236 : mI 236 = (11, yJ1_charAt_3b067, cJ1_charAt_3b067, 2, (some .char)) := rfl
theorem mI_237 : mI 237 = (12, yJ2_getChar_3b067, cJ2_getChar_3b067, 2, (some .char)) := rfl
theorem mI_238 : mI 238 = (12, yJ2_length_9d52b, cJ2_length_9d52b, 1, (some .int)) := rfl
theorem mI_239 : mI 239 = (12, yJ2_charAt_3b067, cJ2_charAt_3b067, 2, (some .char)) := rfl
theorem mI_240 : mI 240 = (12, yJ2_checkIndex_2214a, cJ2_checkIndex_2214a, 2, none) := rfl
theorem mI_241 : mI 241 = (13, yJ3_checkIndex_8e157, cJ3_checkIndex_8e157, 3, (some .int)) := rfl
theorem enterV {d j oc nL n : Nat} {y : MethodName} {cc : ByteArray} {ret : Option FieldType} {args : List Value} {M : Mem} {k : Value → Mem → Prop} (T : List (Nat × PF)) (cuts : List Nat) (hm : mI j = (oc, y, cc, nL, ret)) (hj : j < NM) (hn : (lpad args).length ≤ nL) (hT : ∀ e ∈ T, Snd d e.1 e.2) (h : vc oc cc ret (csT d T) k cuts (WP (oc, y, cc, nL, ret) (d + 1) k) n 0 (lent nL args) [] M) : CallP (d + 1) j args M k := by
  refine call_enter hj (by rw [hm]; exact hn) ?_
  rw [hm]
  exact vc_sound (mi := (oc, y, cc, nL, ret)) (csT_sound hT) (fun _ _ _ _ h => h) n _ _ _ _ h
theorem goV {d oc nL n pc : Nat} {y : MethodName} {cc : ByteArray} {ret : Option FieldType} {L st : List Value} {M : Mem} {k : Value → Mem → Prop} (T : List (Nat × PF)) (cuts : List Nat) (hT : ∀ e ∈ T, Snd d e.1 e.2) (h : vstp oc ret (csT d T) k (vc oc cc ret (csT d T) k cuts (WP (oc, y, cc, nL, ret) (d + 1) k) n) (decode cc pc) pc L st M) : WP (oc, y, cc, nL, ret) (d + 1) k pc L st M :=
  vstp_sound (mi := (oc, y, cc, nL, ret)) (csT_sound hT) (vc_sound (mi := (oc, y, cc, nL, ret)) (csT_sound hT) (fun _ _ _ _ h => h) n) h
theorem T_nil {d : Nat} : ∀ e ∈ ([] : List (Nat × PF)), Snd d e.1 e.2 := fun _ h => absurd h List.not_mem_nil
theorem T_cons {d j : Nat} {f : PF} {T : List (Nat × PF)} (h : Snd d j f) (hT : ∀ e ∈ T, Snd d e.1 e.2) : ∀ e ∈ (j, f) :: T, Snd d e.1 e.2 := List.forall_mem_cons.mpr ⟨h, hT⟩
end
